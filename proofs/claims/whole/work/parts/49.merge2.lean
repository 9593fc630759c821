theorem hit_iff {σ : SG} {A : AS} {i o : Nat} (hoc : o < σ 0 0 0 0) (hne : o ≠ i) : hit σ A i o = true ↔ σ 6 o 0 3 &&& σ 6 i 0 3 ≠ 0 ∧ (aS A o = 111 ∨ aS A o = 113) := by
  unfold hit shr
  simp [hoc, hne]
theorem lt_s1 {c o : Nat} (h : c ≠ o) : (c < o + 1) ↔ (c < o) := by omega
theorem RC_clS {σ τ : SG} {A : AS} {i o : Nat} (ho : o < 16) (hne : o ≠ i) (hoc : o < σ 0 0 0 0) (hQ : ∀ c ∈ aQ A, aS A c = 113) (hs : τ 6 o 0 3 = σ 6 o 0 3) (h : RC τ (mrP σ A i o)) : RC (clS τ o (σ 6 i 0 3)) (mrP σ A i (o + 1)) := by
  have hst : τ 6 o 0 1 = aS A o := by
    rw [h.1 o ho]
    show (if o = i then 109 else if o < o ∧ hit σ A i o = true then 111 else aS A o) = aS A o
    rw [if_neg hne, if_neg (fun q => absurd q.1 (by omega))]
  have hif := hit_iff (A := A) hoc hne
  unfold clS
  rw [hs, hst]
  by_cases hz : σ 6 o 0 3 &&& σ 6 i 0 3 = 0
  · rw [if_pos hz, mrP_no (by cases e : hit σ A i o with
      | false => rfl
      | true => exact absurd hz (hif.mp e).1)]
    exact h
  rw [if_neg hz]
  obtain ⟨h1, h2, h3, h4, h5, h6⟩ := h
  have bits : hit σ A i o = true → ∀ (u : SG), (∀ c x, u 6 c 0 4 = up τ 6 o 0 4 (τ 6 o 0 4 ||| (σ 6 o 0 3 &&& σ 6 i 0 3)) 6 c 0 4 ∧ (x = x)) → ∀ c, c < 16 → ∀ x, x < 64 → (u 6 c 0 4).testBit x = aC (mrP σ A i (o + 1)) c x := fun hh u hu c hc x hx => by
    rw [(hu c x).1]
    show _ = (aC A c x || (decide (c < o + 1) && hit σ A i c && (σ 6 c 0 3).testBit x && (σ 6 i 0 3).testBit x))
    have old := h3 c hc x hx
    by_cases e : c = o
    · subst e
      rw [up_same, Nat.testBit_or, Nat.testBit_and, old, hh]
      show (aC A c x || (decide (c < c) && hit σ A i c && (σ 6 c 0 3).testBit x && (σ 6 i 0 3).testBit x) || _) = _
      simp
    · rw [up_i e, old]
      show (aC A c x || (decide (c < o) && hit σ A i c && (σ 6 c 0 3).testBit x && (σ 6 i 0 3).testBit x)) = _
      rw [show decide (c < o + 1) = decide (c < o) from decide_eq_decide.mpr (lt_s1 e)]
  by_cases e1 : aS A o = 111
  · rw [if_pos e1]
    have hh : hit σ A i o = true := hif.mpr ⟨hz, .inl e1⟩
    refine ⟨fun c hc => ?_, fun c hc => ?_, bits hh _ (fun c x => ⟨rfl, rfl⟩), ?_, ?_, fun x hx => ?_⟩
    · rw [up_x (by decide), h1 c hc]
      show (if c = i then 109 else if c < o ∧ hit σ A i c = true then 111 else aS A c) = (if c = i then 109 else if c < o + 1 ∧ hit σ A i c = true then 111 else aS A c)
      by_cases e : c = o
      · subst e
        rw [if_neg (c := c < c ∧ _) (fun q => absurd q.1 (by omega)), if_pos (c := c < c + 1 ∧ _) ⟨by omega, hh⟩, e1]
      · simp only [lt_s1 e]
    · rw [up_x (by decide)]
      exact h2 c hc
    · have : lsO (up τ 6 o 0 4 (τ 6 o 0 4 ||| (σ 6 o 0 3 &&& σ 6 i 0 3))) 0 = lsO τ 0 := rfl
      rw [this, h4]
      show (aQ A).filter _ = (aQ A).filter _
      apply List.filter_congr
      intro c hc
      have hco : c ≠ o := fun q => by
        subst q
        rw [hQ c hc] at e1
        cases e1
      rw [show decide (c < o + 1) = decide (c < o) from decide_eq_decide.mpr (lt_s1 hco)]
    · exact h5
    · rw [up_k (by decide)]
      exact h6 x hx
  rw [if_neg e1]
  by_cases e3 : aS A o = 113
  · rw [if_pos e3]
    have hh : hit σ A i o = true := hif.mpr ⟨hz, .inr e3⟩
    refine ⟨fun c hc => ?_, fun c hc => ?_, bits hh _ (fun c x => ⟨by unfold rpn; rw [up_x (by decide), drO_k (by decide) (by decide)], rfl⟩), ?_, ?_, fun x hx => ?_⟩
    · show _ = (if c = i then 109 else if c < o + 1 ∧ hit σ A i c = true then 111 else aS A c)
      unfold rpn
      by_cases e : c = o
      · subst e
        rw [up_same, if_neg hne, if_pos ⟨by omega, hh⟩]
      · rw [up_i e, drO_k (by decide) (by decide), up_x (by decide), h1 c hc]
        show (if c = i then 109 else if c < o ∧ hit σ A i c = true then 111 else aS A c) = _
        simp only [lt_s1 e]
    · unfold rpn
      rw [up_x (by decide), drO_k (by decide) (by decide), up_x (by decide)]
      exact h2 c hc
    · have e5 : lsO (rpn (up τ 6 o 0 4 (τ 6 o 0 4 ||| (σ 6 o 0 3 &&& σ 6 i 0 3))) o) 0 = lsO (drO (up τ 6 o 0 4 (τ 6 o 0 4 ||| (σ 6 o 0 3 &&& σ 6 i 0 3))) 0 o) 0 := rfl
      have e6 : lsO (up τ 6 o 0 4 (τ 6 o 0 4 ||| (σ 6 o 0 3 &&& σ 6 i 0 3))) 0 = lsO τ 0 := rfl
      rw [e5, lsO_drO, e6, h4]
      show ((aQ A).filter _).filter _ = (aQ A).filter _
      rw [List.filter_filter]
      apply List.filter_congr
      intro c hc
      by_cases e : c = o
      · subst e
        simp [hh]
      · rw [show decide (c < o + 1) = decide (c < o) from decide_eq_decide.mpr (lt_s1 e)]
        simp [e]
    · have e5 : lsO (rpn (up τ 6 o 0 4 (τ 6 o 0 4 ||| (σ 6 o 0 3 &&& σ 6 i 0 3))) o) 1 = lsO (drO (up τ 6 o 0 4 (τ 6 o 0 4 ||| (σ 6 o 0 3 &&& σ 6 i 0 3))) 0 o) 1 := rfl
      have e6 : lsO (up τ 6 o 0 4 (τ 6 o 0 4 ||| (σ 6 o 0 3 &&& σ 6 i 0 3))) 1 = lsO τ 1 := rfl
      rw [e5, lsO_other (by decide), e6]
      exact h5
    · unfold rpn
      rw [up_k (by decide), drO_k (by decide) (by decide), up_k (by decide)]
      exact h6 x hx
  · rw [if_neg e3, mrP_no (by cases e : hit σ A i o with
      | false => rfl
      | true => exact absurd (hif.mp e).2 (fun q => q.elim e1 e3))]
    exact ⟨h1, h2, h3, h4, h5, h6⟩
