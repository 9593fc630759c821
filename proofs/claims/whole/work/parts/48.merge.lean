/-! ===== a merge in the class's memory is the merge of the abstract state ===== -/
def mrP (σ : SG) (A : AS) (i o : Nat) : AS :=
  (fun c => if c = i then 109 else if c < o ∧ hit σ A i c = true then 111 else aS A c,
   fun c => if c = i then 0 else aF A c,
   fun c x => aC A c x || (decide (c < o) && hit σ A i c && (σ 6 c 0 3).testBit x && (σ 6 i 0 3).testBit x),
   (aQ A).filter (fun c => decide (c ≠ i) && !(decide (c < o) && hit σ A i c)),
   aM A ++ [i],
   layv σ i (aT A),
   aK A)
theorem hit_self (σ : SG) (A : AS) (i : Nat) : hit σ A i i = false := by simp [hit]
theorem mrP_no {σ : SG} {A : AS} {i o : Nat} (h : hit σ A i o = false) : mrP σ A i (o + 1) = mrP σ A i o := by
  have e1 : ∀ c, (c < o + 1 ∧ hit σ A i c = true) ↔ (c < o ∧ hit σ A i c = true) := fun c => by
    by_cases hc : c = o
    · subst hc; simp [h]
    · constructor
      · rintro ⟨q1, q2⟩; exact ⟨by omega, q2⟩
      · rintro ⟨q1, q2⟩; exact ⟨by omega, q2⟩
  have e2 : ∀ c, (decide (c < o + 1) && hit σ A i c) = (decide (c < o) && hit σ A i c) := fun c => by
    by_cases hc : c = o
    · subst hc; simp [h]
    · have : decide (c < o + 1) = decide (c < o) := by
        apply decide_eq_decide.mpr
        omega
      rw [this]
  unfold mrP
  simp only [e1, e2]
theorem mrP_last {σ : SG} {A : AS} {i : Nat} : mrP σ A i (σ 0 0 0 0) = mrgA σ A i := by
  have e0 : ∀ c, hit σ A i c = true → c < σ 0 0 0 0 := fun c h => by
    unfold hit at h
    simp only [Bool.and_eq_true, decide_eq_true_eq] at h
    exact h.1.1.1
  have e1 : ∀ c, (c < σ 0 0 0 0 ∧ hit σ A i c = true) ↔ hit σ A i c = true := fun c => ⟨fun q => q.2, fun q => ⟨e0 c q, q⟩⟩
  have e2 : ∀ c, (decide (c < σ 0 0 0 0) && hit σ A i c) = hit σ A i c := fun c => by
    cases h : hit σ A i c with
    | false => simp
    | true => simp [e0 c h]
  unfold mrP mrgA
  simp only [e1, e2]
/-- the base of a merge: nothing has clashed yet -/
theorem RC_mg0 {σ : SG} {A : AS} {i : Nat} (hi : i < 16) (h : RC σ A) : RC (mg0 σ i) (mrP σ A i 0) := by
  obtain ⟨h1, h2, h3, h4, h5, h6⟩ := h
  have b6 : ∀ c x, mg0 σ i 6 c 0 x = if c = i ∧ x = 2 then 0 else if c = i ∧ x = 1 then 109 else σ 6 c 0 x := fun c x => by
    unfold mg0
    rw [lay_k (by decide)]
    by_cases e2 : c = i ∧ x = 2
    · obtain ⟨rfl, rfl⟩ := e2
      rw [if_pos ⟨rfl, rfl⟩, up_same]
    · rw [if_neg e2, show up (up (apO (drO σ 0 i) 1 i) 6 i 0 1 109) 6 i 0 2 0 6 c 0 x = up (apO (drO σ 0 i) 1 i) 6 i 0 1 109 6 c 0 x from by
        by_cases hc : c = i
        · exact up_x (fun q => e2 ⟨hc, q⟩)
        · exact up_i hc]
      by_cases e1 : c = i ∧ x = 1
      · obtain ⟨rfl, rfl⟩ := e1
        rw [if_pos ⟨rfl, rfl⟩, up_same]
      · rw [if_neg e1, show up (apO (drO σ 0 i) 1 i) 6 i 0 1 109 6 c 0 x = apO (drO σ 0 i) 1 i 6 c 0 x from by
          by_cases hc : c = i
          · exact up_x (fun q => e1 ⟨hc, q⟩)
          · exact up_i hc, apO_k (by decide) (by decide), drO_k (by decide) (by decide)]
  have bl : ∀ w, lsO (mg0 σ i) w = lsO (apO (drO σ 0 i) 1 i) w := fun w => by
    unfold lsO mg0
    rw [lay_k (by decide), up_k (by decide), up_k (by decide)]
    apply List.map_congr_left
    intro x _
    rw [lay_k (by decide), up_k (by decide), up_k (by decide)]
  have ap0 : lsO (apO (drO σ 0 i) 1 i) 0 = lsO (drO σ 0 i) 0 := by
    unfold lsO apO
    rw [up_i (by decide), up_k (by decide)]
    apply List.map_congr_left
    intro x _
    rw [up_k (by decide), up_i (by decide)]
  refine ⟨fun c hc => ?_, fun c hc => ?_, fun c hc x hx => ?_, ?_, ?_, fun x hx => ?_⟩
  · rw [b6]
    show _ = if c = i then 109 else if c < 0 ∧ hit σ A i c = true then 111 else aS A c
    by_cases e : c = i
    · rw [if_neg (by omega), if_pos ⟨e, rfl⟩, if_pos e]
    · rw [if_neg (by omega), if_neg (by omega), if_neg e, if_neg (by omega)]
      exact h1 c hc
  · rw [b6]
    show _ = if c = i then 0 else aF A c
    by_cases e : c = i
    · rw [if_pos ⟨e, rfl⟩, if_pos e]
    · rw [if_neg (by omega), if_neg (by omega), if_neg e]
      exact h2 c hc
  · rw [b6, if_neg (by omega), if_neg (by omega)]
    show _ = (aC A c x || (decide (c < 0) && hit σ A i c && (σ 6 c 0 3).testBit x && (σ 6 i 0 3).testBit x))
    rw [h3 c hc x hx]
    simp
  · rw [bl, ap0, lsO_drO, h4]
    show _ = (aQ A).filter (fun c => decide (c ≠ i) && !(decide (c < 0) && hit σ A i c))
    apply List.filter_congr
    intro c _
    simp
  · rw [bl, lsO_apO, lsO_other (by decide), h5]
    rfl
  · show lay (up (up (apO (drO σ 0 i) 1 i) 6 i 0 1 109) 6 i 0 2 0) i 0 64 15 0 0 x = layv σ i (aT A) x
    have k6 : up (up (apO (drO σ 0 i) 1 i) 6 i 0 1 109) 6 i 0 2 0 6 i 0 3 = σ 6 i 0 3 := by
      rw [up_x (by decide), up_x (by decide), apO_k (by decide) (by decide), drO_k (by decide) (by decide)]
    unfold lay layv
    rw [k6]
    by_cases e : (σ 6 i 0 3).testBit x = true
    · rw [if_pos ⟨rfl, rfl, rfl, hx, e⟩, if_pos e, up_k (by decide), up_k (by decide), apO_k (by decide) (by decide), drO_k (by decide) (by decide)]
    · rw [if_neg (fun q => e q.2.2.2.2), if_neg e, up_k (by decide), up_k (by decide), apO_k (by decide) (by decide), drO_k (by decide) (by decide)]
      exact h6 x hx
