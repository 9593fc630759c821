/-! ===== a merge in the class's memory is the merge of the abstract state ===== -/
def mrP (σ : SG) (A : AS) (i o : Nat) : AS :=
  (fun c => if c = i then 109 else if c < o ∧ hit σ A i c = true then 111 else aS A c,
   fun c => if c = i then 0 else aF A c,
   fun c x => aC A c x || (decide (c < o) && hit σ A i c && (σ 6 c 0 3).testBit x && (σ 6 i 0 3).testBit x),
   (aQ A).filter (fun c => decide (c ≠ i) && !(decide (c < o) && hit σ A i c)),
   aM A ++ [i],
   layv σ i (aT A),
   aK A)
theorem hit_self (σ : SG) (A : AS) (i : Nat) : hit σ A i i = false := by simp [hit]
theorem mrP_no {σ : SG} {A : AS} {i o : Nat} (h : hit σ A i o = false) : mrP σ A i (o + 1) = mrP σ A i o := by
  have e1 : ∀ c, (c < o + 1 ∧ hit σ A i c = true) ↔ (c < o ∧ hit σ A i c = true) := fun c => by
    by_cases hc : c = o
    · subst hc; simp [h]
    · constructor
      · rintro ⟨q1, q2⟩; exact ⟨by omega, q2⟩
      · rintro ⟨q1, q2⟩; exact ⟨by omega, q2⟩
  have e2 : ∀ c, (decide (c < o + 1) && hit σ A i c) = (decide (c < o) && hit σ A i c) := fun c => by
    by_cases hc : c = o
    · subst hc; simp [h]
    · have : decide (c < o + 1) = decide (c < o) := by
        apply decide_eq_decide.mpr
        omega
      rw [this]
  unfold mrP
  simp only [e1, e2]
theorem mrP_last {σ : SG} {A : AS} {i : Nat} : mrP σ A i (σ 0 0 0 0) = mrgA σ A i := by
  have e0 : ∀ c, hit σ A i c = true → c < σ 0 0 0 0 := fun c h => by
    unfold hit at h
    simp only [Bool.and_eq_true, decide_eq_true_eq] at h
    exact h.1.1.1
  have e1 : ∀ c, (c < σ 0 0 0 0 ∧ hit σ A i c = true) ↔ hit σ A i c = true := fun c => ⟨fun q => q.2, fun q => ⟨e0 c q, q⟩⟩
  have e2 : ∀ c, (decide (c < σ 0 0 0 0) && hit σ A i c) = hit σ A i c := fun c => by
    cases h : hit σ A i c with
    | false => simp
    | true => simp [e0 c h]
  unfold mrP mrgA
  simp only [e1, e2]
