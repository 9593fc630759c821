theorem out_mrg {s : SG} {A : AS} {i c : Nat} (hi : i < s 0 0 0 0) (hc : s 0 0 0 0 ≤ c) : aS (mrgA s A i) c = aS A c ∧ aF (mrgA s A i) c = aF A c ∧ ∀ x, aC (mrgA s A i) c x = aC A c x := by
  have hh : hit s A i c = false := by
    unfold hit
    rw [decide_eq_false (show ¬ c < s 0 0 0 0 by omega)]
    rfl
  have hne : c ≠ i := by omega
  refine ⟨?_, ?_, fun x => ?_⟩
  · show (if c = i then 109 else if hit s A i c = true then 111 else aS A c) = _
    rw [if_neg hne, if_neg (by rw [hh]; decide)]
  · show (if c = i then 0 else aF A c) = _
    rw [if_neg hne]
  · show (aC A c x || (hit s A i c && (s 6 c 0 3).testBit x && (s 6 i 0 3).testBit x)) = _
    rw [hh]
    simp
theorem out_fold {s : SG} {c : Nat} (hc : s 0 0 0 0 ≤ c) : ∀ (b : List Nat) (A : AS), (∀ i ∈ b, i < s 0 0 0 0) → aS (b.foldl (mrgA s) A) c = aS A c ∧ aF (b.foldl (mrgA s) A) c = aF A c ∧ ∀ x, aC (b.foldl (mrgA s) A) c x = aC A c x
  | [], _, _ => ⟨rfl, rfl, fun _ => rfl⟩
  | i :: b, A, h => by
    obtain ⟨a1, a2, a3⟩ := out_fold hc b (mrgA s A i) (fun x hx => h x (List.mem_cons_of_mem _ hx))
    obtain ⟨b1, b2, b3⟩ := out_mrg (A := A) (h i List.mem_cons_self) hc
    exact ⟨a1.trans b1, a2.trans b2, fun x => (a3 x).trans (b3 x)⟩
theorem out_trs {s : SG} {c : Nat} (hc : s 0 0 0 0 ≤ c) : ∀ (f : Nat) (b : List Nat) (A : AS), b ≠ [] → (∀ i ∈ b, i < s 0 0 0 0) → aS (trsA s f b A).2.1 c = aS A c ∧ aF (trsA s f b A).2.1 c = aF A c ∧ ∀ x, aC (trsA s f b A).2.1 c x = aC A c x
  | 0, _, _, _, _ => ⟨rfl, rfl, fun _ => rfl⟩
  | f + 1, b, A, hb, h => by
    by_cases g : (sbl s (b.foldl (fun v c => layv s c v) (aT A)) 4 (aK A)).1 = true
    · rw [trs_t g]
      exact out_fold hc b (setK A _) h
    · by_cases l : b.length ≤ 1
      · rw [trs_1 g l]
        cases b with
        | nil => exact absurd rfl hb
        | cons i b =>
          have hi := h i List.mem_cons_self
          have hne : c ≠ i := by omega
          refine ⟨?_, ?_, fun _ => rfl⟩
          · show (if c = i then 111 else aS A c) = _
            rw [if_neg hne]
          · show (if c = i then 1 else aF A c) = _
            rw [if_neg hne]
      · rw [trs_h g l]
        have ht : b.take (b.length / 2) ≠ [] := fun q => by
          have := congrArg List.length q
          rw [List.length_take, List.length_nil] at this
          omega
        have hd : b.drop (b.length / 2) ≠ [] := fun q => by
          have := congrArg List.length q
          rw [List.length_drop, List.length_nil] at this
          omega
        obtain ⟨a1, a2, a3⟩ := out_trs hc f (b.take (b.length / 2)) (setK A (sbl s (b.foldl (fun v c => layv s c v) (aT A)) 4 (aK A)).2.1) ht (fun i hi => h i (List.mem_of_mem_take hi))
        obtain ⟨b1, b2, b3⟩ := out_trs hc f (b.drop (b.length / 2)) (trsA s f (b.take (b.length / 2)) (setK A (sbl s (b.foldl (fun v c => layv s c v) (aT A)) 4 (aK A)).2.1)).2.1 hd (fun i hi => h i (List.mem_of_mem_drop hi))
        exact ⟨b1.trans a1, b2.trans a2, fun x => (b3 x).trans (a3 x)⟩
theorem out_step {s : SG} {A : AS} (hA : AI s A) {c : Nat} (hc : s 0 0 0 0 ≤ c) : aS (ro_step s A).2.1 c = aS A c ∧ aF (ro_step s A).2.1 c = aF A c ∧ ∀ x, aC (ro_step s A).2.1 c x = aC A c x := by
  unfold ro_step
  split
  · exact ⟨rfl, rfl, fun _ => rfl⟩
  · rename_i h
    exact out_trs hc 3 _ _ h (fun i hi => (hA.2.2.1 i ((pck_BI hA).1.2.1 i hi)).1)
theorem out_revert {s : SG} {A : AS} (hA : AI s A) (x : Int32) {c : Nat} (hc : s 0 0 0 0 ≤ c) : aS (ro_revert s A x).2.1 c = aS A c ∧ aF (ro_revert s A x).2.1 c = aF A c ∧ ∀ y, aC (ro_revert s A x).2.1 c y = aC A c y := by
  unfold ro_revert
  cases inR x (s 0 0 0 0) with
  | none => exact ⟨rfl, rfl, fun _ => rfl⟩
  | some n =>
    dsimp only
    split
    · exact ⟨rfl, rfl, fun _ => rfl⟩
    split
    · refine ⟨?_, rfl, fun _ => rfl⟩
      show (if c ∈ gnl s n (aM A) then 118 else aS A c) = _
      rw [if_neg (fun q => by
        have := (hA.2.2.2 c ((gnl_ok s n hA.2.1).2 c q)).1
        omega)]
    · exact ⟨rfl, rfl, fun _ => rfl⟩
theorem nwB_lo {k x : Nat} (h : k < 30) : nwB k x = false := by
  have h1 : ∀ n, 30 ≤ n → (k == n) = false := fun n hn => by simp; omega
  unfold nwB mwB mfB kM dyB
  rw [h1 31 (by decide), h1 43 (by decide), h1 50 (by decide), h1 51 (by decide), h1 52 (by decide), h1 53 (by decide), h1 30 (by decide), h1 54 (by decide), h1 55 (by decide), h1 56 (by decide), h1 57 (by decide), h1 58 (by decide), h1 59 (by decide), h1 62 (by decide)]
  rfl
theorem kS_hi {k : Nat} (h : 30 ≤ k) : kS k = false := by
  have h1 : ∀ n, n < 30 → (k == n) = false := fun n hn => by simp; omega
  unfold kS
  rw [h1 16 (by decide), h1 19 (by decide), h1 20 (by decide), h1 21 (by decide), h1 22 (by decide)]
  rfl
