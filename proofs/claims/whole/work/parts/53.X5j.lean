/-- the numbers of the batch from a on -/
def bt (σ : SG) (a n : Nat) : List Nat := (List.range n).map (fun k => σ 14 0 0 (a + k))
theorem bt_len (σ : SG) (a n : Nat) : (bt σ a n).length = n := by simp [bt]
theorem bt_s (σ : SG) (a n : Nat) : bt σ a (n + 1) = bt σ a n ++ [σ 14 0 0 (a + n)] := by
  unfold bt
  rw [List.range_succ, List.map_append]
  rfl
theorem bt_app (σ : SG) (a n m : Nat) : bt σ a (n + m) = bt σ a n ++ bt σ (a + n) m := by
  induction m with
  | zero => simp [bt]
  | succ m ih => rw [← Nat.add_assoc, bt_s, bt_s, ih, List.append_assoc, Nat.add_assoc a n m]
theorem bt_take (σ : SG) (a : Nat) {n k : Nat} (h : k ≤ n) : (bt σ a n).take k = bt σ a k := by
  obtain ⟨m, rfl⟩ := Nat.exists_eq_add_of_le h
  rw [bt_app, List.take_append_of_le_length (by rw [bt_len]; exact Nat.le_refl _), List.take_of_length_le (by rw [bt_len]; exact Nat.le_refl _)]
theorem bt_drop (σ : SG) (a : Nat) {n k : Nat} (h : k ≤ n) : (bt σ a n).drop k = bt σ (a + k) (n - k) := by
  obtain ⟨m, rfl⟩ := Nat.exists_eq_add_of_le h
  rw [bt_app, List.drop_append_of_le_length (by rw [bt_len]; exact Nat.le_refl _), List.drop_of_length_le (by rw [bt_len]; exact Nat.le_refl _), List.nil_append, Nat.add_sub_cancel_left]
theorem lsO_len (σ : SG) (w : Nat) : (lsO σ w).length = σ 12 w 0 0 := by simp [lsO]
theorem SF_layv {σ0 σ : SG} (h : SF σ0 σ) (c : Nat) : layv σ c = layv σ0 c := by
  funext v x
  unfold layv
  rw [h.2.1 c 3 (by decide) (by decide) (by decide), h.1 7 (by decide) (by decide) (by decide) (by decide) (by decide) rfl]

