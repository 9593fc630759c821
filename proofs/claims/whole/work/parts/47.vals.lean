/-! ===== a build reads the 64 places only ===== -/
theorem inpv_v {σ : SG} (hB : BD σ) {v v' : Nat → Nat} (h : ∀ x, x < 64 → v x = v' x) (d : Nat) : ∀ n, inpv σ v d n = inpv σ v' d n
  | 0 => rfl
  | n + 1 => by
    unfold inpv
    rw [inpv_v hB h d n, h _ (hB 18 n 0 0 rfl), h _ (hB 18 n 0 1 rfl)]
theorem apv_v {σ : SG} (hB : BD σ) {v v' : Nat → Nat} (h : ∀ x, x < 64 → v x = v' x) (d n : Nat) : apv σ v d n = apv σ v' d n := by
  unfold apv
  congr 1
  funext t
  unfold psv
  rw [h _ (hB 18 t 0 0 rfl), h _ (hB 18 t 0 1 rfl)]
theorem ev_v {σ : SG} (hB : BD σ) {v v' : Nat → Nat} (h : ∀ x, x < 64 → v x = v' x) (d : Nat) : ev σ v d = ev σ v' d := by
  unfold ev
  rw [inpv_v hB h, apv_v hB h]
theorem sbl_v {σ : SG} (hB : BD σ) {v v' : Nat → Nat} (h : ∀ x, x < 64 → v x = v' x) : ∀ r K, sbl σ v r K = sbl σ v' r K
  | 0, _ => rfl
  | r + 1, K => by
    unfold sbl
    rw [inpv_v hB h, apv_v hB h, ev_v hB h, sbl_v hB h r, sbl_v hB h r]
theorem ev_18 {σ σ' : SG} (h : σ' 18 = σ 18) (h16 : σ' 16 0 0 0 = σ 16 0 0 0) (v : Nat → Nat) (d : Nat) : ev σ' v d = ev σ v d := by
  unfold ev
  rw [inpv_18 h, apv_18 h, show nT σ' = nT σ from h16]
theorem sbl_18 {σ σ' : SG} (h : σ' 18 = σ 18) (h16 : σ' 16 0 0 0 = σ 16 0 0 0) (v : Nat → Nat) : ∀ r K, sbl σ' v r K = sbl σ v r K
  | 0, _ => rfl
  | r + 1, K => by
    unfold sbl
    rw [show nT σ' = nT σ from h16, inpv_18 h, apv_18 h, ev_18 h h16, sbl_18 h h16 v r, sbl_18 h h16 v r]
/-- what stands in the candidate behind the batch's changes -/
theorem lyl_v (σ : SG) (a : Nat) : ∀ n x, x < 64 → lyl σ a n 15 1 0 x = ((List.range n).map (fun k => σ 14 0 0 (a + k))).foldl (fun v c => layv σ c v) (σ 15 0 0) x
  | 0, x, hx => by
    show cnd σ 15 1 0 x = σ 15 0 0 x
    unfold cnd
    rw [upr_same, if_pos hx]
  | n + 1, x, hx => by
    rw [List.range_succ, List.map_append, List.foldl_append]
    show lay (lyl σ a n) (σ 14 0 0 (a + n)) 1 64 15 1 0 x = layv σ (σ 14 0 0 (a + n)) _ x
    unfold lay layv
    rw [lyl_k (by decide), lyl_k (by decide)]
    by_cases h : (σ 6 (σ 14 0 0 (a + n)) 0 3).testBit x = true
    · rw [if_pos ⟨rfl, rfl, rfl, hx, h⟩, if_pos h]
    · rw [if_neg (fun q => h q.2.2.2.2), if_neg h]
      exact lyl_v σ a n x hx
