set_option maxHeartbeats 4000000 in
set_option maxRecDepth 100000 in
theorem c_X1_hasEdit {l : Launch} (hl0 : l.stackTraces = false) {G : GT} {ok : KF} {ad : AD} {σ : SG} (hO : OKC ok) (hB : BD σ) {i : Nat} (hi : i < 16) {p : Nat} (hp : p < 64) : Ct l G 1 yX1_hasEdit cX1_hasEdit 2 (some .boolean) [.ref (ad 6 i 0), iv p] ok ad σ (Rt (some (iv (b2n ((σ 6 i 0 3).testBit p)))) ok ad σ) (NX) 0 0 := by
  refine Ct.mk (by decide +kernel) hl0 (Nat.le_of_ble_eq_true rfl) (fun X hX hC hM => ?_)
  subst hX
  refine v_aload_n hC dX1_hasEdit_0 rfl ?_
  refine gf_X1_31 hC dX1_hasEdit_1 hO (by first | omega | exact hB _ _ _ _ rfl | exact hB.i _ _ _ _ rfl | assumption | exact and_lt (hB _ _ _ _ rfl) | exact b2n_31 _) ?_
  refine v_lconst (v := lN 1) hC dX1_hasEdit_4 (by decide) ?_
  refine v_iload_n hC dX1_hasEdit_5 rfl ?_
  refine v_lshlN hC dX1_hasEdit_6 (by first | omega | exact hB _ _ _ _ rfl | exact hB.i _ _ _ _ rfl | assumption | exact and_lt (hB _ _ _ _ rfl) | exact b2n_31 _) ?_
  refine v_landN hC dX1_hasEdit_7 ?_
  refine v_lconst (v := lN 0) hC dX1_hasEdit_8 (by decide) ?_
  refine v_lcmp hC dX1_hasEdit_9 ?_
  refine v_if_eqJ (tgt := 17) hC dX1_hasEdit_10 (by decide) (by first | omega | exact hB _ _ _ _ rfl | exact hB.i _ _ _ _ rfl | assumption | exact and_lt (hB _ _ _ _ rfl) | exact b2n_31 _) (by first | omega | exact hB _ _ _ _ rfl | exact hB.i _ _ _ _ rfl | assumption | exact and_lt (hB _ _ _ _ rfl) | exact b2n_31 _) (fun c_10 => ?_) (fun c_10 => ?_)
  · refine v_iconst (v := nI 0) hC dX1_hasEdit_17 (by decide) ?_
    refine v_zret hC hM dX1_hasEdit_18 rfl (by omega) (by omega) ?_
    first
      | exact ⟨by rw [(bit_z _ _).mp c_10]; rfl, rfl⟩
      | exact ⟨by rw [bit_nz c_10]; rfl, rfl⟩
  · refine v_iconst (v := nI 1) hC dX1_hasEdit_13 (by decide) ?_
    refine v_goto (tgt := 18) hC dX1_hasEdit_14 (by decide) ?_
    refine v_zret hC hM dX1_hasEdit_18 rfl (by omega) (by omega) ?_
    first
      | exact ⟨by rw [(bit_z _ _).mp c_10]; rfl, rfl⟩
      | exact ⟨by rw [bit_nz c_10]; rfl, rfl⟩

set_option maxHeartbeats 4000000 in
set_option maxRecDepth 100000 in
theorem c_X1_putEdit {l : Launch} (hl0 : l.stackTraces = false) {G : GT} {ok : KF} {ad : AD} {σ : SG} (hO : OKC ok) (hB : BD σ) {i : Nat} (hi : i < 16) {p v : Nat} (hp : p < 64) : Ct l G 1 yX1_putEdit cX1_putEdit 3 (none) [.ref (ad 6 i 0), iv p, iv v] ok ad σ (Rt none ok ad (up (up σ 6 i 0 3 (σ 6 i 0 3 ||| 1 * 2 ^ p)) 7 i 0 p v)) (NX) 0 0 := by
  refine Ct.mk (by decide +kernel) hl0 (Nat.le_of_ble_eq_true rfl) (fun X hX hC hM => ?_)
  subst hX
  refine v_aload_n hC dX1_putEdit_0 rfl ?_
  refine v_dup hC dX1_putEdit_1 rfl ?_
  refine gf_X1_31 hC dX1_putEdit_2 hO (by first | omega | exact hB _ _ _ _ rfl | exact hB.i _ _ _ _ rfl | assumption | exact and_lt (hB _ _ _ _ rfl) | exact b2n_31 _) ?_
  refine v_lconst (v := lN 1) hC dX1_putEdit_5 (by decide) ?_
  refine v_iload_n hC dX1_putEdit_6 rfl ?_
  refine v_lshlN hC dX1_putEdit_7 (by first | omega | exact hB _ _ _ _ rfl | exact hB.i _ _ _ _ rfl | assumption | exact and_lt (hB _ _ _ _ rfl) | exact b2n_31 _) ?_
  refine v_lorN hC dX1_putEdit_8 ?_
  refine pf_X1_31 hC dX1_putEdit_9 hO (by first | omega | exact hB _ _ _ _ rfl | exact hB.i _ _ _ _ rfl | assumption | exact and_lt (hB _ _ _ _ rfl) | exact b2n_31 _) ?_
  refine v_aload_n hC dX1_putEdit_12 rfl ?_
  refine gf_X1_15 hC dX1_putEdit_13 hO (by first | omega | exact hB _ _ _ _ rfl | exact hB.i _ _ _ _ rfl | assumption | exact and_lt (hB _ _ _ _ rfl) | exact b2n_31 _) ?_
  refine v_iload_n hC dX1_putEdit_16 rfl ?_
  refine v_iload_n hC dX1_putEdit_17 rfl ?_
  refine as_7 hC dX1_putEdit_18 hO (by first | omega | exact hB _ _ _ _ rfl | exact hB.i _ _ _ _ rfl | assumption | exact and_lt (hB _ _ _ _ rfl) | exact b2n_31 _) (by first | omega | exact hB _ _ _ _ rfl | exact hB.i _ _ _ _ rfl | assumption | exact and_lt (hB _ _ _ _ rfl) | exact b2n_31 _) ?_
  refine v_vret hC hM dX1_putEdit_19 (by omega) (by omega) ?_
  exact ⟨rfl, rfl⟩

set_option maxHeartbeats 4000000 in
set_option maxRecDepth 100000 in
theorem c_X1_removeEdit {l : Launch} (hl0 : l.stackTraces = false) {G : GT} {ok : KF} {ad : AD} {σ : SG} (hO : OKC ok) (hB : BD σ) {i : Nat} (hi : i < 16) {p : Nat} (hp : p < 64) : Ct l G 1 yX1_removeEdit cX1_removeEdit 2 (none) [.ref (ad 6 i 0), iv p] ok ad σ (Rt none ok ad (up (up σ 6 i 0 3 (clr (σ 6 i 0 3) (1 * 2 ^ p))) 6 i 0 4 (clr (σ 6 i 0 4) (1 * 2 ^ p)))) (NX) 0 0 := by
  refine Ct.mk (by decide +kernel) hl0 (Nat.le_of_ble_eq_true rfl) (fun X hX hC hM => ?_)
  subst hX
  refine v_aload_n hC dX1_removeEdit_0 rfl ?_
  refine v_dup hC dX1_removeEdit_1 rfl ?_
  refine gf_X1_31 hC dX1_removeEdit_2 hO (by first | omega | exact hB _ _ _ _ rfl | exact hB.i _ _ _ _ rfl | assumption | exact and_lt (hB _ _ _ _ rfl) | exact b2n_31 _) ?_
  refine v_lconst (v := lN 1) hC dX1_removeEdit_5 (by decide) ?_
  refine v_iload_n hC dX1_removeEdit_6 rfl ?_
  refine v_lshlN hC dX1_removeEdit_7 (by first | omega | exact hB _ _ _ _ rfl | exact hB.i _ _ _ _ rfl | assumption | exact and_lt (hB _ _ _ _ rfl) | exact b2n_31 _) ?_
  refine v_ldc2 hC dX1_removeEdit_8 kl_X1_44 ?_
  refine v_lxorN hC dX1_removeEdit_11 ?_
  refine v_landN hC dX1_removeEdit_12 ?_
  refine pf_X1_31 hC dX1_removeEdit_13 hO (by first | omega | exact hB _ _ _ _ rfl | exact hB.i _ _ _ _ rfl | assumption | exact and_lt (hB _ _ _ _ rfl) | exact b2n_31 _) ?_
  refine v_aload_n hC dX1_removeEdit_16 rfl ?_
  refine v_dup hC dX1_removeEdit_17 rfl ?_
  refine gf_X1_41 hC dX1_removeEdit_18 hO (by first | omega | exact hB _ _ _ _ rfl | exact hB.i _ _ _ _ rfl | assumption | exact and_lt (hB _ _ _ _ rfl) | exact b2n_31 _) ?_
  refine v_lconst (v := lN 1) hC dX1_removeEdit_21 (by decide) ?_
  refine v_iload_n hC dX1_removeEdit_22 rfl ?_
  refine v_lshlN hC dX1_removeEdit_23 (by first | omega | exact hB _ _ _ _ rfl | exact hB.i _ _ _ _ rfl | assumption | exact and_lt (hB _ _ _ _ rfl) | exact b2n_31 _) ?_
  refine v_ldc2 hC dX1_removeEdit_24 kl_X1_44 ?_
  refine v_lxorN hC dX1_removeEdit_27 ?_
  refine v_landN hC dX1_removeEdit_28 ?_
  refine pf_X1_41 hC dX1_removeEdit_29 hO (by first | omega | exact hB _ _ _ _ rfl | exact hB.i _ _ _ _ rfl | assumption | exact and_lt (hB _ _ _ _ rfl) | exact b2n_31 _) ?_
  refine v_vret hC hM dX1_removeEdit_32 (by omega) (by omega) ?_
  refine ⟨rfl, ?_⟩
  rw [up_x (by decide)]
  rfl

def tch (m d : Nat) : Bool := decide (m &&& 65535 * 2 ^ (d * 16) ≠ 0)
set_option maxHeartbeats 4000000 in
set_option maxRecDepth 100000 in
theorem c_X1_touches {l : Launch} (hl0 : l.stackTraces = false) {G : GT} {ok : KF} {ad : AD} {σ : SG} (hO : OKC ok) (hB : BD σ) {i : Nat} (hi : i < 16) {d : Nat} (hd : d < 4) : Ct l G 1 yX1_touches cX1_touches 2 (some .boolean) [.ref (ad 6 i 0), iv d] ok ad σ (Rt (some (iv (b2n (tch (σ 6 i 0 3) d)))) ok ad σ) (NX) 0 0 := by
  refine Ct.mk (by decide +kernel) hl0 (Nat.le_of_ble_eq_true rfl) (fun X hX hC hM => ?_)
  subst hX
  refine v_aload_n hC dX1_touches_0 rfl ?_
  refine gf_X1_31 hC dX1_touches_1 hO (by first | omega | exact hB _ _ _ _ rfl | exact hB.i _ _ _ _ rfl | assumption | exact and_lt (hB _ _ _ _ rfl) | exact b2n_31 _) ?_
  refine v_ldc2 hC dX1_touches_4 kl_X1_46 ?_
  refine v_iload_n hC dX1_touches_7 rfl ?_
  refine v_bipush (v := nI 16) hC dX1_touches_8 (by decide) ?_
  refine v_imulN hC dX1_touches_10 ?_
  refine v_lshlN hC dX1_touches_11 (by first | omega | exact hB _ _ _ _ rfl | exact hB.i _ _ _ _ rfl | assumption | exact and_lt (hB _ _ _ _ rfl) | exact b2n_31 _) ?_
  refine v_landN hC dX1_touches_12 ?_
  refine v_lconst (v := lN 0) hC dX1_touches_13 (by decide) ?_
  refine v_lcmp hC dX1_touches_14 ?_
  refine v_if_eqJ (tgt := 22) hC dX1_touches_15 (by decide) (by first | omega | exact hB _ _ _ _ rfl | exact hB.i _ _ _ _ rfl | assumption | exact and_lt (hB _ _ _ _ rfl) | exact b2n_31 _) (by first | omega | exact hB _ _ _ _ rfl | exact hB.i _ _ _ _ rfl | assumption | exact and_lt (hB _ _ _ _ rfl) | exact b2n_31 _) (fun c_15 => ?_) (fun c_15 => ?_)
  · refine v_iconst (v := nI 0) hC dX1_touches_22 (by decide) ?_
    refine v_zret hC hM dX1_touches_23 rfl (by omega) (by omega) ?_
    first
      | exact ⟨by rw [show tch (σ 6 i 0 3) d = false from decide_eq_false (fun h => h c_15)]; rfl, rfl⟩
      | exact ⟨by rw [show tch (σ 6 i 0 3) d = true from decide_eq_true c_15]; rfl, rfl⟩
  · refine v_iconst (v := nI 1) hC dX1_touches_18 (by decide) ?_
    refine v_goto (tgt := 23) hC dX1_touches_19 (by decide) ?_
    refine v_zret hC hM dX1_touches_23 rfl (by omega) (by omega) ?_
    first
      | exact ⟨by rw [show tch (σ 6 i 0 3) d = false from decide_eq_false (fun h => h c_15)]; rfl, rfl⟩
      | exact ⟨by rw [show tch (σ 6 i 0 3) d = true from decide_eq_true c_15]; rfl, rfl⟩

/-- the change i laid over the values w, for the first n places -/
def lay (σ : SG) (i w n : Nat) : SG := fun k' i' j' x' => if k' = 15 ∧ i' = w ∧ j' = 0 ∧ x' < n ∧ (σ 6 i 0 3).testBit x' = true then σ 7 i 0 x' else σ k' i' j' x'
theorem lay_0 (σ : SG) (i w : Nat) : lay σ i w 0 = σ := by
  funext k' i' j' x'
  simp [lay]
theorem lay_k {σ : SG} {i w n k' i' j' x' : Nat} (h : k' ≠ 15) : lay σ i w n k' i' j' x' = σ k' i' j' x' := by simp [lay, h]
theorem lay_t {σ : SG} {i w p : Nat} (h : (σ 6 i 0 3).testBit p = true) : lay σ i w (p + 1) = up (lay σ i w p) 15 w 0 p (σ 7 i 0 p) := by
  funext k' i' j' x'
  simp only [lay, up]
  by_cases c : k' = 15 ∧ i' = w ∧ j' = 0
  · obtain ⟨rfl, rfl, rfl⟩ := c
    by_cases e : x' = p
    · subst e; simp [h]
    · simp only [true_and, e, if_false]
      have e2 : (x' < p + 1) ↔ (x' < p) := by omega
      simp only [e2]
  · have c1 : ¬ (k' = 15 ∧ i' = w ∧ j' = 0 ∧ x' < p + 1 ∧ (σ 6 i 0 3).testBit x' = true) := fun q => c ⟨q.1, q.2.1, q.2.2.1⟩
    have c2 : ¬ (k' = 15 ∧ i' = w ∧ j' = 0 ∧ x' = p) := fun q => c ⟨q.1, q.2.1, q.2.2.1⟩
    have c3 : ¬ (k' = 15 ∧ i' = w ∧ j' = 0 ∧ x' < p ∧ (σ 6 i 0 3).testBit x' = true) := fun q => c ⟨q.1, q.2.1, q.2.2.1⟩
    rw [if_neg c1, if_neg c2, if_neg c3]
theorem lay_f {σ : SG} {i w p : Nat} (h : (σ 6 i 0 3).testBit p = false) : lay σ i w (p + 1) = lay σ i w p := by
  funext k' i' j' x'
  simp only [lay]
  by_cases e : x' = p
  · subst e; simp [h]
  · have e2 : (x' < p + 1) ↔ (x' < p) := by omega
    simp only [e2]
theorem lay_BD {σ : SG} (h : BD σ) {i w n : Nat} : BD (lay σ i w n) := fun k' i' j' x' hp => by
  unfold lay
  split
  · rename_i c
    rw [c.1]
    exact h 7 i 0 x' rfl
  · exact h k' i' j' x' hp

set_option maxHeartbeats 4000000 in
set_option maxRecDepth 100000 in
theorem c_X1_applyTo {l : Launch} (hl0 : l.stackTraces = false) {G : GT} {ok : KF} {ad : AD} {σ : SG} (hO : OKC ok) (hB : BD σ) {i : Nat} (hi : i < 16) {w : Nat} (hw : w < 2) : Ct l G 2 yX1_applyTo cX1_applyTo 3 (none) [.ref (ad 6 i 0), .ref (ad 15 w 0)] ok ad σ (Rt none ok ad (lay σ i w 64)) (NX) 0 0 := by
  refine Ct.mk (by decide +kernel) hl0 (Nat.le_of_ble_eq_true rfl) (fun X hX hC hM => ?_)
  subst hX
  refine v_iconst (v := nI 0) hC dX1_applyTo_0 (by decide) ?_
  refine v_istore_n hC dX1_applyTo_1 (by decide) ?_
  have key : ∀ p, p ≤ 64 → V X G 0 0 ok ad (lay σ i w p) [(0, .ref (ad 6 i 0)), (1, .ref (ad 15 w 0)), (2, iv p)] 2 [] := by
    refine down (64) ?_ ?_
    · refine v_iload_n hC dX1_applyTo_2 rfl ?_
      refine v_bipush (v := nI 64) hC dX1_applyTo_3 (by decide) ?_
      refine v_icmp_geN (tgt := 31) hC dX1_applyTo_5 (by decide) (by first | omega | exact hB _ _ _ _ rfl | exact hB.i _ _ _ _ rfl | assumption | exact and_lt (hB _ _ _ _ rfl) | exact b2n_31 _) (by first | omega | exact hB _ _ _ _ rfl | exact hB.i _ _ _ _ rfl | assumption | exact and_lt (hB _ _ _ _ rfl) | exact b2n_31 _) (fun c_5 => ?_) (fun c_5 => ?_)
      · refine v_vret hC hM dX1_applyTo_31 (by omega) (by omega) ?_
        exact ⟨rfl, rfl⟩
      · exact absurd c_5 (by omega)
    · intro p hp ih 
      refine v_iload_n hC dX1_applyTo_2 rfl ?_
      refine v_bipush (v := nI 64) hC dX1_applyTo_3 (by decide) ?_
      refine v_icmp_geN (tgt := 31) hC dX1_applyTo_5 (by decide) (by first | omega | exact hB _ _ _ _ rfl | exact hB.i _ _ _ _ rfl | assumption | exact and_lt (hB _ _ _ _ rfl) | exact b2n_31 _) (by first | omega | exact hB _ _ _ _ rfl | exact hB.i _ _ _ _ rfl | assumption | exact and_lt (hB _ _ _ _ rfl) | exact b2n_31 _) (fun c_5 => ?_) (fun c_5 => ?_)
      · exact absurd c_5 (by omega)
      · refine v_aload_n hC dX1_applyTo_8 rfl ?_
        refine v_iload_n hC dX1_applyTo_9 rfl ?_
        have hBl := lay_BD hB (i := i) (w := w) (n := p)
        refine v_callV_r0 hC lk_X1_48 dX1_applyTo_10 (c_X1_hasEdit hl0 hO hBl hi hp) (by decide) (by decide) (hO.k6 hi) rfl rfl rfl rfl (Nat.le_of_ble_eq_true rfl) (by omega) (by omega) ?_
        rw [lay_k (by decide)]
        refine v_if_eqN (tgt := 25) hC dX1_applyTo_13 (by decide) (by first | omega | exact hB _ _ _ _ rfl | exact hB.i _ _ _ _ rfl | assumption | exact and_lt (hB _ _ _ _ rfl) | exact b2n_31 _) (fun c_13 => ?_) (fun c_13 => ?_)
        · refine v_iincN hC dX1_applyTo_25 rfl (by decide) ?_
          refine v_goto (tgt := 2) hC dX1_applyTo_28 (by decide) ?_
          first
            | exact v_sub rfl ih
            | (rw [lay_f (b2n_0 c_13)] at ih; exact v_sub rfl ih)
            | (rw [lay_k (by decide)]; exact v_sub rfl ih)
        · rw [lay_t (b2n_1 c_13)] at ih
          refine v_aload_n hC dX1_applyTo_16 rfl ?_
          refine v_iload_n hC dX1_applyTo_17 rfl ?_
          refine v_aload_n hC dX1_applyTo_18 rfl ?_
          refine gf_X1_15 hC dX1_applyTo_19 hO (by first | omega | exact hB _ _ _ _ rfl | exact hB.i _ _ _ _ rfl | assumption | exact and_lt (hB _ _ _ _ rfl) | exact b2n_31 _) ?_
          refine v_iload_n hC dX1_applyTo_22 rfl ?_
          refine al_7 hC dX1_applyTo_23 hO (by first | omega | exact hB _ _ _ _ rfl | exact hB.i _ _ _ _ rfl | assumption | exact and_lt (hB _ _ _ _ rfl) | exact b2n_31 _) (by first | omega | exact hB _ _ _ _ rfl | exact hB.i _ _ _ _ rfl | assumption | exact and_lt (hB _ _ _ _ rfl) | exact b2n_31 _) ?_
          refine as_15 hC dX1_applyTo_24 hO (by first | omega | exact hB _ _ _ _ rfl | exact hB.i _ _ _ _ rfl | assumption | exact and_lt (hB _ _ _ _ rfl) | exact b2n_31 _) (by first | omega | exact hB _ _ _ _ rfl | exact hB.i _ _ _ _ rfl | assumption | exact and_lt (hB _ _ _ _ rfl) | exact b2n_31 _) ?_
          refine v_iincN hC dX1_applyTo_25 rfl (by decide) ?_
          refine v_goto (tgt := 2) hC dX1_applyTo_28 (by decide) ?_
          first
            | exact v_sub rfl ih
            | (rw [lay_f (b2n_0 c_13)] at ih; exact v_sub rfl ih)
            | (rw [lay_k (by decide)]; exact v_sub rfl ih)
  have k0 := key 0 (Nat.zero_le _)
  rw [lay_0] at k0
  exact v_sub rfl k0

set_option maxHeartbeats 4000000 in
set_option maxRecDepth 100000 in
theorem c_X1_voteFor {l : Launch} (hl0 : l.stackTraces = false) {G : GT} {ok : KF} {ad : AD} {σ : SG} (hO : OKC ok) (hB : BD σ) {i : Nat} (hi : i < 16) {p : Nat} (hp : p < 6) : Ct l G 1 yX1_voteFor cX1_voteFor 2 (none) [.ref (ad 6 i 0), iv p] ok ad σ (Rt none ok ad (upr (up (up σ 8 i 0 p 1) 9 i 0 p (σ 6 i 0 3)) 11 i p (fun x => if x < 64 then σ 7 i 0 x else σ 11 i p x))) (NX) 0 0 := by
  refine Ct.mk (by decide +kernel) hl0 (Nat.le_of_ble_eq_true rfl) (fun X hX hC hM => ?_)
  subst hX
  refine v_aload_n hC dX1_voteFor_0 rfl ?_
  refine gf_X1_19 hC dX1_voteFor_1 hO (by first | omega | exact hB _ _ _ _ rfl | exact hB.i _ _ _ _ rfl | assumption | exact and_lt (hB _ _ _ _ rfl) | exact b2n_31 _) ?_
  refine v_iload_n hC dX1_voteFor_4 rfl ?_
  refine v_iconst (v := nI 1) hC dX1_voteFor_5 (by decide) ?_
  refine as_8 hC dX1_voteFor_6 hO (by first | omega | exact hB _ _ _ _ rfl | exact hB.i _ _ _ _ rfl | assumption | exact and_lt (hB _ _ _ _ rfl) | exact b2n_31 _) (by first | omega | exact hB _ _ _ _ rfl | exact hB.i _ _ _ _ rfl | assumption | exact and_lt (hB _ _ _ _ rfl) | exact b2n_31 _) ?_
  refine v_aload_n hC dX1_voteFor_7 rfl ?_
  refine gf_X1_22 hC dX1_voteFor_8 hO (by first | omega | exact hB _ _ _ _ rfl | exact hB.i _ _ _ _ rfl | assumption | exact and_lt (hB _ _ _ _ rfl) | exact b2n_31 _) ?_
  refine v_iload_n hC dX1_voteFor_11 rfl ?_
  refine v_aload_n hC dX1_voteFor_12 rfl ?_
  refine gf_X1_31 hC dX1_voteFor_13 hO (by first | omega | exact hB _ _ _ _ rfl | exact hB.i _ _ _ _ rfl | assumption | exact and_lt (hB _ _ _ _ rfl) | exact b2n_31 _) ?_
  rw [show up σ 8 i 0 p 1 6 i 0 3 = σ 6 i 0 3 from up_k (by decide)]
  refine as_9 hC dX1_voteFor_16 hO (by first | omega | exact hB _ _ _ _ rfl | exact hB.i _ _ _ _ rfl | assumption | exact and_lt (hB _ _ _ _ rfl) | exact b2n_31 _) (by first | omega | exact hB _ _ _ _ rfl | exact hB.i _ _ _ _ rfl | assumption | exact and_lt (hB _ _ _ _ rfl) | exact b2n_31 _) ?_
  refine v_aload_n hC dX1_voteFor_17 rfl ?_
  refine gf_X1_15 hC dX1_voteFor_18 hO (by first | omega | exact hB _ _ _ _ rfl | exact hB.i _ _ _ _ rfl | assumption | exact and_lt (hB _ _ _ _ rfl) | exact b2n_31 _) ?_
  refine v_iconst (v := nI 0) hC dX1_voteFor_21 (by decide) ?_
  refine v_aload_n hC dX1_voteFor_22 rfl ?_
  refine gf_X1_28 hC dX1_voteFor_23 hO (by first | omega | exact hB _ _ _ _ rfl | exact hB.i _ _ _ _ rfl | assumption | exact and_lt (hB _ _ _ _ rfl) | exact b2n_31 _) ?_
  refine v_iload_n hC dX1_voteFor_26 rfl ?_
  refine al_10 hC dX1_voteFor_27 hO (by first | omega | exact hB _ _ _ _ rfl | exact hB.i _ _ _ _ rfl | assumption | exact and_lt (hB _ _ _ _ rfl) | exact b2n_31 _) (by first | omega | exact hB _ _ _ _ rfl | exact hB.i _ _ _ _ rfl | assumption | exact and_lt (hB _ _ _ _ rfl) | exact b2n_31 _) ?_
  refine v_iconst (v := nI 0) hC dX1_voteFor_28 (by decide) ?_
  refine v_bipush (v := nI 64) hC dX1_voteFor_29 (by decide) ?_
  refine v_copyi (k := 7) (i := i) (j := 0) (k2 := 11) (i2 := i) (j2 := p) (m := 64) (N := 64) (N2 := 64) (σ1 := upr (up (up σ 8 i 0 p 1) 9 i 0 p (σ 6 i 0 3)) 11 i p (fun x => if x < 64 then σ 7 i 0 x else σ 11 i p x)) hC dX1_voteFor_31 ac_X1_52 (hO.k7 hi) (hO.k11 hi hp) (by omega) rfl rfl (by decide) (by decide) (by decide) (fun _ _ _ h => ?_) (by rw [upr_row]; rfl) (fun x => ?_) (Nat.le_of_ble_eq_true rfl) ?_
  · rw [upr_off _ _ h]
  · dsimp only
    rw [up_k (by decide), up_k (by decide), up_k (by decide), up_k (by decide)]
    by_cases h : x < 64 <;> simp [h]
  refine v_vret hC hM dX1_voteFor_34 (by omega) (by omega) ?_
  exact ⟨rfl, rfl⟩

set_option maxHeartbeats 4000000 in
set_option maxRecDepth 100000 in
theorem c_X1_voteAgainst {l : Launch} (hl0 : l.stackTraces = false) {G : GT} {ok : KF} {ad : AD} {σ : SG} (hO : OKC ok) (hB : BD σ) {i : Nat} (hi : i < 16) {p : Nat} (hp : p < 6) : Ct l G 1 yX1_voteAgainst cX1_voteAgainst 2 (none) [.ref (ad 6 i 0), iv p] ok ad σ (Rt none ok ad (up (up σ 8 i 0 p 2) 9 i 0 p 0)) (NX) 0 0 := by
  refine Ct.mk (by decide +kernel) hl0 (Nat.le_of_ble_eq_true rfl) (fun X hX hC hM => ?_)
  subst hX
  refine v_aload_n hC dX1_voteAgainst_0 rfl ?_
  refine gf_X1_19 hC dX1_voteAgainst_1 hO (by first | omega | exact hB _ _ _ _ rfl | exact hB.i _ _ _ _ rfl | assumption | exact and_lt (hB _ _ _ _ rfl) | exact b2n_31 _) ?_
  refine v_iload_n hC dX1_voteAgainst_4 rfl ?_
  refine v_iconst (v := nI 2) hC dX1_voteAgainst_5 (by decide) ?_
  refine as_8 hC dX1_voteAgainst_6 hO (by first | omega | exact hB _ _ _ _ rfl | exact hB.i _ _ _ _ rfl | assumption | exact and_lt (hB _ _ _ _ rfl) | exact b2n_31 _) (by first | omega | exact hB _ _ _ _ rfl | exact hB.i _ _ _ _ rfl | assumption | exact and_lt (hB _ _ _ _ rfl) | exact b2n_31 _) ?_
  refine v_aload_n hC dX1_voteAgainst_7 rfl ?_
  refine gf_X1_22 hC dX1_voteAgainst_8 hO (by first | omega | exact hB _ _ _ _ rfl | exact hB.i _ _ _ _ rfl | assumption | exact and_lt (hB _ _ _ _ rfl) | exact b2n_31 _) ?_
  refine v_iload_n hC dX1_voteAgainst_11 rfl ?_
  refine v_lconst (v := lN 0) hC dX1_voteAgainst_12 (by decide) ?_
  refine as_9 hC dX1_voteAgainst_13 hO (by first | omega | exact hB _ _ _ _ rfl | exact hB.i _ _ _ _ rfl | assumption | exact and_lt (hB _ _ _ _ rfl) | exact b2n_31 _) (by first | omega | exact hB _ _ _ _ rfl | exact hB.i _ _ _ _ rfl | assumption | exact and_lt (hB _ _ _ _ rfl) | exact b2n_31 _) ?_
  refine v_vret hC hM dX1_voteAgainst_14 (by omega) (by omega) ?_
  exact ⟨rfl, rfl⟩

def cvr (σ : SG) (i p s : Nat) : Bool := (σ 9 i 0 p).testBit s && decide (σ 11 i p s = σ 7 i 0 s)
set_option maxHeartbeats 4000000 in
set_option maxRecDepth 100000 in
theorem c_X1_covers {l : Launch} (hl0 : l.stackTraces = false) {G : GT} {ok : KF} {ad : AD} {σ : SG} (hO : OKC ok) (hB : BD σ) {i : Nat} (hi : i < 16) {p s : Nat} (hp : p < 6) (hs : s < 64) : Ct l G 1 yX1_covers cX1_covers 4 (some .boolean) [.ref (ad 6 i 0), iv p, iv s] ok ad σ (Rt (some (iv (b2n (cvr σ i p s)))) ok ad σ) (NX) 0 0 := by
  refine Ct.mk (by decide +kernel) hl0 (Nat.le_of_ble_eq_true rfl) (fun X hX hC hM => ?_)
  subst hX
  refine v_aload_n hC dX1_covers_0 rfl ?_
  refine gf_X1_22 hC dX1_covers_1 hO (by first | omega | exact hB _ _ _ _ rfl | exact hB.i _ _ _ _ rfl | assumption | exact and_lt (hB _ _ _ _ rfl) | exact b2n_31 _) ?_
  refine v_iload_n hC dX1_covers_4 rfl ?_
  refine al_9 hC dX1_covers_5 hO (by first | omega | exact hB _ _ _ _ rfl | exact hB.i _ _ _ _ rfl | assumption | exact and_lt (hB _ _ _ _ rfl) | exact b2n_31 _) (by first | omega | exact hB _ _ _ _ rfl | exact hB.i _ _ _ _ rfl | assumption | exact and_lt (hB _ _ _ _ rfl) | exact b2n_31 _) ?_
  refine v_lconst (v := lN 1) hC dX1_covers_6 (by decide) ?_
  refine v_iload_n hC dX1_covers_7 rfl ?_
  refine v_lshlN hC dX1_covers_8 (by first | omega | exact hB _ _ _ _ rfl | exact hB.i _ _ _ _ rfl | assumption | exact and_lt (hB _ _ _ _ rfl) | exact b2n_31 _) ?_
  refine v_landN hC dX1_covers_9 ?_
  refine v_lconst (v := lN 0) hC dX1_covers_10 (by decide) ?_
  refine v_lcmp hC dX1_covers_11 ?_
  refine v_if_eqJ (tgt := 19) hC dX1_covers_12 (by decide) (by first | omega | exact hB _ _ _ _ rfl | exact hB.i _ _ _ _ rfl | assumption | exact and_lt (hB _ _ _ _ rfl) | exact b2n_31 _) (by first | omega | exact hB _ _ _ _ rfl | exact hB.i _ _ _ _ rfl | assumption | exact and_lt (hB _ _ _ _ rfl) | exact b2n_31 _) (fun c_12 => ?_) (fun c_12 => ?_)
  · refine v_iconst (v := nI 0) hC dX1_covers_19 (by decide) ?_
    refine v_istore_n hC dX1_covers_20 (by decide) ?_
    refine v_iload_n hC dX1_covers_21 rfl ?_
    refine v_if_eqN (tgt := 46) hC dX1_covers_22 (by decide) (by first | omega | exact hB _ _ _ _ rfl | exact hB.i _ _ _ _ rfl | assumption | exact and_lt (hB _ _ _ _ rfl) | exact b2n_31 _) (fun c_22 => ?_) (fun c_22 => ?_)
    · refine v_iconst (v := nI 0) hC dX1_covers_46 (by decide) ?_
      refine v_zret hC hM dX1_covers_47 rfl (by omega) (by omega) ?_
      exact ⟨by rw [show cvr σ i p s = false from by simp [cvr, (bit_z _ _).mp c_12]] <;> rfl, rfl⟩
    · refine v_aload_n hC dX1_covers_25 rfl ?_
      refine gf_X1_28 hC dX1_covers_26 hO (by first | omega | exact hB _ _ _ _ rfl | exact hB.i _ _ _ _ rfl | assumption | exact and_lt (hB _ _ _ _ rfl) | exact b2n_31 _) ?_
      refine v_iload_n hC dX1_covers_29 rfl ?_
      refine al_10 hC dX1_covers_30 hO (by first | omega | exact hB _ _ _ _ rfl | exact hB.i _ _ _ _ rfl | assumption | exact and_lt (hB _ _ _ _ rfl) | exact b2n_31 _) (by first | omega | exact hB _ _ _ _ rfl | exact hB.i _ _ _ _ rfl | assumption | exact and_lt (hB _ _ _ _ rfl) | exact b2n_31 _) ?_
      refine v_iload_n hC dX1_covers_31 rfl ?_
      refine al_11 hC dX1_covers_32 hO (by first | omega | exact hB _ _ _ _ rfl | exact hB.i _ _ _ _ rfl | assumption | exact and_lt (hB _ _ _ _ rfl) | exact b2n_31 _) (by first | omega | exact hB _ _ _ _ rfl | exact hB.i _ _ _ _ rfl | assumption | exact and_lt (hB _ _ _ _ rfl) | exact b2n_31 _) (by first | omega | exact hB _ _ _ _ rfl | exact hB.i _ _ _ _ rfl | assumption | exact and_lt (hB _ _ _ _ rfl) | exact b2n_31 _) ?_
      refine v_aload_n hC dX1_covers_33 rfl ?_
      refine gf_X1_15 hC dX1_covers_34 hO (by first | omega | exact hB _ _ _ _ rfl | exact hB.i _ _ _ _ rfl | assumption | exact and_lt (hB _ _ _ _ rfl) | exact b2n_31 _) ?_
      refine v_iload_n hC dX1_covers_37 rfl ?_
      refine al_7 hC dX1_covers_38 hO (by first | omega | exact hB _ _ _ _ rfl | exact hB.i _ _ _ _ rfl | assumption | exact and_lt (hB _ _ _ _ rfl) | exact b2n_31 _) (by first | omega | exact hB _ _ _ _ rfl | exact hB.i _ _ _ _ rfl | assumption | exact and_lt (hB _ _ _ _ rfl) | exact b2n_31 _) ?_
      refine v_icmp_neN (tgt := 46) hC dX1_covers_39 (by decide) (by first | omega | exact hB _ _ _ _ rfl | exact hB.i _ _ _ _ rfl | assumption | exact and_lt (hB _ _ _ _ rfl) | exact b2n_31 _) (by first | omega | exact hB _ _ _ _ rfl | exact hB.i _ _ _ _ rfl | assumption | exact and_lt (hB _ _ _ _ rfl) | exact b2n_31 _) (fun c_39 => ?_) (fun c_39 => ?_)
      · refine v_iconst (v := nI 0) hC dX1_covers_46 (by decide) ?_
        refine v_zret hC hM dX1_covers_47 rfl (by omega) (by omega) ?_
        exact absurd rfl c_22
      · refine v_iconst (v := nI 1) hC dX1_covers_42 (by decide) ?_
        refine v_goto (tgt := 47) hC dX1_covers_43 (by decide) ?_
        refine v_zret hC hM dX1_covers_47 rfl (by omega) (by omega) ?_
        exact absurd rfl c_22
  · refine v_iconst (v := nI 1) hC dX1_covers_15 (by decide) ?_
    refine v_goto (tgt := 20) hC dX1_covers_16 (by decide) ?_
    refine v_istore_n hC dX1_covers_20 (by decide) ?_
    refine v_iload_n hC dX1_covers_21 rfl ?_
    refine v_if_eqN (tgt := 46) hC dX1_covers_22 (by decide) (by first | omega | exact hB _ _ _ _ rfl | exact hB.i _ _ _ _ rfl | assumption | exact and_lt (hB _ _ _ _ rfl) | exact b2n_31 _) (fun c_22 => ?_) (fun c_22 => ?_)
    · refine v_iconst (v := nI 0) hC dX1_covers_46 (by decide) ?_
      refine v_zret hC hM dX1_covers_47 rfl (by omega) (by omega) ?_
      exact absurd c_22 (by decide)
    · refine v_aload_n hC dX1_covers_25 rfl ?_
      refine gf_X1_28 hC dX1_covers_26 hO (by first | omega | exact hB _ _ _ _ rfl | exact hB.i _ _ _ _ rfl | assumption | exact and_lt (hB _ _ _ _ rfl) | exact b2n_31 _) ?_
      refine v_iload_n hC dX1_covers_29 rfl ?_
      refine al_10 hC dX1_covers_30 hO (by first | omega | exact hB _ _ _ _ rfl | exact hB.i _ _ _ _ rfl | assumption | exact and_lt (hB _ _ _ _ rfl) | exact b2n_31 _) (by first | omega | exact hB _ _ _ _ rfl | exact hB.i _ _ _ _ rfl | assumption | exact and_lt (hB _ _ _ _ rfl) | exact b2n_31 _) ?_
      refine v_iload_n hC dX1_covers_31 rfl ?_
      refine al_11 hC dX1_covers_32 hO (by first | omega | exact hB _ _ _ _ rfl | exact hB.i _ _ _ _ rfl | assumption | exact and_lt (hB _ _ _ _ rfl) | exact b2n_31 _) (by first | omega | exact hB _ _ _ _ rfl | exact hB.i _ _ _ _ rfl | assumption | exact and_lt (hB _ _ _ _ rfl) | exact b2n_31 _) (by first | omega | exact hB _ _ _ _ rfl | exact hB.i _ _ _ _ rfl | assumption | exact and_lt (hB _ _ _ _ rfl) | exact b2n_31 _) ?_
      refine v_aload_n hC dX1_covers_33 rfl ?_
      refine gf_X1_15 hC dX1_covers_34 hO (by first | omega | exact hB _ _ _ _ rfl | exact hB.i _ _ _ _ rfl | assumption | exact and_lt (hB _ _ _ _ rfl) | exact b2n_31 _) ?_
      refine v_iload_n hC dX1_covers_37 rfl ?_
      refine al_7 hC dX1_covers_38 hO (by first | omega | exact hB _ _ _ _ rfl | exact hB.i _ _ _ _ rfl | assumption | exact and_lt (hB _ _ _ _ rfl) | exact b2n_31 _) (by first | omega | exact hB _ _ _ _ rfl | exact hB.i _ _ _ _ rfl | assumption | exact and_lt (hB _ _ _ _ rfl) | exact b2n_31 _) ?_
      refine v_icmp_neN (tgt := 46) hC dX1_covers_39 (by decide) (by first | omega | exact hB _ _ _ _ rfl | exact hB.i _ _ _ _ rfl | assumption | exact and_lt (hB _ _ _ _ rfl) | exact b2n_31 _) (by first | omega | exact hB _ _ _ _ rfl | exact hB.i _ _ _ _ rfl | assumption | exact and_lt (hB _ _ _ _ rfl) | exact b2n_31 _) (fun c_39 => ?_) (fun c_39 => ?_)
      · refine v_iconst (v := nI 0) hC dX1_covers_46 (by decide) ?_
        refine v_zret hC hM dX1_covers_47 rfl (by omega) (by omega) ?_
        exact ⟨by rw [show cvr σ i p s = false from by simp [cvr, c_39]] <;> rfl, rfl⟩
      · refine v_iconst (v := nI 1) hC dX1_covers_42 (by decide) ?_
        refine v_goto (tgt := 47) hC dX1_covers_43 (by decide) ?_
        refine v_zret hC hM dX1_covers_47 rfl (by omega) (by omega) ?_
        exact ⟨by rw [show cvr σ i p s = true from by simp [cvr, bit_nz c_12, c_39]] <;> rfl, rfl⟩

def cvA (σ : SG) (i p d : Nat) : Bool := allB (fun s => !((σ 6 i 0 3).testBit s) || cvr σ i p s) (d * 16) 16
set_option maxHeartbeats 4000000 in
set_option maxRecDepth 100000 in
theorem c_X1_coversAll {l : Launch} (hl0 : l.stackTraces = false) {G : GT} {ok : KF} {ad : AD} {σ : SG} (hO : OKC ok) (hB : BD σ) {i : Nat} (hi : i < 16) {p d : Nat} (hp : p < 6) (hd : d < 4) : Ct l G 2 yX1_coversAll cX1_coversAll 5 (some .boolean) [.ref (ad 6 i 0), iv p, iv d] ok ad σ (Rt (some (iv (b2n (cvA σ i p d)))) ok ad σ) (NX) 0 0 := by
  refine Ct.mk (by decide +kernel) hl0 (Nat.le_of_ble_eq_true rfl) (fun X hX hC hM => ?_)
  subst hX
  refine v_iload_n hC dX1_coversAll_0 rfl ?_
  refine v_bipush (v := nI 16) hC dX1_coversAll_1 (by decide) ?_
  refine v_imulN hC dX1_coversAll_3 ?_
  refine v_istore_n hC dX1_coversAll_4 (by decide) ?_
  refine v_iload_n hC dX1_coversAll_5 rfl ?_
  refine v_istore hC dX1_coversAll_6 (by decide) ?_
  have key : ∀ s, d * 16 ≤ s → s ≤ d * 16 + 16 → (∀ q, d * 16 ≤ q → q < s → (!((σ 6 i 0 3).testBit q) || cvr σ i p q) = true) → V X G 0 0 ok ad σ [(0, .ref (ad 6 i 0)), (1, iv p), (2, iv d), (3, iv (d * 16)), (4, iv s)] 8 [] := by
    refine downL (d * 16 + 16) ?_ ?_
    · intro hlo hq
      refine v_iload hC dX1_coversAll_8 rfl ?_
      refine v_iload_n hC dX1_coversAll_10 rfl ?_
      refine v_bipush (v := nI 16) hC dX1_coversAll_11 (by decide) ?_
      refine v_iaddN hC dX1_coversAll_13 ?_
      refine v_icmp_geN (tgt := 44) hC dX1_coversAll_14 (by decide) (by first | omega | exact hB _ _ _ _ rfl | exact hB.i _ _ _ _ rfl | assumption | exact and_lt (hB _ _ _ _ rfl) | exact b2n_31 _) (by first | omega | exact hB _ _ _ _ rfl | exact hB.i _ _ _ _ rfl | assumption | exact and_lt (hB _ _ _ _ rfl) | exact b2n_31 _) (fun c_14 => ?_) (fun c_14 => ?_)
      · refine v_iconst (v := nI 1) hC dX1_coversAll_44 (by decide) ?_
        refine v_zret hC hM dX1_coversAll_45 rfl (by omega) (by omega) ?_
        exact ⟨by rw [show cvA σ i p d = true from (allB_iff _ _ _).mpr hq] <;> rfl, rfl⟩
      · exact absurd c_14 (by omega)
    · intro s hlo hp ih hq
      refine v_iload hC dX1_coversAll_8 rfl ?_
      refine v_iload_n hC dX1_coversAll_10 rfl ?_
      refine v_bipush (v := nI 16) hC dX1_coversAll_11 (by decide) ?_
      refine v_iaddN hC dX1_coversAll_13 ?_
      refine v_icmp_geN (tgt := 44) hC dX1_coversAll_14 (by decide) (by first | omega | exact hB _ _ _ _ rfl | exact hB.i _ _ _ _ rfl | assumption | exact and_lt (hB _ _ _ _ rfl) | exact b2n_31 _) (by first | omega | exact hB _ _ _ _ rfl | exact hB.i _ _ _ _ rfl | assumption | exact and_lt (hB _ _ _ _ rfl) | exact b2n_31 _) (fun c_14 => ?_) (fun c_14 => ?_)
      · exact absurd c_14 (by omega)
      · refine v_aload_n hC dX1_coversAll_17 rfl ?_
        refine v_iload hC dX1_coversAll_18 rfl ?_
        refine v_callV_r0 hC lk_X1_48 dX1_coversAll_20 (c_X1_hasEdit hl0 hO hB (by first | omega | exact hB _ _ _ _ rfl | exact hB.i _ _ _ _ rfl | assumption | exact and_lt (hB _ _ _ _ rfl) | exact b2n_31 _) (by first | omega | exact hB _ _ _ _ rfl | exact hB.i _ _ _ _ rfl | assumption | exact and_lt (hB _ _ _ _ rfl) | exact b2n_31 _)) (by decide) (by decide) (hO.k6 (by first | omega | exact hB _ _ _ _ rfl | exact hB.i _ _ _ _ rfl | assumption | exact and_lt (hB _ _ _ _ rfl) | exact b2n_31 _)) rfl rfl rfl rfl (Nat.le_of_ble_eq_true rfl) (by omega) (by omega) ?_
        refine v_if_eqN (tgt := 38) hC dX1_coversAll_23 (by decide) (by first | omega | exact hB _ _ _ _ rfl | exact hB.i _ _ _ _ rfl | assumption | exact and_lt (hB _ _ _ _ rfl) | exact b2n_31 _) (fun c_23 => ?_) (fun c_23 => ?_)
        · refine v_iincN hC dX1_coversAll_38 rfl (by decide) ?_
          refine v_goto (tgt := 8) hC dX1_coversAll_41 (by decide) ?_
          refine v_sub rfl (ih (fun q h1 h2 => ?_))
          by_cases e : q = s
          · subst e
            simp [b2n_0 c_23]
          · exact hq q h1 (by omega)
        · refine v_aload_n hC dX1_coversAll_26 rfl ?_
          refine v_iload_n hC dX1_coversAll_27 rfl ?_
          refine v_iload hC dX1_coversAll_28 rfl ?_
          refine v_callV_r0 hC lk_X1_62 dX1_coversAll_30 (c_X1_covers hl0 hO hB (by first | omega | exact hB _ _ _ _ rfl | exact hB.i _ _ _ _ rfl | assumption | exact and_lt (hB _ _ _ _ rfl) | exact b2n_31 _) (by first | omega | exact hB _ _ _ _ rfl | exact hB.i _ _ _ _ rfl | assumption | exact and_lt (hB _ _ _ _ rfl) | exact b2n_31 _) (by first | omega | exact hB _ _ _ _ rfl | exact hB.i _ _ _ _ rfl | assumption | exact and_lt (hB _ _ _ _ rfl) | exact b2n_31 _)) (by decide) (by decide) (hO.k6 (by first | omega | exact hB _ _ _ _ rfl | exact hB.i _ _ _ _ rfl | assumption | exact and_lt (hB _ _ _ _ rfl) | exact b2n_31 _)) rfl rfl rfl rfl (Nat.le_of_ble_eq_true rfl) (by omega) (by omega) ?_
          refine v_if_neN (tgt := 38) hC dX1_coversAll_33 (by decide) (by first | omega | exact hB _ _ _ _ rfl | exact hB.i _ _ _ _ rfl | assumption | exact and_lt (hB _ _ _ _ rfl) | exact b2n_31 _) (fun c_33 => ?_) (fun c_33 => ?_)
          · refine v_iincN hC dX1_coversAll_38 rfl (by decide) ?_
            refine v_goto (tgt := 8) hC dX1_coversAll_41 (by decide) ?_
            refine v_sub rfl (ih (fun q h1 h2 => ?_))
            by_cases e : q = s
            · subst e
              simp [b2n_1 c_33]
            · exact hq q h1 (by omega)
          · refine v_iconst (v := nI 0) hC dX1_coversAll_36 (by decide) ?_
            refine v_zret hC hM dX1_coversAll_37 rfl (by omega) (by omega) ?_
            exact ⟨by rw [show cvA σ i p d = false from allB_no (q := s) hlo (by omega) (by simp [b2n_1 c_23, b2n_0 c_33])] <;> rfl, rfl⟩
  exact v_sub rfl (key (d * 16) (Nat.le_refl _) (by omega) (fun q h1 h2 => absurd h2 (by omega)))

/-- a vote's verdict in a directory it touches -/
def vby (σ : SG) (i p d : Nat) : Nat := if σ 8 i 0 p = 0 then 63 else if σ 8 i 0 p = 2 then 110 else if cvA σ i p d = true then 121 else 115
set_option maxHeartbeats 4000000 in
set_option maxRecDepth 100000 in
theorem c_X1_verdictBy {l : Launch} (hl0 : l.stackTraces = false) {G : GT} {ok : KF} {ad : AD} {σ : SG} (hO : OKC ok) (hB : BD σ) {i : Nat} (hi : i < 16) {p d : Nat} (hp : p < 6) (hd : d < 4) : Ct l G 3 yX1_verdictBy cX1_verdictBy 3 (some .char) [.ref (ad 6 i 0), iv p, iv d] ok ad σ (Rt (some (iv (vby σ i p d))) ok ad σ) (NX) 0 0 := by
  refine Ct.mk (by decide +kernel) hl0 (Nat.le_of_ble_eq_true rfl) (fun X hX hC hM => ?_)
  subst hX
  refine v_aload_n hC dX1_verdictBy_0 rfl ?_
  refine gf_X1_19 hC dX1_verdictBy_1 hO (by first | omega | exact hB _ _ _ _ rfl | exact hB.i _ _ _ _ rfl | assumption | exact and_lt (hB _ _ _ _ rfl) | exact b2n_31 _) ?_
  refine v_iload_n hC dX1_verdictBy_4 rfl ?_
  refine al_8 hC dX1_verdictBy_5 hO (by first | omega | exact hB _ _ _ _ rfl | exact hB.i _ _ _ _ rfl | assumption | exact and_lt (hB _ _ _ _ rfl) | exact b2n_31 _) (by first | omega | exact hB _ _ _ _ rfl | exact hB.i _ _ _ _ rfl | assumption | exact and_lt (hB _ _ _ _ rfl) | exact b2n_31 _) ?_
  refine v_if_neN (tgt := 12) hC dX1_verdictBy_6 (by decide) (by first | omega | exact hB _ _ _ _ rfl | exact hB.i _ _ _ _ rfl | assumption | exact and_lt (hB _ _ _ _ rfl) | exact b2n_31 _) (fun c_6 => ?_) (fun c_6 => ?_)
  · refine v_aload_n hC dX1_verdictBy_12 rfl ?_
    refine gf_X1_19 hC dX1_verdictBy_13 hO (by first | omega | exact hB _ _ _ _ rfl | exact hB.i _ _ _ _ rfl | assumption | exact and_lt (hB _ _ _ _ rfl) | exact b2n_31 _) ?_
    refine v_iload_n hC dX1_verdictBy_16 rfl ?_
    refine al_8 hC dX1_verdictBy_17 hO (by first | omega | exact hB _ _ _ _ rfl | exact hB.i _ _ _ _ rfl | assumption | exact and_lt (hB _ _ _ _ rfl) | exact b2n_31 _) (by first | omega | exact hB _ _ _ _ rfl | exact hB.i _ _ _ _ rfl | assumption | exact and_lt (hB _ _ _ _ rfl) | exact b2n_31 _) ?_
    refine v_iconst (v := nI 2) hC dX1_verdictBy_18 (by decide) ?_
    refine v_icmp_neN (tgt := 25) hC dX1_verdictBy_19 (by decide) (by first | omega | exact hB _ _ _ _ rfl | exact hB.i _ _ _ _ rfl | assumption | exact and_lt (hB _ _ _ _ rfl) | exact b2n_31 _) (by first | omega | exact hB _ _ _ _ rfl | exact hB.i _ _ _ _ rfl | assumption | exact and_lt (hB _ _ _ _ rfl) | exact b2n_31 _) (fun c_19 => ?_) (fun c_19 => ?_)
    · refine v_aload_n hC dX1_verdictBy_25 rfl ?_
      refine v_iload_n hC dX1_verdictBy_26 rfl ?_
      refine v_iload_n hC dX1_verdictBy_27 rfl ?_
      refine v_callV_r0 hC lk_X1_58 dX1_verdictBy_28 (c_X1_coversAll hl0 hO hB (by first | omega | exact hB _ _ _ _ rfl | exact hB.i _ _ _ _ rfl | assumption | exact and_lt (hB _ _ _ _ rfl) | exact b2n_31 _) (by first | omega | exact hB _ _ _ _ rfl | exact hB.i _ _ _ _ rfl | assumption | exact and_lt (hB _ _ _ _ rfl) | exact b2n_31 _) (by first | omega | exact hB _ _ _ _ rfl | exact hB.i _ _ _ _ rfl | assumption | exact and_lt (hB _ _ _ _ rfl) | exact b2n_31 _)) (by decide) (by decide) (hO.k6 (by first | omega | exact hB _ _ _ _ rfl | exact hB.i _ _ _ _ rfl | assumption | exact and_lt (hB _ _ _ _ rfl) | exact b2n_31 _)) rfl rfl rfl rfl (Nat.le_of_ble_eq_true rfl) (by omega) (by omega) ?_
      refine v_if_eqN (tgt := 39) hC dX1_verdictBy_31 (by decide) (by first | omega | exact hB _ _ _ _ rfl | exact hB.i _ _ _ _ rfl | assumption | exact and_lt (hB _ _ _ _ rfl) | exact b2n_31 _) (fun c_31 => ?_) (fun c_31 => ?_)
      · refine v_bipush (v := nI 115) hC dX1_verdictBy_39 (by decide) ?_
        refine v_zret hC hM dX1_verdictBy_41 rfl (by omega) (by omega) ?_
        exact ⟨by rw [show vby σ i p d = 115 from by simp [vby, c_6, c_19, b2n_0 c_31]] <;> rfl, rfl⟩
      · refine v_bipush (v := nI 121) hC dX1_verdictBy_34 (by decide) ?_
        refine v_goto (tgt := 41) hC dX1_verdictBy_36 (by decide) ?_
        refine v_zret hC hM dX1_verdictBy_41 rfl (by omega) (by omega) ?_
        exact ⟨by rw [show vby σ i p d = 121 from by simp [vby, c_6, c_19, b2n_1 c_31]] <;> rfl, rfl⟩
    · refine v_bipush (v := nI 110) hC dX1_verdictBy_22 (by decide) ?_
      refine v_zret hC hM dX1_verdictBy_24 rfl (by omega) (by omega) ?_
      exact ⟨by rw [show vby σ i p d = 110 from by simp [vby, c_6, c_19]] <;> rfl, rfl⟩
  · refine v_bipush (v := nI 63) hC dX1_verdictBy_9 (by decide) ?_
    refine v_zret hC hM dX1_verdictBy_11 rfl (by omega) (by omega) ?_
    exact ⟨by rw [show vby σ i p d = 63 from by simp [vby, c_6]] <;> rfl, rfl⟩

/-- a change brought up to date, for the first n people -/
def utd (σ : SG) (i n : Nat) : SG := fun k' i' j' x' => if k' = 9 ∧ i' = i ∧ j' = 0 ∧ x' < n then clr (σ 9 i 0 x') (σ 6 i 0 4) else σ k' i' j' x'
theorem utd_0 (σ : SG) (i : Nat) : utd σ i 0 = σ := by
  funext k' i' j' x'
  simp [utd]
theorem utd_k {σ : SG} {i n k' i' j' x' : Nat} (h : k' ≠ 9) : utd σ i n k' i' j' x' = σ k' i' j' x' := by simp [utd, h]
theorem utd_x {σ : SG} {i n x' : Nat} (h : n ≤ x') : utd σ i n 9 i 0 x' = σ 9 i 0 x' := by simp [utd, Nat.not_lt.mpr h]
theorem utd_s (σ : SG) (i p : Nat) : utd σ i (p + 1) = up (utd σ i p) 9 i 0 p (clr (σ 9 i 0 p) (σ 6 i 0 4)) := by
  funext k' i' j' x'
  simp only [utd, up]
  by_cases c : k' = 9 ∧ i' = i ∧ j' = 0
  · obtain ⟨rfl, rfl, rfl⟩ := c
    by_cases e : x' = p
    · subst e; simp
    · have e2 : (x' < p + 1) ↔ (x' < p) := by omega
      simp only [true_and, e, if_false, e2]
  · have c1 : ¬ (k' = 9 ∧ i' = i ∧ j' = 0 ∧ x' < p + 1) := fun q => c ⟨q.1, q.2.1, q.2.2.1⟩
    have c2 : ¬ (k' = 9 ∧ i' = i ∧ j' = 0 ∧ x' = p) := fun q => c ⟨q.1, q.2.1, q.2.2.1⟩
    have c3 : ¬ (k' = 9 ∧ i' = i ∧ j' = 0 ∧ x' < p) := fun q => c ⟨q.1, q.2.1, q.2.2.1⟩
    rw [if_neg c1, if_neg c2, if_neg c3]
theorem utd_BD {σ : SG} (h : BD σ) {i n : Nat} : BD (utd σ i n) := fun k' i' j' x' hp => by
  unfold utd
  split
  · rename_i c
    rw [c.1]
    exact clr_lt (h 9 i 0 x' rfl)
  · exact h k' i' j' x' hp

set_option maxHeartbeats 4000000 in
set_option maxRecDepth 100000 in
theorem c_X1_bringUpToDate {l : Launch} (hl0 : l.stackTraces = false) {G : GT} {ok : KF} {ad : AD} {σ : SG} (hO : OKC ok) (hB : BD σ) {i : Nat} (hi : i < 16) : Ct l G 1 yX1_bringUpToDate cX1_bringUpToDate 2 (none) [.ref (ad 6 i 0)] ok ad σ (Rt none ok ad (up (utd σ i 6) 6 i 0 4 0)) (NX) 0 0 := by
  refine Ct.mk (by decide +kernel) hl0 (Nat.le_of_ble_eq_true rfl) (fun X hX hC hM => ?_)
  subst hX
  refine v_iconst (v := nI 0) hC dX1_bringUpToDate_0 (by decide) ?_
  refine v_istore_n hC dX1_bringUpToDate_1 (by decide) ?_
  have key : ∀ p, p ≤ 6 → V X G 0 0 ok ad (utd σ i p) [(0, .ref (ad 6 i 0)), (1, iv p)] 2 [] := by
    refine down (6) ?_ ?_
    · refine v_iload_n hC dX1_bringUpToDate_2 rfl ?_
      refine v_bipush (v := nI 6) hC dX1_bringUpToDate_3 (by decide) ?_
      refine v_icmp_geN (tgt := 31) hC dX1_bringUpToDate_5 (by decide) (by first | omega | exact hB _ _ _ _ rfl | exact hB.i _ _ _ _ rfl | assumption | exact and_lt (hB _ _ _ _ rfl) | exact b2n_31 _) (by first | omega | exact hB _ _ _ _ rfl | exact hB.i _ _ _ _ rfl | assumption | exact and_lt (hB _ _ _ _ rfl) | exact b2n_31 _) (fun c_5 => ?_) (fun c_5 => ?_)
      · refine v_aload_n hC dX1_bringUpToDate_31 rfl ?_
        refine v_lconst (v := lN 0) hC dX1_bringUpToDate_32 (by decide) ?_
        refine pf_X1_41 hC dX1_bringUpToDate_33 hO (by first | omega | exact hB _ _ _ _ rfl | exact hB.i _ _ _ _ rfl | assumption | exact and_lt (hB _ _ _ _ rfl) | exact b2n_31 _) ?_
        refine v_vret hC hM dX1_bringUpToDate_36 (by omega) (by omega) ?_
        exact ⟨rfl, rfl⟩
      · exact absurd c_5 (by omega)
    · intro p hp ih 
      refine v_iload_n hC dX1_bringUpToDate_2 rfl ?_
      refine v_bipush (v := nI 6) hC dX1_bringUpToDate_3 (by decide) ?_
      refine v_icmp_geN (tgt := 31) hC dX1_bringUpToDate_5 (by decide) (by first | omega | exact hB _ _ _ _ rfl | exact hB.i _ _ _ _ rfl | assumption | exact and_lt (hB _ _ _ _ rfl) | exact b2n_31 _) (by first | omega | exact hB _ _ _ _ rfl | exact hB.i _ _ _ _ rfl | assumption | exact and_lt (hB _ _ _ _ rfl) | exact b2n_31 _) (fun c_5 => ?_) (fun c_5 => ?_)
      · exact absurd c_5 (by omega)
      · refine v_aload_n hC dX1_bringUpToDate_8 rfl ?_
        refine gf_X1_22 hC dX1_bringUpToDate_9 hO (by first | omega | exact hB _ _ _ _ rfl | exact hB.i _ _ _ _ rfl | assumption | exact and_lt (hB _ _ _ _ rfl) | exact b2n_31 _) ?_
        refine v_iload_n hC dX1_bringUpToDate_12 rfl ?_
        refine v_dup2 hC dX1_bringUpToDate_13 rfl rfl ?_
        refine al_9 hC dX1_bringUpToDate_14 hO (by first | omega | exact hB _ _ _ _ rfl | exact hB.i _ _ _ _ rfl | assumption | exact and_lt (hB _ _ _ _ rfl) | exact b2n_31 _) (by first | omega | exact hB _ _ _ _ rfl | exact hB.i _ _ _ _ rfl | assumption | exact and_lt (hB _ _ _ _ rfl) | exact b2n_31 _) ?_
        refine v_aload_n hC dX1_bringUpToDate_15 rfl ?_
        refine gf_X1_41 hC dX1_bringUpToDate_16 hO (by first | omega | exact hB _ _ _ _ rfl | exact hB.i _ _ _ _ rfl | assumption | exact and_lt (hB _ _ _ _ rfl) | exact b2n_31 _) ?_
        refine v_ldc2 hC dX1_bringUpToDate_19 kl_X1_44 ?_
        refine v_lxorN hC dX1_bringUpToDate_22 ?_
        refine v_landN hC dX1_bringUpToDate_23 ?_
        rw [utd_x (Nat.le_refl _), utd_k (by decide)]
        refine as_9 hC dX1_bringUpToDate_24 hO (by first | omega | exact hB _ _ _ _ rfl | exact hB.i _ _ _ _ rfl | assumption | exact and_lt (hB _ _ _ _ rfl) | exact b2n_31 _) (by first | omega | exact hB _ _ _ _ rfl | exact hB.i _ _ _ _ rfl | assumption | exact and_lt (hB _ _ _ _ rfl) | exact b2n_31 _) ?_
        refine v_iincN hC dX1_bringUpToDate_25 rfl (by decide) ?_
        refine v_goto (tgt := 2) hC dX1_bringUpToDate_28 (by decide) ?_
        rw [utd_s] at ih
        exact v_sub rfl ih
  have k0 := key 0 (Nat.zero_le _)
  rw [utd_0] at k0
  exact v_sub rfl k0

