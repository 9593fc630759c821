set_option maxHeartbeats 4000000 in
set_option maxRecDepth 100000 in
theorem c_X1_hasEdit {l : Launch} (hl0 : l.stackTraces = false) {G : GT} {ok : KF} {ad : AD} {σ : SG} (hO : OKC ok) (hB : BD σ) {i : Nat} (hi : i < 16) {p : Nat} (hp : p < 64) : Ct l G 1 yX1_hasEdit cX1_hasEdit 2 (some .boolean) [.ref (ad 6 i 0), iv p] ok ad σ (Rt (some (iv (b2n ((σ 6 i 0 3).testBit p)))) ok ad σ) (NX) 0 0 := by
  refine Ct.mk (by decide +kernel) hl0 (Nat.le_of_ble_eq_true rfl) (fun X hX hC hM => ?_)
  subst hX
  refine v_aload_n hC dX1_hasEdit_0 rfl ?_
  refine gf_X1_31 hC dX1_hasEdit_1 hO (by first | omega | exact hB _ _ _ _ | exact hB.i _ _ _ _ rfl | assumption | exact and_lt (hB _ _ _ _) | exact b2n_31 _) ?_
  refine v_lconst (v := lN 1) hC dX1_hasEdit_4 (by decide) ?_
  refine v_iload_n hC dX1_hasEdit_5 rfl ?_
  refine v_lshlN hC dX1_hasEdit_6 (by first | omega | exact hB _ _ _ _ | exact hB.i _ _ _ _ rfl | assumption | exact and_lt (hB _ _ _ _) | exact b2n_31 _) ?_
  refine v_landN hC dX1_hasEdit_7 ?_
  refine v_lconst (v := lN 0) hC dX1_hasEdit_8 (by decide) ?_
  refine v_lcmp hC dX1_hasEdit_9 ?_
  refine v_if_eqJ (tgt := 17) hC dX1_hasEdit_10 (by decide) (by first | omega | exact hB _ _ _ _ | exact hB.i _ _ _ _ rfl | assumption | exact and_lt (hB _ _ _ _) | exact b2n_31 _) (by first | omega | exact hB _ _ _ _ | exact hB.i _ _ _ _ rfl | assumption | exact and_lt (hB _ _ _ _) | exact b2n_31 _) (fun c_10 => ?_) (fun c_10 => ?_)
  · refine v_iconst (v := nI 0) hC dX1_hasEdit_17 (by decide) ?_
    refine v_zret hC hM dX1_hasEdit_18 rfl (by omega) (by omega) ?_
    first
      | exact ⟨by rw [(bit_z _ _).mp c_10]; rfl, rfl⟩
      | exact ⟨by rw [bit_nz c_10]; rfl, rfl⟩
  · refine v_iconst (v := nI 1) hC dX1_hasEdit_13 (by decide) ?_
    refine v_goto (tgt := 18) hC dX1_hasEdit_14 (by decide) ?_
    refine v_zret hC hM dX1_hasEdit_18 rfl (by omega) (by omega) ?_
    first
      | exact ⟨by rw [(bit_z _ _).mp c_10]; rfl, rfl⟩
      | exact ⟨by rw [bit_nz c_10]; rfl, rfl⟩

set_option maxHeartbeats 4000000 in
set_option maxRecDepth 100000 in
theorem c_X1_putEdit {l : Launch} (hl0 : l.stackTraces = false) {G : GT} {ok : KF} {ad : AD} {σ : SG} (hO : OKC ok) (hB : BD σ) {i : Nat} (hi : i < 16) {p v : Nat} (hp : p < 64) : Ct l G 1 yX1_putEdit cX1_putEdit 3 (none) [.ref (ad 6 i 0), iv p, iv v] ok ad σ (Rt none ok ad (up (up σ 6 i 0 3 (σ 6 i 0 3 ||| 1 * 2 ^ p)) 7 i 0 p v)) (NX) 0 0 := by
  refine Ct.mk (by decide +kernel) hl0 (Nat.le_of_ble_eq_true rfl) (fun X hX hC hM => ?_)
  subst hX
  refine v_aload_n hC dX1_putEdit_0 rfl ?_
  refine v_dup hC dX1_putEdit_1 rfl ?_
  refine gf_X1_31 hC dX1_putEdit_2 hO (by first | omega | exact hB _ _ _ _ | exact hB.i _ _ _ _ rfl | assumption | exact and_lt (hB _ _ _ _) | exact b2n_31 _) ?_
  refine v_lconst (v := lN 1) hC dX1_putEdit_5 (by decide) ?_
  refine v_iload_n hC dX1_putEdit_6 rfl ?_
  refine v_lshlN hC dX1_putEdit_7 (by first | omega | exact hB _ _ _ _ | exact hB.i _ _ _ _ rfl | assumption | exact and_lt (hB _ _ _ _) | exact b2n_31 _) ?_
  refine v_lorN hC dX1_putEdit_8 ?_
  refine pf_X1_31 hC dX1_putEdit_9 hO (by first | omega | exact hB _ _ _ _ | exact hB.i _ _ _ _ rfl | assumption | exact and_lt (hB _ _ _ _) | exact b2n_31 _) ?_
  refine v_aload_n hC dX1_putEdit_12 rfl ?_
  refine gf_X1_15 hC dX1_putEdit_13 hO (by first | omega | exact hB _ _ _ _ | exact hB.i _ _ _ _ rfl | assumption | exact and_lt (hB _ _ _ _) | exact b2n_31 _) ?_
  refine v_iload_n hC dX1_putEdit_16 rfl ?_
  refine v_iload_n hC dX1_putEdit_17 rfl ?_
  refine as_7 hC dX1_putEdit_18 hO (by first | omega | exact hB _ _ _ _ | exact hB.i _ _ _ _ rfl | assumption | exact and_lt (hB _ _ _ _) | exact b2n_31 _) (by first | omega | exact hB _ _ _ _ | exact hB.i _ _ _ _ rfl | assumption | exact and_lt (hB _ _ _ _) | exact b2n_31 _) ?_
  refine v_vret hC hM dX1_putEdit_19 (by omega) (by omega) ?_
  exact ⟨rfl, rfl⟩

set_option maxHeartbeats 4000000 in
set_option maxRecDepth 100000 in
theorem c_X1_removeEdit {l : Launch} (hl0 : l.stackTraces = false) {G : GT} {ok : KF} {ad : AD} {σ : SG} (hO : OKC ok) (hB : BD σ) {i : Nat} (hi : i < 16) {p : Nat} (hp : p < 64) : Ct l G 1 yX1_removeEdit cX1_removeEdit 2 (none) [.ref (ad 6 i 0), iv p] ok ad σ (Rt none ok ad (up (up σ 6 i 0 3 (clr (σ 6 i 0 3) (1 * 2 ^ p))) 6 i 0 4 (clr (σ 6 i 0 4) (1 * 2 ^ p)))) (NX) 0 0 := by
  refine Ct.mk (by decide +kernel) hl0 (Nat.le_of_ble_eq_true rfl) (fun X hX hC hM => ?_)
  subst hX
  refine v_aload_n hC dX1_removeEdit_0 rfl ?_
  refine v_dup hC dX1_removeEdit_1 rfl ?_
  refine gf_X1_31 hC dX1_removeEdit_2 hO (by first | omega | exact hB _ _ _ _ | exact hB.i _ _ _ _ rfl | assumption | exact and_lt (hB _ _ _ _) | exact b2n_31 _) ?_
  refine v_lconst (v := lN 1) hC dX1_removeEdit_5 (by decide) ?_
  refine v_iload_n hC dX1_removeEdit_6 rfl ?_
  refine v_lshlN hC dX1_removeEdit_7 (by first | omega | exact hB _ _ _ _ | exact hB.i _ _ _ _ rfl | assumption | exact and_lt (hB _ _ _ _) | exact b2n_31 _) ?_
  refine v_ldc2 hC dX1_removeEdit_8 kl_X1_44 ?_
  refine v_lxorN hC dX1_removeEdit_11 ?_
  refine v_landN hC dX1_removeEdit_12 ?_
  refine pf_X1_31 hC dX1_removeEdit_13 hO (by first | omega | exact hB _ _ _ _ | exact hB.i _ _ _ _ rfl | assumption | exact and_lt (hB _ _ _ _) | exact b2n_31 _) ?_
  refine v_aload_n hC dX1_removeEdit_16 rfl ?_
  refine v_dup hC dX1_removeEdit_17 rfl ?_
  refine gf_X1_41 hC dX1_removeEdit_18 hO (by first | omega | exact hB _ _ _ _ | exact hB.i _ _ _ _ rfl | assumption | exact and_lt (hB _ _ _ _) | exact b2n_31 _) ?_
  refine v_lconst (v := lN 1) hC dX1_removeEdit_21 (by decide) ?_
  refine v_iload_n hC dX1_removeEdit_22 rfl ?_
  refine v_lshlN hC dX1_removeEdit_23 (by first | omega | exact hB _ _ _ _ | exact hB.i _ _ _ _ rfl | assumption | exact and_lt (hB _ _ _ _) | exact b2n_31 _) ?_
  refine v_ldc2 hC dX1_removeEdit_24 kl_X1_44 ?_
  refine v_lxorN hC dX1_removeEdit_27 ?_
  refine v_landN hC dX1_removeEdit_28 ?_
  refine pf_X1_41 hC dX1_removeEdit_29 hO (by first | omega | exact hB _ _ _ _ | exact hB.i _ _ _ _ rfl | assumption | exact and_lt (hB _ _ _ _) | exact b2n_31 _) ?_
  refine v_vret hC hM dX1_removeEdit_32 (by omega) (by omega) ?_
  refine ⟨rfl, ?_⟩
  rw [up_x (by decide)]
  rfl

def tch (m d : Nat) : Bool := decide (m &&& 65535 * 2 ^ (d * 16) ≠ 0)
set_option maxHeartbeats 4000000 in
set_option maxRecDepth 100000 in
theorem c_X1_touches {l : Launch} (hl0 : l.stackTraces = false) {G : GT} {ok : KF} {ad : AD} {σ : SG} (hO : OKC ok) (hB : BD σ) {i : Nat} (hi : i < 16) {d : Nat} (hd : d < 4) : Ct l G 1 yX1_touches cX1_touches 2 (some .boolean) [.ref (ad 6 i 0), iv d] ok ad σ (Rt (some (iv (b2n (tch (σ 6 i 0 3) d)))) ok ad σ) (NX) 0 0 := by
  refine Ct.mk (by decide +kernel) hl0 (Nat.le_of_ble_eq_true rfl) (fun X hX hC hM => ?_)
  subst hX
  refine v_aload_n hC dX1_touches_0 rfl ?_
  refine gf_X1_31 hC dX1_touches_1 hO (by first | omega | exact hB _ _ _ _ | exact hB.i _ _ _ _ rfl | assumption | exact and_lt (hB _ _ _ _) | exact b2n_31 _) ?_
  refine v_ldc2 hC dX1_touches_4 kl_X1_46 ?_
  refine v_iload_n hC dX1_touches_7 rfl ?_
  refine v_bipush (v := nI 16) hC dX1_touches_8 (by decide) ?_
  refine v_imulN hC dX1_touches_10 ?_
  refine v_lshlN hC dX1_touches_11 (by first | omega | exact hB _ _ _ _ | exact hB.i _ _ _ _ rfl | assumption | exact and_lt (hB _ _ _ _) | exact b2n_31 _) ?_
  refine v_landN hC dX1_touches_12 ?_
  refine v_lconst (v := lN 0) hC dX1_touches_13 (by decide) ?_
  refine v_lcmp hC dX1_touches_14 ?_
  refine v_if_eqJ (tgt := 22) hC dX1_touches_15 (by decide) (by first | omega | exact hB _ _ _ _ | exact hB.i _ _ _ _ rfl | assumption | exact and_lt (hB _ _ _ _) | exact b2n_31 _) (by first | omega | exact hB _ _ _ _ | exact hB.i _ _ _ _ rfl | assumption | exact and_lt (hB _ _ _ _) | exact b2n_31 _) (fun c_15 => ?_) (fun c_15 => ?_)
  · refine v_iconst (v := nI 0) hC dX1_touches_22 (by decide) ?_
    refine v_zret hC hM dX1_touches_23 rfl (by omega) (by omega) ?_
    first
      | exact ⟨by rw [show tch (σ 6 i 0 3) d = false from decide_eq_false (fun h => h c_15)]; rfl, rfl⟩
      | exact ⟨by rw [show tch (σ 6 i 0 3) d = true from decide_eq_true c_15]; rfl, rfl⟩
  · refine v_iconst (v := nI 1) hC dX1_touches_18 (by decide) ?_
    refine v_goto (tgt := 23) hC dX1_touches_19 (by decide) ?_
    refine v_zret hC hM dX1_touches_23 rfl (by omega) (by omega) ?_
    first
      | exact ⟨by rw [show tch (σ 6 i 0 3) d = false from decide_eq_false (fun h => h c_15)]; rfl, rfl⟩
      | exact ⟨by rw [show tch (σ 6 i 0 3) d = true from decide_eq_true c_15]; rfl, rfl⟩

/-- the change i laid over the values w, for the first n places -/
def lay (σ : SG) (i w n : Nat) : SG := fun k' i' j' x' => if k' = 15 ∧ i' = w ∧ j' = 0 ∧ x' < n ∧ (σ 6 i 0 3).testBit x' = true then σ 7 i 0 x' else σ k' i' j' x'
theorem lay_0 (σ : SG) (i w : Nat) : lay σ i w 0 = σ := by
  funext k' i' j' x'
  simp [lay]
theorem lay_k {σ : SG} {i w n k' i' j' x' : Nat} (h : k' ≠ 15) : lay σ i w n k' i' j' x' = σ k' i' j' x' := by simp [lay, h]
theorem lay_t {σ : SG} {i w p : Nat} (h : (σ 6 i 0 3).testBit p = true) : lay σ i w (p + 1) = up (lay σ i w p) 15 w 0 p (σ 7 i 0 p) := by
  funext k' i' j' x'
  simp only [lay, up]
  by_cases c : k' = 15 ∧ i' = w ∧ j' = 0
  · obtain ⟨rfl, rfl, rfl⟩ := c
    by_cases e : x' = p
    · subst e; simp [h]
    · simp only [true_and, e, if_false]
      have e2 : (x' < p + 1) ↔ (x' < p) := by omega
      simp only [e2]
  · have c1 : ¬ (k' = 15 ∧ i' = w ∧ j' = 0 ∧ x' < p + 1 ∧ (σ 6 i 0 3).testBit x' = true) := fun q => c ⟨q.1, q.2.1, q.2.2.1⟩
    have c2 : ¬ (k' = 15 ∧ i' = w ∧ j' = 0 ∧ x' = p) := fun q => c ⟨q.1, q.2.1, q.2.2.1⟩
    have c3 : ¬ (k' = 15 ∧ i' = w ∧ j' = 0 ∧ x' < p ∧ (σ 6 i 0 3).testBit x' = true) := fun q => c ⟨q.1, q.2.1, q.2.2.1⟩
    rw [if_neg c1, if_neg c2, if_neg c3]
theorem lay_f {σ : SG} {i w p : Nat} (h : (σ 6 i 0 3).testBit p = false) : lay σ i w (p + 1) = lay σ i w p := by
  funext k' i' j' x'
  simp only [lay]
  by_cases e : x' = p
  · subst e; simp [h]
  · have e2 : (x' < p + 1) ↔ (x' < p) := by omega
    simp only [e2]
theorem lay_BD {σ : SG} (h : BD σ) {i w n : Nat} : BD (lay σ i w n) := fun k' i' j' x' => by
  unfold lay
  split
  · rename_i c
    rw [c.1]
    exact h 7 i 0 x'
  · exact h k' i' j' x'

set_option maxHeartbeats 4000000 in
set_option maxRecDepth 100000 in
theorem c_X1_applyTo {l : Launch} (hl0 : l.stackTraces = false) {G : GT} {ok : KF} {ad : AD} {σ : SG} (hO : OKC ok) (hB : BD σ) {i : Nat} (hi : i < 16) {w : Nat} (hw : w < 2) : Ct l G 2 yX1_applyTo cX1_applyTo 3 (none) [.ref (ad 6 i 0), .ref (ad 15 w 0)] ok ad σ (Rt none ok ad (lay σ i w 64)) (NX) 0 0 := by
  refine Ct.mk (by decide +kernel) hl0 (Nat.le_of_ble_eq_true rfl) (fun X hX hC hM => ?_)
  subst hX
  refine v_iconst (v := nI 0) hC dX1_applyTo_0 (by decide) ?_
  refine v_istore_n hC dX1_applyTo_1 (by decide) ?_
  have key : ∀ p, p ≤ 64 → V X G 0 0 ok ad (lay σ i w p) [(0, .ref (ad 6 i 0)), (1, .ref (ad 15 w 0)), (2, iv p)] 2 [] := by
    refine down (64) ?_ ?_
    · refine v_iload_n hC dX1_applyTo_2 rfl ?_
      refine v_bipush (v := nI 64) hC dX1_applyTo_3 (by decide) ?_
      refine v_icmp_geN (tgt := 31) hC dX1_applyTo_5 (by decide) (by first | omega | exact hB _ _ _ _ | exact hB.i _ _ _ _ rfl | assumption | exact and_lt (hB _ _ _ _) | exact b2n_31 _) (by first | omega | exact hB _ _ _ _ | exact hB.i _ _ _ _ rfl | assumption | exact and_lt (hB _ _ _ _) | exact b2n_31 _) (fun c_5 => ?_) (fun c_5 => ?_)
      · refine v_vret hC hM dX1_applyTo_31 (by omega) (by omega) ?_
        exact ⟨rfl, rfl⟩
      · exact absurd c_5 (by omega)
    · intro p hp ih 
      refine v_iload_n hC dX1_applyTo_2 rfl ?_
      refine v_bipush (v := nI 64) hC dX1_applyTo_3 (by decide) ?_
      refine v_icmp_geN (tgt := 31) hC dX1_applyTo_5 (by decide) (by first | omega | exact hB _ _ _ _ | exact hB.i _ _ _ _ rfl | assumption | exact and_lt (hB _ _ _ _) | exact b2n_31 _) (by first | omega | exact hB _ _ _ _ | exact hB.i _ _ _ _ rfl | assumption | exact and_lt (hB _ _ _ _) | exact b2n_31 _) (fun c_5 => ?_) (fun c_5 => ?_)
      · exact absurd c_5 (by omega)
      · refine v_aload_n hC dX1_applyTo_8 rfl ?_
        refine v_iload_n hC dX1_applyTo_9 rfl ?_
        have hBl := lay_BD hB (i := i) (w := w) (n := p)
        refine v_callV_r0 hC lk_X1_48 dX1_applyTo_10 (c_X1_hasEdit hl0 hO hBl hi hp) (by decide) (by decide) (hO.k6 hi) rfl rfl rfl rfl (Nat.le_of_ble_eq_true rfl) (by omega) (by omega) ?_
        rw [lay_k (by decide)]
        refine v_if_eqN (tgt := 25) hC dX1_applyTo_13 (by decide) (by first | omega | exact hB _ _ _ _ | exact hB.i _ _ _ _ rfl | assumption | exact and_lt (hB _ _ _ _) | exact b2n_31 _) (fun c_13 => ?_) (fun c_13 => ?_)
        · refine v_iincN hC dX1_applyTo_25 rfl (by decide) ?_
          refine v_goto (tgt := 2) hC dX1_applyTo_28 (by decide) ?_
          first
            | exact v_sub rfl ih
            | (rw [lay_f (b2n_0 c_13)] at ih; exact v_sub rfl ih)
            | (rw [lay_k (by decide)]; exact v_sub rfl ih)
        · rw [lay_t (b2n_1 c_13)] at ih
          refine v_aload_n hC dX1_applyTo_16 rfl ?_
          refine v_iload_n hC dX1_applyTo_17 rfl ?_
          refine v_aload_n hC dX1_applyTo_18 rfl ?_
          refine gf_X1_15 hC dX1_applyTo_19 hO (by first | omega | exact hB _ _ _ _ | exact hB.i _ _ _ _ rfl | assumption | exact and_lt (hB _ _ _ _) | exact b2n_31 _) ?_
          refine v_iload_n hC dX1_applyTo_22 rfl ?_
          refine al_7 hC dX1_applyTo_23 hO (by first | omega | exact hB _ _ _ _ | exact hB.i _ _ _ _ rfl | assumption | exact and_lt (hB _ _ _ _) | exact b2n_31 _) (by first | omega | exact hB _ _ _ _ | exact hB.i _ _ _ _ rfl | assumption | exact and_lt (hB _ _ _ _) | exact b2n_31 _) ?_
          refine as_15 hC dX1_applyTo_24 hO (by first | omega | exact hB _ _ _ _ | exact hB.i _ _ _ _ rfl | assumption | exact and_lt (hB _ _ _ _) | exact b2n_31 _) (by first | omega | exact hB _ _ _ _ | exact hB.i _ _ _ _ rfl | assumption | exact and_lt (hB _ _ _ _) | exact b2n_31 _) ?_
          refine v_iincN hC dX1_applyTo_25 rfl (by decide) ?_
          refine v_goto (tgt := 2) hC dX1_applyTo_28 (by decide) ?_
          first
            | exact v_sub rfl ih
            | (rw [lay_f (b2n_0 c_13)] at ih; exact v_sub rfl ih)
            | (rw [lay_k (by decide)]; exact v_sub rfl ih)
  have k0 := key 0 (Nat.zero_le _)
  rw [lay_0] at k0
  exact v_sub rfl k0

