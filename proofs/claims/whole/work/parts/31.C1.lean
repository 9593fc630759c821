set_option maxHeartbeats 4000000 in
set_option maxRecDepth 100000 in
theorem c_X1_editCount {l : Launch} (hl0 : l.stackTraces = false) {G : GT} {ok : KF} {ad : AD} {σ : SG} (hO : OKC ok) (hB : BD σ) {i : Nat} (hi : i < 16) : Ct l G 1 yX1_editCount cX1_editCount 1 (some .int) [.ref (ad 6 i 0)] ok ad σ (Rt (some (iv (pop (σ 6 i 0 3)))) ok ad σ) (NX) 0 0 := by
  refine Ct.mk (by decide +kernel) hl0 (Nat.le_of_ble_eq_true rfl) (fun X hX hC hM => ?_)
  subst hX
  refine v_aload_n hC dX1_editCount_0 rfl ?_
  refine gf_X1_31 hC dX1_editCount_1 hO (by first | omega | exact hB _ _ _ _ rfl | exact hB.i _ _ _ _ rfl | assumption | exact and_lt (hB _ _ _ _ rfl) | exact b2n_31 _) ?_
  refine v_callS_r0 hC lk_X1_35 dX1_editCount_4 (c_J13_bitCount_95d88 hl0 (hB _ _ _ _ rfl)) (by decide) (by decide) rfl rfl (Nat.le_of_ble_eq_true rfl) (by omega) (by omega) ?_
  refine v_iret hC hM dX1_editCount_7 (by omega) (by omega) ?_
  exact ⟨rfl, rfl⟩

set_option maxHeartbeats 4000000 in
set_option maxRecDepth 100000 in
theorem c_X1_clashCount {l : Launch} (hl0 : l.stackTraces = false) {G : GT} {ok : KF} {ad : AD} {σ : SG} (hO : OKC ok) (hB : BD σ) {i : Nat} (hi : i < 16) : Ct l G 1 yX1_clashCount cX1_clashCount 1 (some .int) [.ref (ad 6 i 0)] ok ad σ (Rt (some (iv (pop (σ 6 i 0 4)))) ok ad σ) (NX) 0 0 := by
  refine Ct.mk (by decide +kernel) hl0 (Nat.le_of_ble_eq_true rfl) (fun X hX hC hM => ?_)
  subst hX
  refine v_aload_n hC dX1_clashCount_0 rfl ?_
  refine gf_X1_41 hC dX1_clashCount_1 hO (by first | omega | exact hB _ _ _ _ rfl | exact hB.i _ _ _ _ rfl | assumption | exact and_lt (hB _ _ _ _ rfl) | exact b2n_31 _) ?_
  refine v_callS_r0 hC lk_X1_35 dX1_clashCount_4 (c_J13_bitCount_95d88 hl0 (hB _ _ _ _ rfl)) (by decide) (by decide) rfl rfl (Nat.le_of_ble_eq_true rfl) (by omega) (by omega) ?_
  refine v_iret hC hM dX1_clashCount_7 (by omega) (by omega) ?_
  exact ⟨rfl, rfl⟩

set_option maxHeartbeats 4000000 in
set_option maxRecDepth 100000 in
theorem c_X2_at {l : Launch} (hl0 : l.stackTraces = false) {G : GT} {ok : KF} {ad : AD} {σ : SG} (hO : OKC ok) (hB : BD σ) {w : Nat} (hw : w < 2) {n : Nat} (hn : n < 16) : Ct l G 0 yX2_at cX2_at 2 (some .int) [.ref (ad 12 w 0), iv n] ok ad σ (Rt (some (iv (σ 13 w 0 n))) ok ad σ) (NX) 0 0 := by
  refine Ct.mk (by decide +kernel) hl0 (Nat.le_of_ble_eq_true rfl) (fun X hX hC hM => ?_)
  subst hX
  refine v_aload_n hC dX2_at_0 rfl ?_
  refine gf_X2_9 hC dX2_at_1 hO (by first | omega | exact hB _ _ _ _ rfl | exact hB.i _ _ _ _ rfl | assumption | exact and_lt (hB _ _ _ _ rfl) | exact b2n_31 _) ?_
  refine v_iload_n hC dX2_at_4 rfl ?_
  refine al_13 hC dX2_at_5 hO (by first | omega | exact hB _ _ _ _ rfl | exact hB.i _ _ _ _ rfl | assumption | exact and_lt (hB _ _ _ _ rfl) | exact b2n_31 _) (by first | omega | exact hB _ _ _ _ rfl | exact hB.i _ _ _ _ rfl | assumption | exact and_lt (hB _ _ _ _ rfl) | exact b2n_31 _) ?_
  refine v_iret hC hM dX2_at_6 (by omega) (by omega) ?_
  exact ⟨rfl, rfl⟩

theorem pop_31 (m : Nat) : pop m < 2 ^ 31 := Nat.lt_of_le_of_lt (pop_le m) (by decide)
/-- a number left out of an order: the numbers that stay, moved up -/
def drp (f : Nat → Nat) (n : Nat) : Nat → (Nat → Nat) × Nat
  | 0 => (f, 0)
  | i + 1 => if f i ≠ n then (fun x => if x = (drp f n i).2 then f i else (drp f n i).1 x, (drp f n i).2 + 1) else drp f n i
theorem drp_le (f : Nat → Nat) (n : Nat) : ∀ i, (drp f n i).2 ≤ i
  | 0 => Nat.le_refl 0
  | i + 1 => by
    have h := drp_le f n i
    unfold drp
    split
    · show (drp f n i).2 + 1 ≤ i + 1; omega
    · omega
theorem drp_hi (f : Nat → Nat) (n : Nat) : ∀ i x, i ≤ x → (drp f n i).1 x = f x
  | 0, x, _ => rfl
  | i + 1, x, hx => by
    have h := drp_hi f n i x (by omega)
    have h2 := drp_le f n i
    unfold drp
    split
    · show (if x = (drp f n i).2 then f i else (drp f n i).1 x) = f x
      rw [if_neg (by omega), h]
    · exact h
theorem drp_all {Q : Nat → Prop} {f : Nat → Nat} (h : ∀ x, Q (f x)) (n : Nat) : ∀ i x, Q ((drp f n i).1 x)
  | 0, x => h x
  | i + 1, x => by
    have ih := drp_all h n i x
    unfold drp
    split
    · show Q (if x = (drp f n i).2 then f i else (drp f n i).1 x)
      split
      · exact h i
      · exact ih
    · exact ih
theorem upr_up (σ : SG) (k i j : Nat) (f : Nat → Nat) (x v : Nat) : up (upr σ k i j f) k i j x v = upr σ k i j (fun y => if y = x then v else f y) := by
  funext k' i' j' x'
  simp only [up, upr]
  by_cases c : k' = k ∧ i' = i ∧ j' = j
  · obtain ⟨rfl, rfl, rfl⟩ := c
    simp
  · have c1 : ¬ (k' = k ∧ i' = i ∧ j' = j ∧ x' = x) := fun q => c ⟨q.1, q.2.1, q.2.2.1⟩
    simp only [if_neg c, if_neg c1]
theorem upr_id (σ : SG) (k i j : Nat) : upr σ k i j (σ k i j) = σ := by
  funext k' i' j' x'
  simp only [upr]
  split
  · rename_i c
    obtain ⟨rfl, rfl, rfl⟩ := c
    rfl
  · rfl
/-- the order w without the number n -/
def drO (σ : SG) (w n : Nat) : SG := up (upr σ 13 w 0 (drp (σ 13 w 0) n (σ 12 w 0 0)).1) 12 w 0 0 (drp (σ 13 w 0) n (σ 12 w 0 0)).2
theorem drO_BD {σ : SG} (h : BD σ) {w n : Nat} (hs : σ 12 w 0 0 ≤ 16) : BD (drO σ w n) :=
  BD.put (BD.putr h (fun x _ => drp_all (Q := fun v => v < bnd 13 x) (fun y => h 13 w 0 y rfl) n _ x)) (Nat.lt_of_le_of_lt (drp_le _ _ _) (Nat.lt_of_le_of_lt hs (by decide)))
theorem drO_k {σ : SG} {w n k i j x : Nat} (h1 : k ≠ 12) (h2 : k ≠ 13) : drO σ w n k i j x = σ k i j x := by
  unfold drO
  rw [up_k h1, upr_k h2]
def apO (σ : SG) (w n : Nat) : SG := up (up σ 13 w 0 (σ 12 w 0 0) n) 12 w 0 0 (σ 12 w 0 0 + 1)
theorem apO_BD {σ : SG} (h : BD σ) {w n : Nat} (hn : n < 16) (hs : σ 12 w 0 0 < 16) : BD (apO σ w n) := BD.put (BD.put h hn) (show σ 12 w 0 0 + 1 < 17 by omega)
theorem apO_k {σ : SG} {w n k i j x : Nat} (h1 : k ≠ 12) (h2 : k ≠ 13) : apO σ w n k i j x = σ k i j x := by
  unfold apO
  rw [up_k h1, up_k h2]

set_option maxHeartbeats 4000000 in
set_option maxRecDepth 100000 in
theorem c_X2_append {l : Launch} (hl0 : l.stackTraces = false) {G : GT} {ok : KF} {ad : AD} {σ : SG} (hO : OKC ok) (hB : BD σ) {w : Nat} (hw : w < 2) {n : Nat} (hn : n < 16) (hs : σ 12 w 0 0 < 16) : Ct l G 1 yX2_append cX2_append 2 (none) [.ref (ad 12 w 0), iv n] ok ad σ (Rt none ok ad (apO σ w n)) (NX) 0 0 := by
  refine Ct.mk (by decide +kernel) hl0 (Nat.le_of_ble_eq_true rfl) (fun X hX hC hM => ?_)
  subst hX
  refine v_aload_n hC dX2_append_0 rfl ?_
  refine gf_X2_15 hC dX2_append_1 hO (by first | omega | exact hB _ _ _ _ rfl | exact hB.i _ _ _ _ rfl | assumption | exact and_lt (hB _ _ _ _ rfl) | exact b2n_31 _) ?_
  refine v_bipush (v := nI 16) hC dX2_append_4 (by decide) ?_
  refine v_icmp_geN (tgt := 29) hC dX2_append_6 (by decide) (by first | omega | exact hB _ _ _ _ rfl | exact hB.i _ _ _ _ rfl | assumption | exact and_lt (hB _ _ _ _ rfl) | exact b2n_31 _) (by first | omega | exact hB _ _ _ _ rfl | exact hB.i _ _ _ _ rfl | assumption | exact and_lt (hB _ _ _ _ rfl) | exact b2n_31 _) (fun c_6 => ?_) (fun c_6 => ?_)
  · refine v_vret hC hM dX2_append_29 (by omega) (by omega) ?_
    first
      | exact absurd c_6 (by omega)
      | (refine ⟨rfl, ?_⟩; rw [up_k (by decide)]; rfl)
  · refine v_aload_n hC dX2_append_9 rfl ?_
    refine gf_X2_9 hC dX2_append_10 hO (by first | omega | exact hB _ _ _ _ rfl | exact hB.i _ _ _ _ rfl | assumption | exact and_lt (hB _ _ _ _ rfl) | exact b2n_31 _) ?_
    refine v_aload_n hC dX2_append_13 rfl ?_
    refine gf_X2_15 hC dX2_append_14 hO (by first | omega | exact hB _ _ _ _ rfl | exact hB.i _ _ _ _ rfl | assumption | exact and_lt (hB _ _ _ _ rfl) | exact b2n_31 _) ?_
    refine v_iload_n hC dX2_append_17 rfl ?_
    refine as_13 hC dX2_append_18 hO (by first | omega | exact hB _ _ _ _ rfl | exact hB.i _ _ _ _ rfl | assumption | exact and_lt (hB _ _ _ _ rfl) | exact b2n_31 _) (by first | omega | exact hB _ _ _ _ rfl | exact hB.i _ _ _ _ rfl | assumption | exact and_lt (hB _ _ _ _ rfl) | exact b2n_31 _) ?_
    refine v_aload_n hC dX2_append_19 rfl ?_
    refine v_dup hC dX2_append_20 rfl ?_
    refine gf_X2_15 hC dX2_append_21 hO (by first | omega | exact hB _ _ _ _ rfl | exact hB.i _ _ _ _ rfl | assumption | exact and_lt (hB _ _ _ _ rfl) | exact b2n_31 _) ?_
    refine v_iconst (v := nI 1) hC dX2_append_24 (by decide) ?_
    refine v_iaddN hC dX2_append_25 ?_
    refine pf_X2_15 hC dX2_append_26 hO (by first | omega | exact hB _ _ _ _ rfl | exact hB.i _ _ _ _ rfl | assumption | exact and_lt (hB _ _ _ _ rfl) | exact b2n_31 _) ?_
    refine v_vret hC hM dX2_append_29 (by omega) (by omega) ?_
    first
      | exact absurd c_6 (by omega)
      | (refine ⟨rfl, ?_⟩; rw [up_k (by decide)]; rfl)

set_option maxHeartbeats 4000000 in
set_option maxRecDepth 100000 in
theorem c_X2_drop {l : Launch} (hl0 : l.stackTraces = false) {G : GT} {ok : KF} {ad : AD} {σ : SG} (hO : OKC ok) (hB : BD σ) {w : Nat} (hw : w < 2) {n : Nat} (hn : n < 16) (hs : σ 12 w 0 0 ≤ 16) : Ct l G 1 yX2_drop cX2_drop 4 (none) [.ref (ad 12 w 0), iv n] ok ad σ (Rt none ok ad (drO σ w n)) (NX) 0 0 := by
  refine Ct.mk (by decide +kernel) hl0 (Nat.le_of_ble_eq_true rfl) (fun X hX hC hM => ?_)
  subst hX
  have dl := drp_le (σ 13 w 0) n
  have hsz : ∀ f, upr σ 13 w 0 f 12 w 0 0 = σ 12 w 0 0 := fun f => upr_k (by decide)
  refine v_iconst (v := nI 0) hC dX2_drop_0 (by decide) ?_
  refine v_istore_n hC dX2_drop_1 (by decide) ?_
  refine v_iconst (v := nI 0) hC dX2_drop_2 (by decide) ?_
  refine v_istore_n hC dX2_drop_3 (by decide) ?_
  have key : ∀ p, p ≤ σ 12 w 0 0 → V X G 0 0 ok ad (upr σ 13 w 0 (drp (σ 13 w 0) n p).1) [(0, .ref (ad 12 w 0)), (1, iv n), (2, iv (drp (σ 13 w 0) n p).2), (3, iv p)] 4 [] := by
    refine down (σ 12 w 0 0) ?_ ?_
    · refine v_iload_n hC dX2_drop_4 rfl ?_
      refine v_aload_n hC dX2_drop_5 rfl ?_
      refine gf_X2_15 hC dX2_drop_6 hO (by first | omega | exact hw | (rw [hsz]; omega) | exact Nat.lt_of_le_of_lt (dl _) (by omega)) ?_
      rw [hsz]
      refine v_icmp_geN (tgt := 43) hC dX2_drop_9 (by decide) (by first | omega | exact hw | (rw [hsz]; omega) | exact Nat.lt_of_le_of_lt (dl _) (by omega)) (by first | omega | exact hw | (rw [hsz]; omega) | exact Nat.lt_of_le_of_lt (dl _) (by omega)) (fun c_9 => ?_) (fun c_9 => ?_)
      · refine v_aload_n hC dX2_drop_43 rfl ?_
        refine v_iload_n hC dX2_drop_44 rfl ?_
        refine pf_X2_15 hC dX2_drop_45 hO (by first | omega | exact hw | (rw [hsz]; omega) | exact Nat.lt_of_le_of_lt (dl _) (by omega)) ?_
        refine v_vret hC hM dX2_drop_48 (by omega) (by omega) ?_
        exact ⟨rfl, rfl⟩
      · exact absurd c_9 (by omega)
    · intro p hp ih 
      refine v_iload_n hC dX2_drop_4 rfl ?_
      refine v_aload_n hC dX2_drop_5 rfl ?_
      refine gf_X2_15 hC dX2_drop_6 hO (by first | omega | exact hw | (rw [hsz]; omega) | exact Nat.lt_of_le_of_lt (dl _) (by omega)) ?_
      rw [hsz]
      refine v_icmp_geN (tgt := 43) hC dX2_drop_9 (by decide) (by first | omega | exact hw | (rw [hsz]; omega) | exact Nat.lt_of_le_of_lt (dl _) (by omega)) (by first | omega | exact hw | (rw [hsz]; omega) | exact Nat.lt_of_le_of_lt (dl _) (by omega)) (fun c_9 => ?_) (fun c_9 => ?_)
      · exact absurd c_9 (by omega)
      · refine v_aload_n hC dX2_drop_12 rfl ?_
        refine gf_X2_9 hC dX2_drop_13 hO (by first | omega | exact hw | (rw [hsz]; omega) | exact Nat.lt_of_le_of_lt (dl _) (by omega)) ?_
        refine v_iload_n hC dX2_drop_16 rfl ?_
        have hv : upr σ 13 w 0 (drp (σ 13 w 0) n p).1 13 w 0 p = σ 13 w 0 p := (upr_same σ 13 w 0 p _).trans (drp_hi _ _ _ _ (Nat.le_refl _))
        have hdl := dl p
        refine al_13 hC dX2_drop_17 hO (by first | omega | exact hw | (rw [hsz]; omega) | exact Nat.lt_of_le_of_lt (dl _) (by omega)) (by first | omega | exact hw | (rw [hsz]; omega) | exact Nat.lt_of_le_of_lt (dl _) (by omega)) ?_
        rw [hv]
        refine v_iload_n hC dX2_drop_18 rfl ?_
        have hv16 : σ 13 w 0 p < 16 := hB 13 w 0 p rfl
        refine v_icmp_eqN (tgt := 37) hC dX2_drop_19 (by decide) (by first | omega | exact hw | (rw [hsz]; omega) | exact Nat.lt_of_le_of_lt (dl _) (by omega)) (by first | omega | exact hw | (rw [hsz]; omega) | exact Nat.lt_of_le_of_lt (dl _) (by omega)) (fun c_19 => ?_) (fun c_19 => ?_)
        · refine v_iincN hC dX2_drop_37 rfl (by decide) ?_
          refine v_goto (tgt := 4) hC dX2_drop_40 (by decide) ?_
          have e1 : drp (σ 13 w 0) n (p + 1) = drp (σ 13 w 0) n p := by
            show (if σ 13 w 0 p ≠ n then _ else _) = _
            exact if_neg (fun q => q c_19)
          rw [e1] at ih
          exact v_sub rfl ih
        · refine v_aload_n hC dX2_drop_22 rfl ?_
          refine gf_X2_9 hC dX2_drop_23 hO (by first | omega | exact hw | (rw [hsz]; omega) | exact Nat.lt_of_le_of_lt (dl _) (by omega)) ?_
          refine v_iload_n hC dX2_drop_26 rfl ?_
          refine v_aload_n hC dX2_drop_27 rfl ?_
          refine gf_X2_9 hC dX2_drop_28 hO (by first | omega | exact hw | (rw [hsz]; omega) | exact Nat.lt_of_le_of_lt (dl _) (by omega)) ?_
          refine v_iload_n hC dX2_drop_31 rfl ?_
          refine al_13 hC dX2_drop_32 hO (by first | omega | exact hw | (rw [hsz]; omega) | exact Nat.lt_of_le_of_lt (dl _) (by omega)) (by first | omega | exact hw | (rw [hsz]; omega) | exact Nat.lt_of_le_of_lt (dl _) (by omega)) ?_
          rw [hv]
          refine as_13 hC dX2_drop_33 hO (by first | omega | exact hw | (rw [hsz]; omega) | exact Nat.lt_of_le_of_lt (dl _) (by omega)) (by first | omega | exact hw | (rw [hsz]; omega) | exact Nat.lt_of_le_of_lt (dl _) (by omega)) ?_
          rw [upr_up]
          refine v_iincN hC dX2_drop_34 rfl (by decide) ?_
          refine v_iincN hC dX2_drop_37 rfl (by decide) ?_
          refine v_goto (tgt := 4) hC dX2_drop_40 (by decide) ?_
          have e1 : drp (σ 13 w 0) n (p + 1) = (fun x => if x = (drp (σ 13 w 0) n p).2 then σ 13 w 0 p else (drp (σ 13 w 0) n p).1 x, (drp (σ 13 w 0) n p).2 + 1) := by
            show (if σ 13 w 0 p ≠ n then _ else _) = _
            exact if_pos c_19
          rw [e1] at ih
          exact v_sub rfl ih
  have k0 := key 0 (Nat.zero_le _)
  rw [show (drp (σ 13 w 0) n 0).1 = σ 13 w 0 from rfl, upr_id] at k0
  exact v_sub rfl k0

def iso (σ : SG) (t d : Nat) : Bool := decide (σ 18 t 0 3 ≠ 0) && decide (σ 18 t 0 0 / 16 = d)
def pss (σ : SG) (w t : Nat) : Bool := decide (σ 15 w 0 (σ 18 t 0 0) + σ 15 w 0 (σ 18 t 0 1) ≤ σ 18 t 0 2)
set_option maxHeartbeats 4000000 in
set_option maxRecDepth 100000 in
theorem c_X3_isOf {l : Launch} (hl0 : l.stackTraces = false) {G : GT} {ok : KF} {ad : AD} {σ : SG} (hO : OKC ok) (hB : BD σ) {t : Nat} (ht : t < 12) {d : Nat} (hd : d < 4) : Ct l G 0 yX3_isOf cX3_isOf 2 (some .boolean) [.ref (ad 18 t 0), iv d] ok ad σ (Rt (some (iv (b2n (iso σ t d)))) ok ad σ) (NX) 0 0 := by
  refine Ct.mk (by decide +kernel) hl0 (Nat.le_of_ble_eq_true rfl) (fun X hX hC hM => ?_)
  subst hX
  refine v_aload_n hC dX3_isOf_0 rfl ?_
  refine gf_X3_9 hC dX3_isOf_1 hO (by first | omega | exact hB _ _ _ _ rfl | exact hB.i _ _ _ _ rfl | exact Nat.lt_of_le_of_lt (Nat.div_le_self _ _) (hB.i _ _ _ _ rfl)) ?_
  refine v_if_eqN (tgt := 22) hC dX3_isOf_4 (by decide) (by first | omega | exact hB _ _ _ _ rfl | exact hB.i _ _ _ _ rfl | exact Nat.lt_of_le_of_lt (Nat.div_le_self _ _) (hB.i _ _ _ _ rfl)) (fun c_4 => ?_) (fun c_4 => ?_)
  · refine v_iconst (v := nI 0) hC dX3_isOf_22 (by decide) ?_
    refine v_zret hC hM dX3_isOf_23 rfl (by omega) (by omega) ?_
    exact ⟨by rw [show iso σ t d = false from by simp [iso, c_4]] <;> rfl, rfl⟩
  · refine v_aload_n hC dX3_isOf_7 rfl ?_
    refine gf_X3_15 hC dX3_isOf_8 hO (by first | omega | exact hB _ _ _ _ rfl | exact hB.i _ _ _ _ rfl | exact Nat.lt_of_le_of_lt (Nat.div_le_self _ _) (hB.i _ _ _ _ rfl)) ?_
    refine v_bipush (v := nI 16) hC dX3_isOf_11 (by decide) ?_
    refine v_idivN hC dX3_isOf_13 (by first | omega | exact hB _ _ _ _ rfl | exact hB.i _ _ _ _ rfl | exact Nat.lt_of_le_of_lt (Nat.div_le_self _ _) (hB.i _ _ _ _ rfl)) (by decide) (by decide) ?_
    refine v_iload_n hC dX3_isOf_14 rfl ?_
    refine v_icmp_neN (tgt := 22) hC dX3_isOf_15 (by decide) (by first | omega | exact hB _ _ _ _ rfl | exact hB.i _ _ _ _ rfl | exact Nat.lt_of_le_of_lt (Nat.div_le_self _ _) (hB.i _ _ _ _ rfl)) (by first | omega | exact hB _ _ _ _ rfl | exact hB.i _ _ _ _ rfl | exact Nat.lt_of_le_of_lt (Nat.div_le_self _ _) (hB.i _ _ _ _ rfl)) (fun c_15 => ?_) (fun c_15 => ?_)
    · refine v_iconst (v := nI 0) hC dX3_isOf_22 (by decide) ?_
      refine v_zret hC hM dX3_isOf_23 rfl (by omega) (by omega) ?_
      exact ⟨by rw [show iso σ t d = false from by simp [iso, c_15]] <;> rfl, rfl⟩
    · refine v_iconst (v := nI 1) hC dX3_isOf_18 (by decide) ?_
      refine v_goto (tgt := 23) hC dX3_isOf_19 (by decide) ?_
      refine v_zret hC hM dX3_isOf_23 rfl (by omega) (by omega) ?_
      exact ⟨by rw [show iso σ t d = true from by simp [iso, c_4, c_15]] <;> rfl, rfl⟩

set_option maxHeartbeats 4000000 in
set_option maxRecDepth 100000 in
theorem c_X3_passes {l : Launch} (hl0 : l.stackTraces = false) {G : GT} {ok : KF} {ad : AD} {σ : SG} (hO : OKC ok) (hB : BD σ) {t : Nat} (ht : t < 12) {w : Nat} (hw : w < 2) : Ct l G 0 yX3_passes cX3_passes 2 (some .boolean) [.ref (ad 18 t 0), .ref (ad 15 w 0)] ok ad σ (Rt (some (iv (b2n (pss σ w t)))) ok ad σ) (NX) 0 0 := by
  refine Ct.mk (by decide +kernel) hl0 (Nat.le_of_ble_eq_true rfl) (fun X hX hC hM => ?_)
  subst hX
  refine v_aload_n hC dX3_passes_0 rfl ?_
  refine v_aload_n hC dX3_passes_1 rfl ?_
  refine gf_X3_15 hC dX3_passes_2 hO (by first | omega | exact hB _ _ _ _ rfl | exact hB.i _ _ _ _ rfl | exact Nat.lt_of_lt_of_le (Nat.add_lt_add (show _ < 100 from hB 15 _ _ _ rfl) (show _ < 100 from hB 15 _ _ _ rfl)) (by decide)) ?_
  refine al_15 hC dX3_passes_5 hO (by first | omega | exact hB _ _ _ _ rfl | exact hB.i _ _ _ _ rfl | exact Nat.lt_of_lt_of_le (Nat.add_lt_add (show _ < 100 from hB 15 _ _ _ rfl) (show _ < 100 from hB 15 _ _ _ rfl)) (by decide)) (by first | omega | exact hB _ _ _ _ rfl | exact hB.i _ _ _ _ rfl | exact Nat.lt_of_lt_of_le (Nat.add_lt_add (show _ < 100 from hB 15 _ _ _ rfl) (show _ < 100 from hB 15 _ _ _ rfl)) (by decide)) ?_
  refine v_aload_n hC dX3_passes_6 rfl ?_
  refine v_aload_n hC dX3_passes_7 rfl ?_
  refine gf_X3_19 hC dX3_passes_8 hO (by first | omega | exact hB _ _ _ _ rfl | exact hB.i _ _ _ _ rfl | exact Nat.lt_of_lt_of_le (Nat.add_lt_add (show _ < 100 from hB 15 _ _ _ rfl) (show _ < 100 from hB 15 _ _ _ rfl)) (by decide)) ?_
  refine al_15 hC dX3_passes_11 hO (by first | omega | exact hB _ _ _ _ rfl | exact hB.i _ _ _ _ rfl | exact Nat.lt_of_lt_of_le (Nat.add_lt_add (show _ < 100 from hB 15 _ _ _ rfl) (show _ < 100 from hB 15 _ _ _ rfl)) (by decide)) (by first | omega | exact hB _ _ _ _ rfl | exact hB.i _ _ _ _ rfl | exact Nat.lt_of_lt_of_le (Nat.add_lt_add (show _ < 100 from hB 15 _ _ _ rfl) (show _ < 100 from hB 15 _ _ _ rfl)) (by decide)) ?_
  refine v_iaddN hC dX3_passes_12 ?_
  refine v_aload_n hC dX3_passes_13 rfl ?_
  refine gf_X3_22 hC dX3_passes_14 hO (by first | omega | exact hB _ _ _ _ rfl | exact hB.i _ _ _ _ rfl | exact Nat.lt_of_lt_of_le (Nat.add_lt_add (show _ < 100 from hB 15 _ _ _ rfl) (show _ < 100 from hB 15 _ _ _ rfl)) (by decide)) ?_
  refine v_icmp_gtN (tgt := 24) hC dX3_passes_17 (by decide) (by first | omega | exact hB _ _ _ _ rfl | exact hB.i _ _ _ _ rfl | exact Nat.lt_of_lt_of_le (Nat.add_lt_add (show _ < 100 from hB 15 _ _ _ rfl) (show _ < 100 from hB 15 _ _ _ rfl)) (by decide)) (by first | omega | exact hB _ _ _ _ rfl | exact hB.i _ _ _ _ rfl | exact Nat.lt_of_lt_of_le (Nat.add_lt_add (show _ < 100 from hB 15 _ _ _ rfl) (show _ < 100 from hB 15 _ _ _ rfl)) (by decide)) (fun c_17 => ?_) (fun c_17 => ?_)
  · refine v_iconst (v := nI 0) hC dX3_passes_24 (by decide) ?_
    refine v_zret hC hM dX3_passes_25 rfl (by omega) (by omega) ?_
    exact ⟨by rw [show pss σ w t = false from decide_eq_false (by omega)] <;> rfl, rfl⟩
  · refine v_iconst (v := nI 1) hC dX3_passes_20 (by decide) ?_
    refine v_goto (tgt := 25) hC dX3_passes_21 (by decide) ?_
    refine v_zret hC hM dX3_passes_25 rfl (by omega) (by omega) ?_
    exact ⟨by rw [show pss σ w t = true from decide_eq_true (by omega)] <;> rfl, rfl⟩

/-- no cells: the newest of the first n directories forgotten -/
def fgt (σ : SG) (n : Nat) : SG := fun k i j x => if k = 19 ∧ i = 0 ∧ j = 0 ∧ x < n then 0 else σ k i j x
theorem fgt_0 (σ : SG) : fgt σ 0 = σ := by
  funext k i j x
  simp [fgt]
theorem fgt_s (σ : SG) (n : Nat) : fgt σ (n + 1) = up (fgt σ n) 19 0 0 n 0 := by
  funext k i j x
  simp only [fgt, up]
  by_cases c : k = 19 ∧ i = 0 ∧ j = 0
  · obtain ⟨rfl, rfl, rfl⟩ := c
    by_cases e : x = n
    · subst e; simp
    · have e2 : (x < n + 1) ↔ (x < n) := by omega
      simp only [true_and, e, if_false, e2]
  · have c1 : ¬ (k = 19 ∧ i = 0 ∧ j = 0 ∧ x < n + 1) := fun q => c ⟨q.1, q.2.1, q.2.2.1⟩
    have c2 : ¬ (k = 19 ∧ i = 0 ∧ j = 0 ∧ x = n) := fun q => c ⟨q.1, q.2.1, q.2.2.1⟩
    have c3 : ¬ (k = 19 ∧ i = 0 ∧ j = 0 ∧ x < n) := fun q => c ⟨q.1, q.2.1, q.2.2.1⟩
    rw [if_neg c1, if_neg c2, if_neg c3]
theorem fgt_BD {σ : SG} (h : BD σ) {n : Nat} : BD (fgt σ n) := fun k i j x hp => by
  unfold fgt
  split
  · rename_i c
    rw [c.1] at hp
    cases hp
  · exact h k i j x hp
theorem fgt_k {σ : SG} {n k i j x : Nat} (h : k ≠ 19) : fgt σ n k i j x = σ k i j x := by simp [fgt, h]
theorem fgt_kf {σ : SG} {n k i j : Nat} (h : k ≠ 19) : fgt σ n k i j = σ k i j := funext fun x => fgt_k h

set_option maxHeartbeats 4000000 in
set_option maxRecDepth 100000 in
theorem c_X4_forgetCells {l : Launch} (hl0 : l.stackTraces = false) {G : GT} {ok : KF} {ad : AD} {σ : SG} (hO : OKC ok) (hB : BD σ) : Ct l G 1 yX4_forgetCells cX4_forgetCells 2 (none) [.ref (ad 16 0 0)] ok ad σ (Rt none ok ad (fgt σ 4)) (NX) 0 0 := by
  refine Ct.mk (by decide +kernel) hl0 (Nat.le_of_ble_eq_true rfl) (fun X hX hC hM => ?_)
  subst hX
  refine v_iconst (v := nI 0) hC dX4_forgetCells_0 (by decide) ?_
  refine v_istore_n hC dX4_forgetCells_1 (by decide) ?_
  have key : ∀ p, p ≤ 4 → V X G 0 0 ok ad (fgt σ p) [(0, .ref (ad 16 0 0)), (1, iv p)] 2 [] := by
    refine down (4) ?_ ?_
    · refine v_iload_n hC dX4_forgetCells_2 rfl ?_
      refine v_iconst (v := nI 4) hC dX4_forgetCells_3 (by decide) ?_
      refine v_icmp_geN (tgt := 20) hC dX4_forgetCells_4 (by decide) (by first | omega | exact hB _ _ _ _ rfl | exact hB.i _ _ _ _ rfl | assumption | exact and_lt (hB _ _ _ _ rfl) | exact b2n_31 _) (by first | omega | exact hB _ _ _ _ rfl | exact hB.i _ _ _ _ rfl | assumption | exact and_lt (hB _ _ _ _ rfl) | exact b2n_31 _) (fun c_4 => ?_) (fun c_4 => ?_)
      · refine v_vret hC hM dX4_forgetCells_20 (by omega) (by omega) ?_
        exact ⟨rfl, rfl⟩
      · exact absurd c_4 (by omega)
    · intro p hp ih 
      refine v_iload_n hC dX4_forgetCells_2 rfl ?_
      refine v_iconst (v := nI 4) hC dX4_forgetCells_3 (by decide) ?_
      refine v_icmp_geN (tgt := 20) hC dX4_forgetCells_4 (by decide) (by first | omega | exact hB _ _ _ _ rfl | exact hB.i _ _ _ _ rfl | assumption | exact and_lt (hB _ _ _ _ rfl) | exact b2n_31 _) (by first | omega | exact hB _ _ _ _ rfl | exact hB.i _ _ _ _ rfl | assumption | exact and_lt (hB _ _ _ _ rfl) | exact b2n_31 _) (fun c_4 => ?_) (fun c_4 => ?_)
      · exact absurd c_4 (by omega)
      · refine v_aload_n hC dX4_forgetCells_7 rfl ?_
        refine gf_X4_19 hC dX4_forgetCells_8 hO ?_
        refine v_iload_n hC dX4_forgetCells_11 rfl ?_
        refine v_null hC dX4_forgetCells_12 ?_
        refine as_19N hC dX4_forgetCells_13 hO (by first | omega | exact hB _ _ _ _ rfl | exact hB.i _ _ _ _ rfl | assumption | exact and_lt (hB _ _ _ _ rfl) | exact b2n_31 _) ?_
        refine v_iincN hC dX4_forgetCells_14 rfl (by decide) ?_
        refine v_goto (tgt := 2) hC dX4_forgetCells_17 (by decide) ?_
        rw [fgt_s] at ih
        exact v_sub rfl ih
  have k0 := key 0 (Nat.zero_le _)
  rw [fgt_0] at k0
  exact v_sub rfl k0

/-- a test added -/
def tad (σ : SG) (a b c : Nat) : SG := fgt (up (up (up (up (up σ 18 (σ 16 0 0 0) 0 0 a) 18 (σ 16 0 0 0) 0 1 b) 18 (σ 16 0 0 0) 0 2 c) 18 (σ 16 0 0 0) 0 3 1) 16 0 0 0 (σ 16 0 0 0 + 1)) 4
theorem tad_BD0 {σ : SG} (h : BD σ) {a b c : Nat} (ha : a < 64) (hb : b < 64) (hc : c < 199) (hs : σ 16 0 0 0 < 12) : BD (up (up (up (up (up σ 18 (σ 16 0 0 0) 0 0 a) 18 (σ 16 0 0 0) 0 1 b) 18 (σ 16 0 0 0) 0 2 c) 18 (σ 16 0 0 0) 0 3 1) 16 0 0 0 (σ 16 0 0 0 + 1)) :=
  BD.put (BD.put (BD.put (BD.put (BD.put h ha) hb) hc) (by decide)) (show σ 16 0 0 0 + 1 < 13 by omega)
theorem tad_BD {σ : SG} (h : BD σ) {a b c : Nat} (ha : a < 64) (hb : b < 64) (hc : c < 199) (hs : σ 16 0 0 0 < 12) : BD (tad σ a b c) := fgt_BD (tad_BD0 h ha hb hc hs)
def tdp (σ : SG) (t : Nat) : SG := fgt (up σ 18 t 0 3 0) 4
theorem tdp_BD {σ : SG} (h : BD σ) {t : Nat} : BD (tdp σ t) := fgt_BD (BD.put h (by show 0 < bnd 18 3; decide))
def lft (σ : SG) (n : Nat) : Nat := cnt (fun t => decide (σ 18 t 0 3 ≠ 0)) n

set_option maxHeartbeats 4000000 in
set_option maxRecDepth 100000 in
theorem c_X4_add {l : Launch} (hl0 : l.stackTraces = false) {G : GT} {ok : KF} {ad : AD} {σ : SG} (hO : OKC ok) (hB : BD σ) {a b c : Nat} (ha : a < 64) (hb : b < 64) (hc : c < 199) (hs : σ 16 0 0 0 < 12) : Ct l G 2 yX4_add cX4_add 6 (some .int) [.ref (ad 16 0 0), iv a, iv b, iv c] ok ad σ (Rt (some (iv (σ 16 0 0 0))) ok ad (tad σ a b c)) (NX) 0 0 := by
  refine Ct.mk (by decide +kernel) hl0 (Nat.le_of_ble_eq_true rfl) (fun X hX hC hM => ?_)
  subst hX
  refine v_aload_n hC dX4_add_0 rfl ?_
  refine gf_X4_28 hC dX4_add_1 hO ?_
  refine v_istore hC dX4_add_4 (by decide) ?_
  refine v_aload_n hC dX4_add_6 rfl ?_
  refine gf_X4_11 hC dX4_add_7 hO ?_
  refine v_iload hC dX4_add_10 rfl ?_
  refine al_17 hC dX4_add_12 hO (by first | omega | exact hB _ _ _ _ rfl | exact hB.i _ _ _ _ rfl | assumption | exact and_lt (hB _ _ _ _ rfl) | exact b2n_31 _) ?_
  refine v_astore hC dX4_add_13 (by decide) ?_
  refine v_aload hC dX4_add_15 rfl ?_
  refine v_iload_n hC dX4_add_17 rfl ?_
  refine pf_X4_32 hC dX4_add_18 hO (by first | omega | exact hB _ _ _ _ rfl | exact hB.i _ _ _ _ rfl | assumption | exact and_lt (hB _ _ _ _ rfl) | exact b2n_31 _) ?_
  refine v_aload hC dX4_add_21 rfl ?_
  refine v_iload_n hC dX4_add_23 rfl ?_
  refine pf_X4_35 hC dX4_add_24 hO (by first | omega | exact hB _ _ _ _ rfl | exact hB.i _ _ _ _ rfl | assumption | exact and_lt (hB _ _ _ _ rfl) | exact b2n_31 _) ?_
  refine v_aload hC dX4_add_27 rfl ?_
  refine v_iload_n hC dX4_add_29 rfl ?_
  refine pf_X4_38 hC dX4_add_30 hO (by first | omega | exact hB _ _ _ _ rfl | exact hB.i _ _ _ _ rfl | assumption | exact and_lt (hB _ _ _ _ rfl) | exact b2n_31 _) ?_
  refine v_aload hC dX4_add_33 rfl ?_
  refine v_iconst (v := nI 1) hC dX4_add_35 (by decide) ?_
  refine pf_X4_41 hC dX4_add_36 hO (by first | omega | exact hB _ _ _ _ rfl | exact hB.i _ _ _ _ rfl | assumption | exact and_lt (hB _ _ _ _ rfl) | exact b2n_31 _) (by first | omega | exact hB _ _ _ _ rfl | exact hB.i _ _ _ _ rfl | assumption | exact and_lt (hB _ _ _ _ rfl) | exact b2n_31 _) ?_
  refine v_aload_n hC dX4_add_39 rfl ?_
  refine v_dup hC dX4_add_40 rfl ?_
  refine gf_X4_28 hC dX4_add_41 hO ?_
  refine v_iconst (v := nI 1) hC dX4_add_44 (by decide) ?_
  refine v_iaddN hC dX4_add_45 ?_
  rw [up_k (by decide), up_k (by decide), up_k (by decide), up_k (by decide)]
  refine pf_X4_28 hC dX4_add_46 hO ?_
  have hB2 := tad_BD0 hB ha hb hc hs
  refine v_aload_n hC dX4_add_49 rfl ?_
  refine v_callV_v0 hC lk_X4_45 dX4_add_50 (c_X4_forgetCells hl0 hO hB2) (by decide) (by decide) hO.k16 rfl rfl rfl rfl (Nat.le_of_ble_eq_true rfl) (by omega) (by omega) ?_
  refine v_iload hC dX4_add_53 rfl ?_
  refine v_iret hC hM dX4_add_55 (by omega) (by omega) ?_
  exact ⟨rfl, rfl⟩

set_option maxHeartbeats 4000000 in
set_option maxRecDepth 100000 in
theorem c_X4_drop {l : Launch} (hl0 : l.stackTraces = false) {G : GT} {ok : KF} {ad : AD} {σ : SG} (hO : OKC ok) (hB : BD σ) {t : Nat} (ht : t < 12) : Ct l G 2 yX4_drop cX4_drop 4 (some .int) [.ref (ad 16 0 0), iv t] ok ad σ (Rt (some (iv (lft (tdp σ t) (σ 16 0 0 0)))) ok ad (tdp σ t)) (NX) 0 0 := by
  refine Ct.mk (by decide +kernel) hl0 (Nat.le_of_ble_eq_true rfl) (fun X hX hC hM => ?_)
  subst hX
  refine v_aload_n hC dX4_drop_0 rfl ?_
  refine gf_X4_11 hC dX4_drop_1 hO ?_
  refine v_iload_n hC dX4_drop_4 rfl ?_
  refine al_17 hC dX4_drop_5 hO (by first | omega | exact hB _ _ _ _ rfl | exact hB3 _ _ _ _ rfl | exact hB3.i _ _ _ _ rfl | assumption) ?_
  refine v_iconst (v := nI 0) hC dX4_drop_6 (by decide) ?_
  refine pf_X4_41 hC dX4_drop_7 hO (by first | omega | exact hB _ _ _ _ rfl | exact hB3 _ _ _ _ rfl | exact hB3.i _ _ _ _ rfl | assumption) (by first | omega | exact hB _ _ _ _ rfl | exact hB3 _ _ _ _ rfl | exact hB3.i _ _ _ _ rfl | assumption) ?_
  have hB2 : BD (up σ 18 t 0 3 0) := BD.put hB (by show 0 < bnd 18 3; decide)
  have hB3 : BD (tdp σ t) := fgt_BD hB2
  have hsz : tdp σ t 16 0 0 0 = σ 16 0 0 0 := (fgt_k (by decide)).trans (up_k (by decide))
  have hs13 : σ 16 0 0 0 < 13 := hB 16 0 0 0 rfl
  refine v_aload_n hC dX4_drop_10 rfl ?_
  refine v_callV_v0 hC lk_X4_45 dX4_drop_11 (c_X4_forgetCells hl0 hO hB2) (by decide) (by decide) hO.k16 rfl rfl rfl rfl (Nat.le_of_ble_eq_true rfl) (by omega) (by omega) ?_
  refine v_sg (σ1 := tdp σ t) (fun _ _ _ _ => rfl) ?_
  refine v_iconst (v := nI 0) hC dX4_drop_14 (by decide) ?_
  refine v_istore_n hC dX4_drop_15 (by decide) ?_
  refine v_iconst (v := nI 0) hC dX4_drop_16 (by decide) ?_
  refine v_istore_n hC dX4_drop_17 (by decide) ?_
  have key : ∀ p, p ≤ σ 16 0 0 0 → V X G 0 0 ok ad (tdp σ t) [(0, .ref (ad 16 0 0)), (1, iv t), (2, iv (lft (tdp σ t) p)), (3, iv p)] 18 [] := by
    refine down (σ 16 0 0 0) ?_ ?_
    · refine v_iload_n hC dX4_drop_18 rfl ?_
      refine v_aload_n hC dX4_drop_19 rfl ?_
      refine gf_X4_28 hC dX4_drop_20 hO ?_
      rw [hsz]
      refine v_icmp_geN (tgt := 47) hC dX4_drop_23 (by decide) (by first | omega | exact hB _ _ _ _ rfl | exact hB3 _ _ _ _ rfl | exact hB3.i _ _ _ _ rfl | assumption) (by first | omega | exact hB _ _ _ _ rfl | exact hB3 _ _ _ _ rfl | exact hB3.i _ _ _ _ rfl | assumption) (fun c_23 => ?_) (fun c_23 => ?_)
      · refine v_iload_n hC dX4_drop_47 rfl ?_
        refine v_iret hC hM dX4_drop_48 (by omega) (by omega) ?_
        exact ⟨rfl, rfl⟩
      · exact absurd c_23 (by omega)
    · intro p hp ih 
      refine v_iload_n hC dX4_drop_18 rfl ?_
      refine v_aload_n hC dX4_drop_19 rfl ?_
      refine gf_X4_28 hC dX4_drop_20 hO ?_
      rw [hsz]
      refine v_icmp_geN (tgt := 47) hC dX4_drop_23 (by decide) (by first | omega | exact hB _ _ _ _ rfl | exact hB3 _ _ _ _ rfl | exact hB3.i _ _ _ _ rfl | assumption) (by first | omega | exact hB _ _ _ _ rfl | exact hB3 _ _ _ _ rfl | exact hB3.i _ _ _ _ rfl | assumption) (fun c_23 => ?_) (fun c_23 => ?_)
      · exact absurd c_23 (by omega)
      · refine v_aload_n hC dX4_drop_26 rfl ?_
        refine gf_X4_11 hC dX4_drop_27 hO ?_
        refine v_iload_n hC dX4_drop_30 rfl ?_
        refine al_17 hC dX4_drop_31 hO (by first | omega | exact hB _ _ _ _ rfl | exact hB3 _ _ _ _ rfl | exact hB3.i _ _ _ _ rfl | assumption) ?_
        refine gf_X4_41 hC dX4_drop_32 hO (by first | omega | exact hB _ _ _ _ rfl | exact hB3 _ _ _ _ rfl | exact hB3.i _ _ _ _ rfl | assumption) ?_
        refine v_if_eqN (tgt := 41) hC dX4_drop_35 (by decide) (by first | omega | exact hB _ _ _ _ rfl | exact hB3 _ _ _ _ rfl | exact hB3.i _ _ _ _ rfl | assumption) (fun c_35 => ?_) (fun c_35 => ?_)
        · refine v_iincN hC dX4_drop_41 rfl (by decide) ?_
          refine v_goto (tgt := 18) hC dX4_drop_44 (by decide) ?_
          have e1 : lft (tdp σ t) (p + 1) = lft (tdp σ t) p := by
            show cnt _ p + b2n (decide (tdp σ t 18 p 0 3 ≠ 0)) = _
            rw [show decide (tdp σ t 18 p 0 3 ≠ 0) = false from decide_eq_false (fun h => h c_35)]
            rfl
          rw [e1] at ih
          exact v_sub rfl ih
        · refine v_iincN hC dX4_drop_38 rfl (by decide) ?_
          refine v_iincN hC dX4_drop_41 rfl (by decide) ?_
          refine v_goto (tgt := 18) hC dX4_drop_44 (by decide) ?_
          have e1 : lft (tdp σ t) (p + 1) = lft (tdp σ t) p + 1 := by
            show cnt _ p + b2n (decide (tdp σ t 18 p 0 3 ≠ 0)) = _
            rw [show decide (tdp σ t 18 p 0 3 ≠ 0) = true from decide_eq_true c_35]
            rfl
          rw [e1] at ih
          exact v_sub rfl ih
  exact v_sub rfl (key 0 (Nat.zero_le _))

def aps (σ : SG) (w d n : Nat) : Bool := allB (fun t => !(iso σ t d) || pss σ w t) 0 n
set_option maxHeartbeats 4000000 in
set_option maxRecDepth 100000 in
theorem c_X4_allPass {l : Launch} (hl0 : l.stackTraces = false) {G : GT} {ok : KF} {ad : AD} {σ : SG} (hO : OKC ok) (hB : BD σ) {d w : Nat} (hd : d < 4) (hw : w < 2) : Ct l G 1 yX4_allPass cX4_allPass 4 (some .boolean) [.ref (ad 16 0 0), iv d, .ref (ad 15 w 0)] ok ad σ (Rt (some (iv (b2n (aps σ w d (σ 16 0 0 0))))) ok ad σ) (NX) 0 0 := by
  refine Ct.mk (by decide +kernel) hl0 (Nat.le_of_ble_eq_true rfl) (fun X hX hC hM => ?_)
  subst hX
  have hs13 : σ 16 0 0 0 < 13 := hB 16 0 0 0 rfl
  refine v_iconst (v := nI 0) hC dX4_allPass_0 (by decide) ?_
  refine v_istore_n hC dX4_allPass_1 (by decide) ?_
  have key : ∀ t, t ≤ σ 16 0 0 0 → (∀ q, q < t → (!(iso σ q d) || pss σ w q) = true) → V X G 0 0 ok ad σ [(0, .ref (ad 16 0 0)), (1, iv d), (2, .ref (ad 15 w 0)), (3, iv t)] 2 [] := by
    refine down (σ 16 0 0 0) ?_ ?_
    · intro hq
      refine v_iload_n hC dX4_allPass_2 rfl ?_
      refine v_aload_n hC dX4_allPass_3 rfl ?_
      refine gf_X4_28 hC dX4_allPass_4 hO ?_
      refine v_icmp_geN (tgt := 44) hC dX4_allPass_7 (by decide) (by first | omega | exact hB _ _ _ _ rfl | exact hB.i _ _ _ _ rfl | assumption | exact and_lt (hB _ _ _ _ rfl) | exact b2n_31 _) (by first | omega | exact hB _ _ _ _ rfl | exact hB.i _ _ _ _ rfl | assumption | exact and_lt (hB _ _ _ _ rfl) | exact b2n_31 _) (fun c_7 => ?_) (fun c_7 => ?_)
      · refine v_iconst (v := nI 1) hC dX4_allPass_44 (by decide) ?_
        refine v_zret hC hM dX4_allPass_45 rfl (by omega) (by omega) ?_
        exact ⟨by rw [show aps σ w d (σ 16 0 0 0) = true from (allB_iff _ _ _).mpr (fun q h1 h2 => hq q (by omega))] <;> rfl, rfl⟩
      · exact absurd c_7 (by omega)
    · intro t hp ih hq
      refine v_iload_n hC dX4_allPass_2 rfl ?_
      refine v_aload_n hC dX4_allPass_3 rfl ?_
      refine gf_X4_28 hC dX4_allPass_4 hO ?_
      refine v_icmp_geN (tgt := 44) hC dX4_allPass_7 (by decide) (by first | omega | exact hB _ _ _ _ rfl | exact hB.i _ _ _ _ rfl | assumption | exact and_lt (hB _ _ _ _ rfl) | exact b2n_31 _) (by first | omega | exact hB _ _ _ _ rfl | exact hB.i _ _ _ _ rfl | assumption | exact and_lt (hB _ _ _ _ rfl) | exact b2n_31 _) (fun c_7 => ?_) (fun c_7 => ?_)
      · exact absurd c_7 (by omega)
      · refine v_aload_n hC dX4_allPass_10 rfl ?_
        refine gf_X4_11 hC dX4_allPass_11 hO ?_
        refine v_iload_n hC dX4_allPass_14 rfl ?_
        refine al_17 hC dX4_allPass_15 hO (by first | omega | exact hB _ _ _ _ rfl | exact hB.i _ _ _ _ rfl | assumption | exact and_lt (hB _ _ _ _ rfl) | exact b2n_31 _) ?_
        refine v_iload_n hC dX4_allPass_16 rfl ?_
        refine v_callVN_r0 hC lk_X4_48 dX4_allPass_17 (c_X3_isOf hl0 hO hB (by first | omega | exact hB _ _ _ _ rfl | exact hB.i _ _ _ _ rfl | assumption | exact and_lt (hB _ _ _ _ rfl) | exact b2n_31 _) (by first | omega | exact hB _ _ _ _ rfl | exact hB.i _ _ _ _ rfl | assumption | exact and_lt (hB _ _ _ _ rfl) | exact b2n_31 _)) (by decide) (by decide) (hO.k18 (by first | omega | exact hB _ _ _ _ rfl | exact hB.i _ _ _ _ rfl | assumption | exact and_lt (hB _ _ _ _ rfl) | exact b2n_31 _)) rfl rfl rfl rfl (Nat.le_of_ble_eq_true rfl) (by omega) (by omega) ?_
        refine v_if_eqN (tgt := 38) hC dX4_allPass_20 (by decide) (by first | omega | exact hB _ _ _ _ rfl | exact hB.i _ _ _ _ rfl | assumption | exact and_lt (hB _ _ _ _ rfl) | exact b2n_31 _) (fun c_20 => ?_) (fun c_20 => ?_)
        · refine v_iincN hC dX4_allPass_38 rfl (by decide) ?_
          refine v_goto (tgt := 2) hC dX4_allPass_41 (by decide) ?_
          refine v_sub rfl (ih (fun q h2 => ?_))
          by_cases e : q = t
          · subst e
            simp [b2n_0 c_20]
          · exact hq q (by omega)
        · refine v_aload_n hC dX4_allPass_23 rfl ?_
          refine gf_X4_11 hC dX4_allPass_24 hO ?_
          refine v_iload_n hC dX4_allPass_27 rfl ?_
          refine al_17 hC dX4_allPass_28 hO (by first | omega | exact hB _ _ _ _ rfl | exact hB.i _ _ _ _ rfl | assumption | exact and_lt (hB _ _ _ _ rfl) | exact b2n_31 _) ?_
          refine v_aload_n hC dX4_allPass_29 rfl ?_
          refine v_callVN_r0 hC lk_X4_52 dX4_allPass_30 (c_X3_passes hl0 hO hB (by first | omega | exact hB _ _ _ _ rfl | exact hB.i _ _ _ _ rfl | assumption | exact and_lt (hB _ _ _ _ rfl) | exact b2n_31 _) (by first | omega | exact hB _ _ _ _ rfl | exact hB.i _ _ _ _ rfl | assumption | exact and_lt (hB _ _ _ _ rfl) | exact b2n_31 _)) (by decide) (by decide) (hO.k18 (by first | omega | exact hB _ _ _ _ rfl | exact hB.i _ _ _ _ rfl | assumption | exact and_lt (hB _ _ _ _ rfl) | exact b2n_31 _)) rfl rfl rfl rfl (Nat.le_of_ble_eq_true rfl) (by omega) (by omega) ?_
          refine v_if_neN (tgt := 38) hC dX4_allPass_33 (by decide) (by first | omega | exact hB _ _ _ _ rfl | exact hB.i _ _ _ _ rfl | assumption | exact and_lt (hB _ _ _ _ rfl) | exact b2n_31 _) (fun c_33 => ?_) (fun c_33 => ?_)
          · refine v_iincN hC dX4_allPass_38 rfl (by decide) ?_
            refine v_goto (tgt := 2) hC dX4_allPass_41 (by decide) ?_
            refine v_sub rfl (ih (fun q h2 => ?_))
            by_cases e : q = t
            · subst e
              simp [b2n_1 c_33]
            · exact hq q (by omega)
          · refine v_iconst (v := nI 0) hC dX4_allPass_36 (by decide) ?_
            refine v_zret hC hM dX4_allPass_37 rfl (by omega) (by omega) ?_
            exact ⟨by rw [show aps σ w d (σ 16 0 0 0) = false from allB_no (q := t) (Nat.zero_le _) (by omega) (by simp [b2n_1 c_20, b2n_0 c_33])] <;> rfl, rfl⟩
  exact v_sub rfl (key 0 (Nat.zero_le _) (fun q h1 => absurd h1 (by omega)))

/-- the inputs of a directory's tests, laid down in their order -/
def rdi (σ : SG) (w d : Nat) : Nat → (Nat → Nat) × Nat
  | 0 => (σ 20 0 0, 0)
  | t + 1 => if iso σ t d = true then (fun x => if x = (rdi σ w d t).2 + 1 then σ 15 w 0 (σ 18 t 0 1) else if x = (rdi σ w d t).2 then σ 15 w 0 (σ 18 t 0 0) else (rdi σ w d t).1 x, (rdi σ w d t).2 + 2) else rdi σ w d t
theorem rdi_le (σ : SG) (w d : Nat) : ∀ t, (rdi σ w d t).2 ≤ 2 * t
  | 0 => Nat.le_refl 0
  | t + 1 => by
    have h := rdi_le σ w d t
    unfold rdi
    split
    · show (rdi σ w d t).2 + 2 ≤ 2 * (t + 1); omega
    · omega
theorem rdi_b {σ : SG} (h : BD σ) (w d : Nat) : ∀ t x, (rdi σ w d t).1 x < 100
  | 0, x => h 20 0 0 x rfl
  | t + 1, x => by
    have ih := rdi_b h w d t x
    unfold rdi
    split
    · show (if x = _ then σ 15 w 0 (σ 18 t 0 1) else if x = _ then σ 15 w 0 (σ 18 t 0 0) else _) < 100
      split
      · exact h 15 w 0 _ rfl
      · split
        · exact h 15 w 0 _ rfl
        · exact ih
    · exact ih
def rdS (σ : SG) (w d n : Nat) : SG := upr σ 20 0 0 (rdi σ w d n).1
theorem rdS_BD {σ : SG} (h : BD σ) {w d n : Nat} : BD (rdS σ w d n) := BD.putr h (fun x _ => rdi_b h w d n x)
theorem rdS_k {σ : SG} {w d n k i j x : Nat} (h : k ≠ 20) : rdS σ w d n k i j x = σ k i j x := upr_k h
theorem rdS_iso (σ : SG) (w d n t e : Nat) : iso (rdS σ w d n) t e = iso σ t e := by
  unfold iso
  rw [rdS_k (by decide), rdS_k (by decide)]

set_option maxHeartbeats 4000000 in
set_option maxRecDepth 100000 in
theorem c_X4_readInputs {l : Launch} (hl0 : l.stackTraces = false) {G : GT} {ok : KF} {ad : AD} {σ : SG} (hO : OKC ok) (hB : BD σ) {d w : Nat} (hd : d < 4) (hw : w < 2) : Ct l G 1 yX4_readInputs cX4_readInputs 5 (some .int) [.ref (ad 16 0 0), iv d, .ref (ad 15 w 0)] ok ad σ (Rt (some (iv (rdi σ w d (σ 16 0 0 0)).2)) ok ad (rdS σ w d (σ 16 0 0 0))) (NX) 0 0 := by
  refine Ct.mk (by decide +kernel) hl0 (Nat.le_of_ble_eq_true rfl) (fun X hX hC hM => ?_)
  subst hX
  have hs13 : σ 16 0 0 0 < 13 := hB 16 0 0 0 rfl
  have hrl := rdi_le σ w d
  have hBr : ∀ n, BD (rdS σ w d n) := fun n => rdS_BD hB
  refine v_iconst (v := nI 0) hC dX4_readInputs_0 (by decide) ?_
  refine v_istore_n hC dX4_readInputs_1 (by decide) ?_
  refine v_iconst (v := nI 0) hC dX4_readInputs_2 (by decide) ?_
  refine v_istore hC dX4_readInputs_3 (by decide) ?_
  have key : ∀ t, t ≤ σ 16 0 0 0 → V X G 0 0 ok ad (rdS σ w d t) [(0, .ref (ad 16 0 0)), (1, iv d), (2, .ref (ad 15 w 0)), (3, iv (rdi σ w d t).2), (4, iv t)] 5 [] := by
    refine down (σ 16 0 0 0) ?_ ?_
    · refine v_iload hC dX4_readInputs_5 rfl ?_
      refine v_aload_n hC dX4_readInputs_7 rfl ?_
      refine gf_X4_28 hC dX4_readInputs_8 hO ?_
      rw [rdS_k (by decide)]
      refine v_icmp_geN (tgt := 75) hC dX4_readInputs_11 (by decide) (by first | omega | assumption | exact hBt _ _ _ _ rfl | exact hB4 _ _ _ _ rfl | exact hBt.i _ _ _ _ rfl | exact b2n_31 _ | exact hB _ _ _ _ rfl) (by first | omega | assumption | exact hBt _ _ _ _ rfl | exact hB4 _ _ _ _ rfl | exact hBt.i _ _ _ _ rfl | exact b2n_31 _ | exact hB _ _ _ _ rfl) (fun c_11 => ?_) (fun c_11 => ?_)
      · refine v_iload_n hC dX4_readInputs_75 rfl ?_
        refine v_iret hC hM dX4_readInputs_76 (by omega) (by omega) ?_
        exact ⟨rfl, rfl⟩
      · exact absurd c_11 (by omega)
    · intro t hp ih 
      refine v_iload hC dX4_readInputs_5 rfl ?_
      refine v_aload_n hC dX4_readInputs_7 rfl ?_
      refine gf_X4_28 hC dX4_readInputs_8 hO ?_
      rw [rdS_k (by decide)]
      refine v_icmp_geN (tgt := 75) hC dX4_readInputs_11 (by decide) (by first | omega | assumption | exact hBt _ _ _ _ rfl | exact hB4 _ _ _ _ rfl | exact hBt.i _ _ _ _ rfl | exact b2n_31 _ | exact hB _ _ _ _ rfl) (by first | omega | assumption | exact hBt _ _ _ _ rfl | exact hB4 _ _ _ _ rfl | exact hBt.i _ _ _ _ rfl | exact b2n_31 _ | exact hB _ _ _ _ rfl) (fun c_11 => ?_) (fun c_11 => ?_)
      · exact absurd c_11 (by omega)
      · have hrt := hrl t
        have hBt := hBr t
        refine v_aload_n hC dX4_readInputs_14 rfl ?_
        refine gf_X4_11 hC dX4_readInputs_15 hO ?_
        refine v_iload hC dX4_readInputs_18 rfl ?_
        refine al_17 hC dX4_readInputs_20 hO (by first | omega | assumption | exact hBt _ _ _ _ rfl | exact hB4 _ _ _ _ rfl | exact hBt.i _ _ _ _ rfl | exact b2n_31 _ | exact hB _ _ _ _ rfl) ?_
        refine v_iload_n hC dX4_readInputs_21 rfl ?_
        refine v_callVN_r0 hC lk_X4_48 dX4_readInputs_22 (c_X3_isOf hl0 hO hBt (by omega) hd) (by decide) (by decide) (hO.k18 (by first | omega | assumption | exact hBt _ _ _ _ rfl | exact hB4 _ _ _ _ rfl | exact hBt.i _ _ _ _ rfl | exact b2n_31 _ | exact hB _ _ _ _ rfl)) rfl rfl rfl rfl (Nat.le_of_ble_eq_true rfl) (by omega) (by omega) ?_
        rw [rdS_iso]
        refine v_if_eqN (tgt := 69) hC dX4_readInputs_25 (by decide) (by first | omega | assumption | exact hBt _ _ _ _ rfl | exact hB4 _ _ _ _ rfl | exact hBt.i _ _ _ _ rfl | exact b2n_31 _ | exact hB _ _ _ _ rfl) (fun c_25 => ?_) (fun c_25 => ?_)
        · refine v_iincN hC dX4_readInputs_69 rfl (by decide) ?_
          refine v_goto (tgt := 5) hC dX4_readInputs_72 (by decide) ?_
          rw [show rdi σ w d (t + 1) = rdi σ w d t from if_neg (by rw [b2n_0 c_25]; decide), show rdS σ w d (t + 1) = rdS σ w d t from by unfold rdS; rw [show rdi σ w d (t + 1) = rdi σ w d t from if_neg (by rw [b2n_0 c_25]; decide)]] at ih
          exact v_sub rfl ih
        · refine v_aload_n hC dX4_readInputs_28 rfl ?_
          refine gf_X4_23 hC dX4_readInputs_29 hO ?_
          refine v_iload_n hC dX4_readInputs_32 rfl ?_
          refine v_aload_n hC dX4_readInputs_33 rfl ?_
          refine v_aload_n hC dX4_readInputs_34 rfl ?_
          refine gf_X4_11 hC dX4_readInputs_35 hO ?_
          refine v_iload hC dX4_readInputs_38 rfl ?_
          refine al_17 hC dX4_readInputs_40 hO (by first | omega | assumption | exact hBt _ _ _ _ rfl | exact hB4 _ _ _ _ rfl | exact hBt.i _ _ _ _ rfl | exact b2n_31 _ | exact hB _ _ _ _ rfl) ?_
          refine gf_X4_32 hC dX4_readInputs_41 hO (by first | omega | assumption | exact hBt _ _ _ _ rfl | exact hB4 _ _ _ _ rfl | exact hBt.i _ _ _ _ rfl | exact b2n_31 _ | exact hB _ _ _ _ rfl) ?_
          rw [rdS_k (by decide)]
          refine al_15 hC dX4_readInputs_44 hO (by first | omega | assumption | exact hBt _ _ _ _ rfl | exact hB4 _ _ _ _ rfl | exact hBt.i _ _ _ _ rfl | exact b2n_31 _ | exact hB _ _ _ _ rfl) (by first | omega | assumption | exact hBt _ _ _ _ rfl | exact hB4 _ _ _ _ rfl | exact hBt.i _ _ _ _ rfl | exact b2n_31 _ | exact hB _ _ _ _ rfl) ?_
          rw [rdS_k (by decide)]
          refine as_20 hC dX4_readInputs_45 hO (by first | omega | assumption | exact hBt _ _ _ _ rfl | exact hB4 _ _ _ _ rfl | exact hBt.i _ _ _ _ rfl | exact b2n_31 _ | exact hB _ _ _ _ rfl) ?_
          have hB4 : BD (up (rdS σ w d t) 20 0 0 (rdi σ w d t).2 (σ 15 w 0 (σ 18 t 0 0))) := BD.put hBt (hB 15 w 0 _ rfl)
          refine v_aload_n hC dX4_readInputs_46 rfl ?_
          refine gf_X4_23 hC dX4_readInputs_47 hO ?_
          refine v_iload_n hC dX4_readInputs_50 rfl ?_
          refine v_iconst (v := nI 1) hC dX4_readInputs_51 (by decide) ?_
          refine v_iaddN hC dX4_readInputs_52 ?_
          refine v_aload_n hC dX4_readInputs_53 rfl ?_
          refine v_aload_n hC dX4_readInputs_54 rfl ?_
          refine gf_X4_11 hC dX4_readInputs_55 hO ?_
          refine v_iload hC dX4_readInputs_58 rfl ?_
          refine al_17 hC dX4_readInputs_60 hO (by first | omega | assumption | exact hBt _ _ _ _ rfl | exact hB4 _ _ _ _ rfl | exact hBt.i _ _ _ _ rfl | exact b2n_31 _ | exact hB _ _ _ _ rfl) ?_
          refine gf_X4_35 hC dX4_readInputs_61 hO (by first | omega | assumption | exact hBt _ _ _ _ rfl | exact hB4 _ _ _ _ rfl | exact hBt.i _ _ _ _ rfl | exact b2n_31 _ | exact hB _ _ _ _ rfl) ?_
          rw [up_k (by decide), rdS_k (by decide)]
          refine al_15 hC dX4_readInputs_64 hO (by first | omega | assumption | exact hBt _ _ _ _ rfl | exact hB4 _ _ _ _ rfl | exact hBt.i _ _ _ _ rfl | exact b2n_31 _ | exact hB _ _ _ _ rfl) (by first | omega | assumption | exact hBt _ _ _ _ rfl | exact hB4 _ _ _ _ rfl | exact hBt.i _ _ _ _ rfl | exact b2n_31 _ | exact hB _ _ _ _ rfl) ?_
          rw [up_k (by decide), rdS_k (by decide)]
          refine as_20 hC dX4_readInputs_65 hO (by first | omega | assumption | exact hBt _ _ _ _ rfl | exact hB4 _ _ _ _ rfl | exact hBt.i _ _ _ _ rfl | exact b2n_31 _ | exact hB _ _ _ _ rfl) ?_
          refine v_iincK (z := 2) hC dX4_readInputs_66 rfl (by decide) (by decide) ?_
          refine v_iincN hC dX4_readInputs_69 rfl (by decide) ?_
          refine v_goto (tgt := 5) hC dX4_readInputs_72 (by decide) ?_
          have e1 : rdi σ w d (t + 1) = _ := if_pos (b2n_1 c_25)
          rw [show rdS σ w d (t + 1) = up (up (rdS σ w d t) 20 0 0 (rdi σ w d t).2 (σ 15 w 0 (σ 18 t 0 0))) 20 0 0 ((rdi σ w d t).2 + 1) (σ 15 w 0 (σ 18 t 0 1)) from by unfold rdS; rw [e1, upr_up, upr_up], e1] at ih
          exact v_sub rfl ih
  have k0 := key 0 (Nat.zero_le _)
  rw [show rdS σ w d 0 = σ from upr_id σ 20 0 0] at k0
  exact v_sub rfl k0

