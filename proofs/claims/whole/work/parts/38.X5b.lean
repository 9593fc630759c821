/-- who is asked in a directory: the person after 1, 0 for nobody -/
def ask (σ : SG) (i d : Nat) : Nat := if σ 4 0 0 (σ 1 0 0 d) = 0 ∧ σ 1 0 0 d ≠ σ 6 i 0 0 then σ 1 0 0 d + 1 else if σ 2 0 0 d = σ 6 i 0 0 then 0 else σ 2 0 0 d + 1
theorem ask_lt {σ : SG} (h : BD σ) (i d : Nat) : ask σ i d < 7 := by
  have h1 : σ 1 0 0 d < 6 := h 1 0 0 d rfl
  have h2 : σ 2 0 0 d < 6 := h 2 0 0 d rfl
  unfold ask
  split
  · omega
  · split <;> omega
def vrd (σ : SG) (i d : Nat) : Nat := if tch (σ 6 i 0 3) d = false then 45 else if ask σ i d = 0 then 102 else vby σ i (ask σ i d - 1) d
theorem vby_lt (σ : SG) (i p d : Nat) : vby σ i p d < 128 := by
  unfold vby
  split
  · decide
  · split
    · decide
    · split <;> decide
theorem vrd_lt (σ : SG) (i d : Nat) : vrd σ i d < 128 := by
  unfold vrd
  split
  · decide
  · split
    · decide
    · exact vby_lt _ _ _ _
def mis (σ : SG) (i n : Nat) : Nat := cnt (fun d => decide (vrd σ i d = 63) || decide (vrd σ i d = 110) || decide (vrd σ i d = 115)) n
def tfz (σ : SG) (i : Nat) : Bool := !allB (fun d => !(decide (σ 3 0 0 d ≠ 0) && tch (σ 6 i 0 3) d)) 0 4
def rpn (σ : SG) (n : Nat) : SG := up (drO σ 0 n) 6 n 0 1 111
theorem rpn_BD {σ : SG} (h : BD σ) {n : Nat} : BD (rpn σ n) := BD.put (drO_BD h (Nat.le_of_lt_succ (h 12 0 0 0 rfl))) (by decide)

set_option maxHeartbeats 4000000 in
set_option maxRecDepth 100000 in
theorem c_X5_personAsked {l : Launch} (hl0 : l.stackTraces = false) {G : GT} {ok : KF} {ad : AD} {σ : SG} (hO : OKC ok) (hB : BD σ) {i : Nat} (hi : i < 16) {d : Nat} (hd : d < 4) : Ct l G 0 yX5_personAsked cX5_personAsked 5 (some .int) [.ref (ad 0 0 0), .ref (ad 6 i 0), iv d] ok ad σ (Rt (some (.int (dm (ask σ i d)))) ok ad σ) (NX) 0 0 := by
  refine Ct.mk (by decide +kernel) hl0 (Nat.le_of_ble_eq_true rfl) (fun X hX hC hM => ?_)
  subst hX
  refine v_aload_n hC dX5_personAsked_0 rfl ?_
  refine gf_X5_9 hC dX5_personAsked_1 hO ?_
  refine v_iload_n hC dX5_personAsked_4 rfl ?_
  refine al_1 hC dX5_personAsked_5 hO (by first | omega | exact hB _ _ _ _ rfl | exact hB.i _ _ _ _ rfl | assumption | exact and_lt (hB _ _ _ _ rfl) | exact b2n_31 _) ?_
  refine v_istore_n hC dX5_personAsked_6 (by decide) ?_
  refine v_aload_n hC dX5_personAsked_7 rfl ?_
  refine gf_X5_20 hC dX5_personAsked_8 hO ?_
  refine v_iload_n hC dX5_personAsked_11 rfl ?_
  refine al_4 hC dX5_personAsked_12 hO (by first | omega | exact hB _ _ _ _ rfl | exact hB.i _ _ _ _ rfl | assumption | exact and_lt (hB _ _ _ _ rfl) | exact b2n_31 _) ?_
  refine v_if_neN (tgt := 26) hC dX5_personAsked_13 (by decide) (by first | omega | exact hB _ _ _ _ rfl | exact hB.i _ _ _ _ rfl | assumption | exact and_lt (hB _ _ _ _ rfl) | exact b2n_31 _) (fun c_13 => ?_) (fun c_13 => ?_)
  · refine v_aload_n hC dX5_personAsked_26 rfl ?_
    refine gf_X5_13 hC dX5_personAsked_27 hO ?_
    refine v_iload_n hC dX5_personAsked_30 rfl ?_
    refine al_2 hC dX5_personAsked_31 hO (by first | omega | exact hB _ _ _ _ rfl | exact hB.i _ _ _ _ rfl | assumption | exact and_lt (hB _ _ _ _ rfl) | exact b2n_31 _) ?_
    refine v_istore hC dX5_personAsked_32 (by decide) ?_
    refine v_iload hC dX5_personAsked_34 rfl ?_
    refine v_aload_n hC dX5_personAsked_36 rfl ?_
    refine gf_X5_79 hC dX5_personAsked_37 hO (by first | omega | exact hB _ _ _ _ rfl | exact hB.i _ _ _ _ rfl | assumption | exact and_lt (hB _ _ _ _ rfl) | exact b2n_31 _) ?_
    refine v_icmp_neN (tgt := 47) hC dX5_personAsked_40 (by decide) (by first | omega | exact hB _ _ _ _ rfl | exact hB.i _ _ _ _ rfl | assumption | exact and_lt (hB _ _ _ _ rfl) | exact b2n_31 _) (by first | omega | exact hB _ _ _ _ rfl | exact hB.i _ _ _ _ rfl | assumption | exact and_lt (hB _ _ _ _ rfl) | exact b2n_31 _) (fun c_40 => ?_) (fun c_40 => ?_)
    · refine v_iload hC dX5_personAsked_47 rfl ?_
      refine v_iret hC hM dX5_personAsked_49 (by omega) (by omega) ?_
      exact ⟨by rw [show ask σ i d = σ 2 0 0 d + 1 from (if_neg (fun q => c_13 q.1)).trans (if_neg c_40)] <;> rfl, rfl⟩
    · refine v_iconst (v := dm 0) hC dX5_personAsked_43 (by decide) ?_
      refine v_goto (tgt := 49) hC dX5_personAsked_44 (by decide) ?_
      refine v_iret hC hM dX5_personAsked_49 (by omega) (by omega) ?_
      exact ⟨by rw [show ask σ i d = 0 from (if_neg (fun q => c_13 q.1)).trans (if_pos c_40)] <;> rfl, rfl⟩
  · refine v_iload_n hC dX5_personAsked_16 rfl ?_
    refine v_aload_n hC dX5_personAsked_17 rfl ?_
    refine gf_X5_79 hC dX5_personAsked_18 hO (by first | omega | exact hB _ _ _ _ rfl | exact hB.i _ _ _ _ rfl | assumption | exact and_lt (hB _ _ _ _ rfl) | exact b2n_31 _) ?_
    refine v_icmp_eqN (tgt := 26) hC dX5_personAsked_21 (by decide) (by first | omega | exact hB _ _ _ _ rfl | exact hB.i _ _ _ _ rfl | assumption | exact and_lt (hB _ _ _ _ rfl) | exact b2n_31 _) (by first | omega | exact hB _ _ _ _ rfl | exact hB.i _ _ _ _ rfl | assumption | exact and_lt (hB _ _ _ _ rfl) | exact b2n_31 _) (fun c_21 => ?_) (fun c_21 => ?_)
    · refine v_aload_n hC dX5_personAsked_26 rfl ?_
      refine gf_X5_13 hC dX5_personAsked_27 hO ?_
      refine v_iload_n hC dX5_personAsked_30 rfl ?_
      refine al_2 hC dX5_personAsked_31 hO (by first | omega | exact hB _ _ _ _ rfl | exact hB.i _ _ _ _ rfl | assumption | exact and_lt (hB _ _ _ _ rfl) | exact b2n_31 _) ?_
      refine v_istore hC dX5_personAsked_32 (by decide) ?_
      refine v_iload hC dX5_personAsked_34 rfl ?_
      refine v_aload_n hC dX5_personAsked_36 rfl ?_
      refine gf_X5_79 hC dX5_personAsked_37 hO (by first | omega | exact hB _ _ _ _ rfl | exact hB.i _ _ _ _ rfl | assumption | exact and_lt (hB _ _ _ _ rfl) | exact b2n_31 _) ?_
      refine v_icmp_neN (tgt := 47) hC dX5_personAsked_40 (by decide) (by first | omega | exact hB _ _ _ _ rfl | exact hB.i _ _ _ _ rfl | assumption | exact and_lt (hB _ _ _ _ rfl) | exact b2n_31 _) (by first | omega | exact hB _ _ _ _ rfl | exact hB.i _ _ _ _ rfl | assumption | exact and_lt (hB _ _ _ _ rfl) | exact b2n_31 _) (fun c_40 => ?_) (fun c_40 => ?_)
      · refine v_iload hC dX5_personAsked_47 rfl ?_
        refine v_iret hC hM dX5_personAsked_49 (by omega) (by omega) ?_
        exact ⟨by rw [show ask σ i d = σ 2 0 0 d + 1 from (if_neg (fun q => q.2 c_21)).trans (if_neg c_40)] <;> rfl, rfl⟩
      · refine v_iconst (v := dm 0) hC dX5_personAsked_43 (by decide) ?_
        refine v_goto (tgt := 49) hC dX5_personAsked_44 (by decide) ?_
        refine v_iret hC hM dX5_personAsked_49 (by omega) (by omega) ?_
        exact ⟨by rw [show ask σ i d = 0 from (if_neg (fun q => q.2 c_21)).trans (if_pos c_40)] <;> rfl, rfl⟩
    · refine v_iload_n hC dX5_personAsked_24 rfl ?_
      refine v_iret hC hM dX5_personAsked_25 (by omega) (by omega) ?_
      exact ⟨by rw [show ask σ i d = σ 1 0 0 d + 1 from if_pos ⟨c_13, c_21⟩] <;> rfl, rfl⟩

set_option maxHeartbeats 4000000 in
set_option maxRecDepth 100000 in
theorem c_X5_verdictOf {l : Launch} (hl0 : l.stackTraces = false) {G : GT} {ok : KF} {ad : AD} {σ : SG} (hO : OKC ok) (hB : BD σ) {i : Nat} (hi : i < 16) {d : Nat} (hd : d < 4) : Ct l G 4 yX5_verdictOf cX5_verdictOf 4 (some .char) [.ref (ad 0 0 0), .ref (ad 6 i 0), iv d] ok ad σ (Rt (some (iv (vrd σ i d))) ok ad σ) (NX) 0 0 := by
  refine Ct.mk (by decide +kernel) hl0 (Nat.le_of_ble_eq_true rfl) (fun X hX hC hM => ?_)
  subst hX
  have ha7 := ask_lt hB i d
  refine v_aload_n hC dX5_verdictOf_0 rfl ?_
  refine v_iload_n hC dX5_verdictOf_1 rfl ?_
  refine v_callVN_r0 hC lk_X5_283 dX5_verdictOf_2 (c_X1_touches hl0 hO hB (by first | omega | assumption | exact b2n_31 _) (by first | omega | assumption | exact b2n_31 _)) (by decide) (by decide) (hO.k6 (by first | omega | assumption | exact b2n_31 _)) rfl rfl rfl rfl (Nat.le_of_ble_eq_true rfl) (by omega) (by omega) ?_
  refine v_if_neN (tgt := 11) hC dX5_verdictOf_5 (by decide) (by first | omega | assumption | exact b2n_31 _) (fun c_5 => ?_) (fun c_5 => ?_)
  · refine v_aload_n hC dX5_verdictOf_11 rfl ?_
    refine v_aload_n hC dX5_verdictOf_12 rfl ?_
    refine v_iload_n hC dX5_verdictOf_13 rfl ?_
    refine v_callV_r0 hC lk_X5_129 dX5_verdictOf_14 (c_X5_personAsked hl0 hO hB (by first | omega | assumption | exact b2n_31 _) (by first | omega | assumption | exact b2n_31 _)) (by decide) (by decide) hO.k0 rfl rfl rfl rfl (Nat.le_of_ble_eq_true rfl) (by omega) (by omega) ?_
    refine v_istore_n hC dX5_verdictOf_17 (by decide) ?_
    refine v_iload_n hC dX5_verdictOf_18 rfl ?_
    refine v_iconst (v := dm 0) hC dX5_verdictOf_19 (by decide) ?_
    refine v_icmp_neM (tgt := 28) hC dX5_verdictOf_20 (by decide) (by first | omega | assumption | exact b2n_31 _) (by first | omega | assumption | exact b2n_31 _) (fun c_20 => ?_) (fun c_20 => ?_)
    · obtain ⟨p, hp⟩ : ∃ p, ask σ i d = p + 1 := ⟨ask σ i d - 1, by omega⟩
      rw [hp]
      refine v_aload_n hC dX5_verdictOf_28 rfl ?_
      refine v_iload_n hC dX5_verdictOf_29 rfl ?_
      refine v_iload_n hC dX5_verdictOf_30 rfl ?_
      refine v_callVN_r0 hC lk_X5_286 dX5_verdictOf_31 (c_X1_verdictBy hl0 hO hB (by first | omega | assumption | exact b2n_31 _) (by first | omega | assumption | exact b2n_31 _) (by first | omega | assumption | exact b2n_31 _)) (by decide) (by decide) (hO.k6 (by first | omega | assumption | exact b2n_31 _)) rfl rfl rfl rfl (Nat.le_of_ble_eq_true rfl) (by omega) (by omega) ?_
      refine v_zret hC hM dX5_verdictOf_34 (nar_c (Nat.lt_trans (vby_lt _ _ _ _) (by decide))) (by omega) (by omega) ?_
      exact ⟨by rw [show vrd σ i d = vby σ i p d from (if_neg (by rw [b2n_1 c_5]; decide)).trans ((if_neg c_20).trans (by rw [hp]; rfl))] <;> rfl, rfl⟩
    · refine v_bipush (v := nI 102) hC dX5_verdictOf_23 (by decide) ?_
      refine v_goto (tgt := 34) hC dX5_verdictOf_25 (by decide) ?_
      refine v_zret hC hM dX5_verdictOf_34 rfl (by omega) (by omega) ?_
      exact ⟨by rw [show vrd σ i d = 102 from (if_neg (by rw [b2n_1 c_5]; decide)).trans (if_pos c_20)] <;> rfl, rfl⟩
  · refine v_bipush (v := nI 45) hC dX5_verdictOf_8 (by decide) ?_
    refine v_zret hC hM dX5_verdictOf_10 rfl (by omega) (by omega) ?_
    exact ⟨by rw [show vrd σ i d = 45 from if_pos (b2n_0 c_5)] <;> rfl, rfl⟩

set_option maxHeartbeats 4000000 in
set_option maxRecDepth 100000 in
theorem c_X5_missingVerdicts {l : Launch} (hl0 : l.stackTraces = false) {G : GT} {ok : KF} {ad : AD} {σ : SG} (hO : OKC ok) (hB : BD σ) {i : Nat} (hi : i < 16) : Ct l G 5 yX5_missingVerdicts cX5_missingVerdicts 5 (some .int) [.ref (ad 0 0 0), .ref (ad 6 i 0)] ok ad σ (Rt (some (iv (mis σ i 4))) ok ad σ) (NX) 0 0 := by
  refine Ct.mk (by decide +kernel) hl0 (Nat.le_of_ble_eq_true rfl) (fun X hX hC hM => ?_)
  subst hX
  refine v_iconst (v := nI 0) hC dX5_missingVerdicts_0 (by decide) ?_
  refine v_istore_n hC dX5_missingVerdicts_1 (by decide) ?_
  refine v_iconst (v := nI 0) hC dX5_missingVerdicts_2 (by decide) ?_
  refine v_istore_n hC dX5_missingVerdicts_3 (by decide) ?_
  have key : ∀ p, p ≤ 4 → V X G 0 0 ok ad σ [(0, .ref (ad 0 0 0)), (1, .ref (ad 6 i 0)), (2, iv (mis σ i p)), (3, iv p)] 4 [] := by
    refine down (4) ?_ ?_
    · refine v_iload_n hC dX5_missingVerdicts_4 rfl ?_
      refine v_iconst (v := nI 4) hC dX5_missingVerdicts_5 (by decide) ?_
      refine v_icmp_geN (tgt := 47) hC dX5_missingVerdicts_6 (by decide) (by first | omega | assumption | exact Nat.lt_trans (vrd_lt _ _ _) (by decide)) (by first | omega | assumption | exact Nat.lt_trans (vrd_lt _ _ _) (by decide)) (fun c_6 => ?_) (fun c_6 => ?_)
      · refine v_iload_n hC dX5_missingVerdicts_47 rfl ?_
        refine v_iret hC hM dX5_missingVerdicts_48 (by omega) (by omega) ?_
        exact ⟨rfl, rfl⟩
      · exact absurd c_6 (by omega)
    · intro p hp ih 
      refine v_iload_n hC dX5_missingVerdicts_4 rfl ?_
      refine v_iconst (v := nI 4) hC dX5_missingVerdicts_5 (by decide) ?_
      refine v_icmp_geN (tgt := 47) hC dX5_missingVerdicts_6 (by decide) (by first | omega | assumption | exact Nat.lt_trans (vrd_lt _ _ _) (by decide)) (by first | omega | assumption | exact Nat.lt_trans (vrd_lt _ _ _) (by decide)) (fun c_6 => ?_) (fun c_6 => ?_)
      · exact absurd c_6 (by omega)
      · refine v_aload_n hC dX5_missingVerdicts_9 rfl ?_
        refine v_aload_n hC dX5_missingVerdicts_10 rfl ?_
        refine v_iload_n hC dX5_missingVerdicts_11 rfl ?_
        refine v_callV_r0 hC lk_X5_125 dX5_missingVerdicts_12 (c_X5_verdictOf hl0 hO hB (by first | omega | assumption | exact Nat.lt_trans (vrd_lt _ _ _) (by decide)) (by first | omega | assumption | exact Nat.lt_trans (vrd_lt _ _ _) (by decide))) (by decide) (by decide) hO.k0 rfl rfl rfl rfl (Nat.le_of_ble_eq_true rfl) (by omega) (by omega) ?_
        refine v_istore hC dX5_missingVerdicts_15 (by decide) ?_
        refine v_iload hC dX5_missingVerdicts_17 rfl ?_
        refine v_bipush (v := nI 63) hC dX5_missingVerdicts_19 (by decide) ?_
        refine v_icmp_eqN (tgt := 38) hC dX5_missingVerdicts_21 (by decide) (by first | omega | assumption | exact Nat.lt_trans (vrd_lt _ _ _) (by decide)) (by first | omega | assumption | exact Nat.lt_trans (vrd_lt _ _ _) (by decide)) (fun c_21 => ?_) (fun c_21 => ?_)
        · refine v_iincN hC dX5_missingVerdicts_38 rfl (by decide) ?_
          refine v_iincN hC dX5_missingVerdicts_41 rfl (by decide) ?_
          refine v_goto (tgt := 4) hC dX5_missingVerdicts_44 (by decide) ?_
          have e1 : mis σ i (p + 1) = mis σ i p + 1 := by
            show cnt _ p + b2n (decide (vrd σ i p = 63) || decide (vrd σ i p = 110) || decide (vrd σ i p = 115)) = _
            rw [show (decide (vrd σ i p = 63) || decide (vrd σ i p = 110) || decide (vrd σ i p = 115)) = true from by simp [c_21]]
            rfl
          rw [e1] at ih
          exact v_sub rfl ih
        · refine v_iload hC dX5_missingVerdicts_24 rfl ?_
          refine v_bipush (v := nI 110) hC dX5_missingVerdicts_26 (by decide) ?_
          refine v_icmp_eqN (tgt := 38) hC dX5_missingVerdicts_28 (by decide) (by first | omega | assumption | exact Nat.lt_trans (vrd_lt _ _ _) (by decide)) (by first | omega | assumption | exact Nat.lt_trans (vrd_lt _ _ _) (by decide)) (fun c_28 => ?_) (fun c_28 => ?_)
          · refine v_iincN hC dX5_missingVerdicts_38 rfl (by decide) ?_
            refine v_iincN hC dX5_missingVerdicts_41 rfl (by decide) ?_
            refine v_goto (tgt := 4) hC dX5_missingVerdicts_44 (by decide) ?_
            have e1 : mis σ i (p + 1) = mis σ i p + 1 := by
              show cnt _ p + b2n (decide (vrd σ i p = 63) || decide (vrd σ i p = 110) || decide (vrd σ i p = 115)) = _
              rw [show (decide (vrd σ i p = 63) || decide (vrd σ i p = 110) || decide (vrd σ i p = 115)) = true from by simp [c_28]]
              rfl
            rw [e1] at ih
            exact v_sub rfl ih
          · refine v_iload hC dX5_missingVerdicts_31 rfl ?_
            refine v_bipush (v := nI 115) hC dX5_missingVerdicts_33 (by decide) ?_
            refine v_icmp_neN (tgt := 41) hC dX5_missingVerdicts_35 (by decide) (by first | omega | assumption | exact Nat.lt_trans (vrd_lt _ _ _) (by decide)) (by first | omega | assumption | exact Nat.lt_trans (vrd_lt _ _ _) (by decide)) (fun c_35 => ?_) (fun c_35 => ?_)
            · refine v_iincN hC dX5_missingVerdicts_41 rfl (by decide) ?_
              refine v_goto (tgt := 4) hC dX5_missingVerdicts_44 (by decide) ?_
              have e1 : mis σ i (p + 1) = mis σ i p := by
                show cnt _ p + b2n (decide (vrd σ i p = 63) || decide (vrd σ i p = 110) || decide (vrd σ i p = 115)) = _
                rw [show (decide (vrd σ i p = 63) || decide (vrd σ i p = 110) || decide (vrd σ i p = 115)) = false from by simp [c_21, c_28, c_35]]
                rfl
              rw [e1] at ih
              exact v_sub rfl ih
            · refine v_iincN hC dX5_missingVerdicts_38 rfl (by decide) ?_
              refine v_iincN hC dX5_missingVerdicts_41 rfl (by decide) ?_
              refine v_goto (tgt := 4) hC dX5_missingVerdicts_44 (by decide) ?_
              have e1 : mis σ i (p + 1) = mis σ i p + 1 := by
                show cnt _ p + b2n (decide (vrd σ i p = 63) || decide (vrd σ i p = 110) || decide (vrd σ i p = 115)) = _
                rw [show (decide (vrd σ i p = 63) || decide (vrd σ i p = 110) || decide (vrd σ i p = 115)) = true from by simp [c_35]]
                rfl
              rw [e1] at ih
              exact v_sub rfl ih
  exact v_sub rfl (key 0 (Nat.zero_le _))

set_option maxHeartbeats 4000000 in
set_option maxRecDepth 100000 in
theorem c_X5_reopen {l : Launch} (hl0 : l.stackTraces = false) {G : GT} {ok : KF} {ad : AD} {σ : SG} (hO : OKC ok) (hB : BD σ) {n : Nat} (hn : n < 16) : Ct l G 2 yX5_reopen cX5_reopen 2 (none) [.ref (ad 0 0 0), iv n] ok ad σ (Rt none ok ad (rpn σ n)) (NX) 0 0 := by
  refine Ct.mk (by decide +kernel) hl0 (Nat.le_of_ble_eq_true rfl) (fun X hX hC hM => ?_)
  subst hX
  have hs16 : σ 12 0 0 0 ≤ 16 := Nat.le_of_lt_succ (hB 12 0 0 0 rfl)
  refine v_aload_n hC dX5_reopen_0 rfl ?_
  refine gf_X5_32 hC dX5_reopen_1 hO ?_
  refine v_iload_n hC dX5_reopen_4 rfl ?_
  refine v_callVN_v0 hC lk_X5_290 dX5_reopen_5 (c_X2_drop hl0 hO hB (by decide) hn hs16) (by decide) (by decide) (hO.k12 (i := 0) (by decide)) rfl rfl rfl rfl (Nat.le_of_ble_eq_true rfl) (by omega) (by omega) ?_
  refine v_aload_n hC dX5_reopen_8 rfl ?_
  refine gf_X5_25 hC dX5_reopen_9 hO ?_
  refine v_iload_n hC dX5_reopen_12 rfl ?_
  refine al_5 hC dX5_reopen_13 hO (by first | omega | exact hB _ _ _ _ rfl | exact hB.i _ _ _ _ rfl | assumption | exact and_lt (hB _ _ _ _ rfl) | exact b2n_31 _) ?_
  refine v_bipush (v := nI 111) hC dX5_reopen_14 (by decide) ?_
  refine pf_X5_113 hC dX5_reopen_16 hO (by first | omega | exact hB _ _ _ _ rfl | exact hB.i _ _ _ _ rfl | assumption | exact and_lt (hB _ _ _ _ rfl) | exact b2n_31 _) (by first | omega | exact hB _ _ _ _ rfl | exact hB.i _ _ _ _ rfl | assumption | exact and_lt (hB _ _ _ _ rfl) | exact b2n_31 _) ?_
  refine v_vret hC hM dX5_reopen_19 (by omega) (by omega) ?_
  exact ⟨rfl, rfl⟩

set_option maxHeartbeats 4000000 in
set_option maxRecDepth 100000 in
theorem c_X5_touchesFrozen {l : Launch} (hl0 : l.stackTraces = false) {G : GT} {ok : KF} {ad : AD} {σ : SG} (hO : OKC ok) (hB : BD σ) {i : Nat} (hi : i < 16) : Ct l G 2 yX5_touchesFrozen cX5_touchesFrozen 3 (some .boolean) [.ref (ad 0 0 0), .ref (ad 6 i 0)] ok ad σ (Rt (some (iv (b2n (tfz σ i)))) ok ad σ) (NX) 0 0 := by
  refine Ct.mk (by decide +kernel) hl0 (Nat.le_of_ble_eq_true rfl) (fun X hX hC hM => ?_)
  subst hX
  refine v_iconst (v := nI 0) hC dX5_touchesFrozen_0 (by decide) ?_
  refine v_istore_n hC dX5_touchesFrozen_1 (by decide) ?_
  have key : ∀ p, p ≤ 4 → (∀ q, q < p → (!(decide (σ 3 0 0 q ≠ 0) && tch (σ 6 i 0 3) q)) = true) → V X G 0 0 ok ad σ [(0, .ref (ad 0 0 0)), (1, .ref (ad 6 i 0)), (2, iv p)] 2 [] := by
    refine down (4) ?_ ?_
    · intro hq
      refine v_iload_n hC dX5_touchesFrozen_2 rfl ?_
      refine v_iconst (v := nI 4) hC dX5_touchesFrozen_3 (by decide) ?_
      refine v_icmp_geN (tgt := 32) hC dX5_touchesFrozen_4 (by decide) (by first | omega | exact hB _ _ _ _ rfl | exact hB.i _ _ _ _ rfl | assumption | exact and_lt (hB _ _ _ _ rfl) | exact b2n_31 _) (by first | omega | exact hB _ _ _ _ rfl | exact hB.i _ _ _ _ rfl | assumption | exact and_lt (hB _ _ _ _ rfl) | exact b2n_31 _) (fun c_4 => ?_) (fun c_4 => ?_)
      · refine v_iconst (v := nI 0) hC dX5_touchesFrozen_32 (by decide) ?_
        refine v_zret hC hM dX5_touchesFrozen_33 rfl (by omega) (by omega) ?_
        exact ⟨by rw [show tfz σ i = false from by unfold tfz; rw [(allB_iff _ _ _).mpr (fun q _ h => hq q (by omega))]; rfl] <;> rfl, rfl⟩
      · exact absurd c_4 (by omega)
    · intro p hp ih hq
      refine v_iload_n hC dX5_touchesFrozen_2 rfl ?_
      refine v_iconst (v := nI 4) hC dX5_touchesFrozen_3 (by decide) ?_
      refine v_icmp_geN (tgt := 32) hC dX5_touchesFrozen_4 (by decide) (by first | omega | exact hB _ _ _ _ rfl | exact hB.i _ _ _ _ rfl | assumption | exact and_lt (hB _ _ _ _ rfl) | exact b2n_31 _) (by first | omega | exact hB _ _ _ _ rfl | exact hB.i _ _ _ _ rfl | assumption | exact and_lt (hB _ _ _ _ rfl) | exact b2n_31 _) (fun c_4 => ?_) (fun c_4 => ?_)
      · exact absurd c_4 (by omega)
      · refine v_aload_n hC dX5_touchesFrozen_7 rfl ?_
        refine gf_X5_16 hC dX5_touchesFrozen_8 hO ?_
        refine v_iload_n hC dX5_touchesFrozen_11 rfl ?_
        refine al_3 hC dX5_touchesFrozen_12 hO (by first | omega | exact hB _ _ _ _ rfl | exact hB.i _ _ _ _ rfl | assumption | exact and_lt (hB _ _ _ _ rfl) | exact b2n_31 _) ?_
        refine v_if_eqN (tgt := 26) hC dX5_touchesFrozen_13 (by decide) (by first | omega | exact hB _ _ _ _ rfl | exact hB.i _ _ _ _ rfl | assumption | exact and_lt (hB _ _ _ _ rfl) | exact b2n_31 _) (fun c_13 => ?_) (fun c_13 => ?_)
        · refine v_iincN hC dX5_touchesFrozen_26 rfl (by decide) ?_
          refine v_goto (tgt := 2) hC dX5_touchesFrozen_29 (by decide) ?_
          refine v_sub rfl (ih (fun q h2 => ?_))
          by_cases e : q = p
          · subst e
            simp [c_13]
          · exact hq q (by omega)
        · refine v_aload_n hC dX5_touchesFrozen_16 rfl ?_
          refine v_iload_n hC dX5_touchesFrozen_17 rfl ?_
          refine v_callVN_r0 hC lk_X5_283 dX5_touchesFrozen_18 (c_X1_touches hl0 hO hB (by first | omega | exact hB _ _ _ _ rfl | exact hB.i _ _ _ _ rfl | assumption | exact and_lt (hB _ _ _ _ rfl) | exact b2n_31 _) (by first | omega | exact hB _ _ _ _ rfl | exact hB.i _ _ _ _ rfl | assumption | exact and_lt (hB _ _ _ _ rfl) | exact b2n_31 _)) (by decide) (by decide) (hO.k6 (by first | omega | exact hB _ _ _ _ rfl | exact hB.i _ _ _ _ rfl | assumption | exact and_lt (hB _ _ _ _ rfl) | exact b2n_31 _)) rfl rfl rfl rfl (Nat.le_of_ble_eq_true rfl) (by omega) (by omega) ?_
          refine v_if_eqN (tgt := 26) hC dX5_touchesFrozen_21 (by decide) (by first | omega | exact hB _ _ _ _ rfl | exact hB.i _ _ _ _ rfl | assumption | exact and_lt (hB _ _ _ _ rfl) | exact b2n_31 _) (fun c_21 => ?_) (fun c_21 => ?_)
          · refine v_iincN hC dX5_touchesFrozen_26 rfl (by decide) ?_
            refine v_goto (tgt := 2) hC dX5_touchesFrozen_29 (by decide) ?_
            refine v_sub rfl (ih (fun q h2 => ?_))
            by_cases e : q = p
            · subst e
              simp [b2n_0 c_21]
            · exact hq q (by omega)
          · refine v_iconst (v := nI 1) hC dX5_touchesFrozen_24 (by decide) ?_
            refine v_zret hC hM dX5_touchesFrozen_25 rfl (by omega) (by omega) ?_
            exact ⟨by rw [show tfz σ i = true from by unfold tfz; rw [allB_no (q := p) (Nat.zero_le _) (by omega) (by simp [c_13, b2n_1 c_21])]; rfl] <;> rfl, rfl⟩
  exact v_sub rfl (key 0 (Nat.zero_le _) (fun q h => absurd h (by omega)))

