def qu (σ : SG) (c : Nat) : SG := apO (up σ 6 c 0 1 113) 0 c
def k_queue (σ : SG) (c : Int32) : OC := gR c (σ 0 0 0 0) eNSE fun c => if σ 6 c 0 1 ≠ 111 then .inl eISE else if σ 6 c 0 3 = 0 ∨ σ 6 c 0 4 ≠ 0 then .inl eISE else if mis σ c 4 ≠ 0 then .inl eUOE else .inr (qu σ c 12 0 0 0, qu σ c)
set_option maxHeartbeats 4000000 in
set_option maxRecDepth 100000 in
theorem c_X5_queue {l : Launch} (hl0 : l.stackTraces = false) {G : GT} {ok : KF} {ad : AD} {σ : SG} (hO : OKC ok) (hB : BD σ) (c : Int32) (hq : ∀ c, c < 16 → σ 6 c 0 1 = 111 → σ 12 0 0 0 < 16) : Ct l G 7 yX5_queue cX5_queue 3 (some .int) [.ref (ad 0 0 0), .int c] ok ad σ (oV (k_queue σ c) ok ad) (oX (k_queue σ c) ok ad σ) 4 24 := by
  refine Ct.mk (by decide +kernel) hl0 (Nat.le_of_ble_eq_true rfl) (fun X hX hC hM => ?_)
  subst hX
  refine v_aload_n hC dX5_queue_0 rfl ?_
  refine v_iload_n hC dX5_queue_1 rfl ?_
  refine v_callV hC lk_X5_82 dX5_queue_2 (c_X5_changeOf hl0 hO hB c) (by decide) (by decide) hO.k0 rfl rfl rfl rfl (Nat.le_of_ble_eq_true rfl) (by omega) (by omega) (fun v μ h => ?_) (fun E μ h => ?_)
  rotate_left
  · obtain ⟨rfl, rfl, he⟩ := h
    exact v_out hC hM (by omega) (by omega) ⟨by simp [k_queue, gR, he], rfl⟩
  obtain ⟨rfl, c, h_c, rfl, b_c, b2_c, rfl⟩ := h
  dsimp only
  refine v_astore_n hC dX5_queue_5 (by decide) ?_
  refine v_aload_n hC dX5_queue_6 rfl ?_
  refine v_callS hC lk_X5_92 dX5_queue_7 (c_X5_checkOpen hl0 hO hB b2_c) (by decide) (by decide) rfl rfl (Nat.le_of_ble_eq_true rfl) (by omega) (by omega) (fun v μ h => ?_) (fun E μ h => ?_)
  rotate_left
  · obtain ⟨rfl, rfl, he⟩ := h
    exact v_out hC hM (by omega) (by omega) ⟨by simp [k_queue, gR, h_c, he], rfl⟩
  obtain ⟨rfl, rfl, hop⟩ := h
  dsimp only
  refine v_aload_n hC dX5_queue_10 rfl ?_
  refine gf_X5_142 hC dX5_queue_11 hO (by first | exact b2_c | omega | exact hB _ _ _ _ rfl | exact hB.i _ _ _ _ rfl | decide | exact Nat.lt_of_le_of_lt (cnt_le _ 4) (by decide)) ?_
  refine v_lconst (v := lN 0) hC dX5_queue_14 (by decide) ?_
  refine v_lcmp hC dX5_queue_15 ?_
  refine v_if_eqJ (tgt := 28) hC dX5_queue_16 (by decide) (by first | exact b2_c | omega | exact hB _ _ _ _ rfl | exact hB.i _ _ _ _ rfl | decide | exact Nat.lt_of_le_of_lt (cnt_le _ 4) (by decide)) (by first | exact b2_c | omega | exact hB _ _ _ _ rfl | exact hB.i _ _ _ _ rfl | decide | exact Nat.lt_of_le_of_lt (cnt_le _ 4) (by decide)) (fun c_16 => ?_) (fun c_16 => ?_)
  · exact v_thr (text := "the change has no edits, or has a clash") hC hM tw_ISE (by decide +kernel) (⟨by simp [k_queue, gR, h_c, hop, c_16], rfl⟩) (by omega) (by omega) (Nat.le_of_ble_eq_true rfl) dX5_queue_28 dX5_queue_31 dX5_queue_32 dX5_queue_34 dX5_queue_37
  · refine v_aload_n hC dX5_queue_19 rfl ?_
    refine gf_X5_146 hC dX5_queue_20 hO (by first | exact b2_c | omega | exact hB _ _ _ _ rfl | exact hB.i _ _ _ _ rfl | decide | exact Nat.lt_of_le_of_lt (cnt_le _ 4) (by decide)) ?_
    refine v_lconst (v := lN 0) hC dX5_queue_23 (by decide) ?_
    refine v_lcmp hC dX5_queue_24 ?_
    refine v_if_eqJ (tgt := 38) hC dX5_queue_25 (by decide) (by first | exact b2_c | omega | exact hB _ _ _ _ rfl | exact hB.i _ _ _ _ rfl | decide | exact Nat.lt_of_le_of_lt (cnt_le _ 4) (by decide)) (by first | exact b2_c | omega | exact hB _ _ _ _ rfl | exact hB.i _ _ _ _ rfl | decide | exact Nat.lt_of_le_of_lt (cnt_le _ 4) (by decide)) (fun c_25 => ?_) (fun c_25 => ?_)
    · refine v_aload_n hC dX5_queue_38 rfl ?_
      refine v_aload_n hC dX5_queue_39 rfl ?_
      refine v_callV_r0 hC lk_X5_138 dX5_queue_40 (c_X5_missingVerdicts hl0 hO hB b2_c) (by decide) (by decide) hO.k0 rfl rfl rfl rfl (Nat.le_of_ble_eq_true rfl) (by omega) (by omega) ?_
      refine v_if_leN (tgt := 56) hC dX5_queue_43 (by decide) (by first | exact b2_c | omega | exact hB _ _ _ _ rfl | exact hB.i _ _ _ _ rfl | decide | exact Nat.lt_of_le_of_lt (cnt_le _ 4) (by decide)) (fun c_43 => ?_) (fun c_43 => ?_)
      · refine v_aload_n hC dX5_queue_56 rfl ?_
        refine v_bipush (v := nI 113) hC dX5_queue_57 (by decide) ?_
        refine pf_X5_113 hC dX5_queue_59 hO (by first | exact b2_c | omega | exact hB _ _ _ _ rfl | exact hB.i _ _ _ _ rfl | decide | exact Nat.lt_of_le_of_lt (cnt_le _ 4) (by decide)) (by first | exact b2_c | omega | exact hB _ _ _ _ rfl | exact hB.i _ _ _ _ rfl | decide | exact Nat.lt_of_le_of_lt (cnt_le _ 4) (by decide)) ?_
        refine v_aload_n hC dX5_queue_62 rfl ?_
        refine gf_X5_32 hC dX5_queue_63 hO ?_
        refine v_iload_n hC dX5_queue_66 rfl ?_
        refine v_callVN_v0 hC lk_X5_156 dX5_queue_67 (c_X2_append hl0 hO (BD.put hB (by decide)) (by decide) b2_c (hq c b2_c hop)) (by decide) (by decide) (hO.k12 (i := 0) (by decide)) rfl rfl rfl rfl (Nat.le_of_ble_eq_true rfl) (by omega) (by omega) ?_
        refine v_sg (σ1 := qu σ c) (fun _ _ _ _ => rfl) ?_
        refine v_aload_n hC dX5_queue_70 rfl ?_
        refine gf_X5_32 hC dX5_queue_71 hO ?_
        refine gf_X5_159 hC dX5_queue_74 hO (i := 0) (by decide) ?_
        refine v_iret hC hM dX5_queue_77 (by omega) (by omega) ?_
        exact ⟨_, _, by simp [k_queue, gR, h_c, hop, c_16, c_25, c_43], rfl, rfl⟩
      · exact v_thr (text := "a verdict is missing") hC hM tw_UOE (by decide +kernel) (⟨by simp [k_queue, gR, h_c, hop, c_16, c_25, Nat.pos_iff_ne_zero.mp c_43], rfl⟩) (by omega) (by omega) (Nat.le_of_ble_eq_true rfl) dX5_queue_46 dX5_queue_49 dX5_queue_50 dX5_queue_52 dX5_queue_55
    · exact v_thr (text := "the change has no edits, or has a clash") hC hM tw_ISE (by decide +kernel) (⟨by simp [k_queue, gR, h_c, hop, c_25], rfl⟩) (by omega) (by omega) (Nat.le_of_ble_eq_true rfl) dX5_queue_28 dX5_queue_31 dX5_queue_32 dX5_queue_34 dX5_queue_37

def k_addTest (σ : SG) (f s f2 s2 v : Int32) : OC := gR f 16 eIOB fun f => gR s 4 eIOB fun s => gR f2 16 eIOB fun f2 => gR s2 4 eIOB fun s2 => gR v 199 eIAE fun v => if 12 ≤ σ 16 0 0 0 then .inl eISE else if v < σ 15 0 0 (f * 4 + s) + σ 15 0 0 (f2 * 4 + s2) then .inl eUOE else .inr (σ 16 0 0 0, tad σ (f * 4 + s) (f2 * 4 + s2) v)
set_option maxHeartbeats 4000000 in
set_option maxRecDepth 100000 in
theorem c_X5_addTest {l : Launch} (hl0 : l.stackTraces = false) {G : GT} {ok : KF} {ad : AD} {σ : SG} (hO : OKC ok) (hB : BD σ) (f : Int32) (s : Int32) (f2 : Int32) (s2 : Int32) (v : Int32) : Ct l G 4 yX5_addTest cX5_addTest 8 (some .int) [.ref (ad 0 0 0), .int f, .int s, .int f2, .int s2, .int v] ok ad σ (oV (k_addTest σ f s f2 s2 v) ok ad) (oX (k_addTest σ f s f2 s2 v) ok ad σ) 4 24 := by
  refine Ct.mk (by decide +kernel) hl0 (Nat.le_of_ble_eq_true rfl) (fun X hX hC hM => ?_)
  subst hX
  refine v_iload_n hC dX5_addTest_0 rfl ?_
  refine v_iload_n hC dX5_addTest_1 rfl ?_
  refine v_callS hC lk_X5_86 dX5_addTest_2 (c_X5_placeOf hl0 f s) (by decide) (by decide) rfl rfl (Nat.le_of_ble_eq_true rfl) (by omega) (by omega) (fun v μ h => ?_) (fun E μ h => ?_)
  rotate_left
  · obtain ⟨rfl, rfl, he⟩ := h
    refine v_out hC hM (by omega) (by omega) ⟨?_, rfl⟩
    rcases he with he | he
    · simp [k_addTest, gR, he]
    · cases hx : inR f 16 <;> simp [k_addTest, gR, he, hx]
  obtain ⟨rfl, f, s, h_f, h_s, rfl, rfl, b_f, b_s, rfl⟩ := h
  dsimp only
  refine v_istore hC dX5_addTest_5 (by decide) ?_
  refine v_iload_n hC dX5_addTest_7 rfl ?_
  refine v_iload hC dX5_addTest_8 rfl ?_
  refine v_callS hC lk_X5_86 dX5_addTest_10 (c_X5_placeOf hl0 f2 s2) (by decide) (by decide) rfl rfl (Nat.le_of_ble_eq_true rfl) (by omega) (by omega) (fun v μ h => ?_) (fun E μ h => ?_)
  rotate_left
  · obtain ⟨rfl, rfl, he⟩ := h
    refine v_out hC hM (by omega) (by omega) ⟨?_, rfl⟩
    rcases he with he | he
    · simp [k_addTest, gR, h_f, h_s, he]
    · cases hx : inR f2 16 <;> simp [k_addTest, gR, h_f, h_s, he, hx]
  obtain ⟨rfl, f2, s2, h_f2, h_s2, rfl, rfl, b_f2, b_s2, rfl⟩ := h
  dsimp only
  refine v_istore hC dX5_addTest_13 (by decide) ?_
  refine v_iload hC dX5_addTest_15 rfl ?_
  refine v_if_lt (tgt := 28) hC dX5_addTest_17 (by decide) (fun c_17 => ?_) (fun c_17 => ?_)
  · exact v_thr (text := "the limit is out of range") hC hM tw_IAE (by decide +kernel) (⟨by simp [k_addTest, gR, h_f, h_s, h_f2, h_s2, inR_neg c_17], rfl⟩) (by omega) (by omega) (Nat.le_of_ble_eq_true rfl) dX5_addTest_28 dX5_addTest_31 dX5_addTest_32 dX5_addTest_34 dX5_addTest_37
  · refine v_iload hC dX5_addTest_20 rfl ?_
    refine v_sipush (v := nI 198) hC dX5_addTest_22 (by decide) ?_
    refine v_icmp_le (tgt := 38) hC dX5_addTest_25 (by decide) (fun c_25 => ?_) (fun c_25 => ?_)
    · obtain ⟨v, h_v, rfl, b_v⟩ := inR_le (by decide) c_17 c_25
      refine v_aload_n hC dX5_addTest_38 rfl ?_
      refine gf_X5_51 hC dX5_addTest_39 hO ?_
      refine gf_X5_196 hC dX5_addTest_42 hO ?_
      refine v_bipush (v := nI 12) hC dX5_addTest_45 (by decide) ?_
      refine v_icmp_ltN (tgt := 60) hC dX5_addTest_47 (by decide) (by first | omega | exact hB _ _ _ _ rfl | exact hB.i _ _ _ _ rfl | exact Nat.lt_of_lt_of_le (Nat.add_lt_add (show _ < 100 from hB 15 _ _ _ rfl) (show _ < 100 from hB 15 _ _ _ rfl)) (by decide)) (by first | omega | exact hB _ _ _ _ rfl | exact hB.i _ _ _ _ rfl | exact Nat.lt_of_lt_of_le (Nat.add_lt_add (show _ < 100 from hB 15 _ _ _ rfl) (show _ < 100 from hB 15 _ _ _ rfl)) (by decide)) (fun c_47 => ?_) (fun c_47 => ?_)
      · refine v_aload_n hC dX5_addTest_60 rfl ?_
        refine gf_X5_42 hC dX5_addTest_61 hO ?_
        refine v_iload hC dX5_addTest_64 rfl ?_
        refine al_15 hC dX5_addTest_66 hO (by first | omega | exact hB _ _ _ _ rfl | exact hB.i _ _ _ _ rfl | exact Nat.lt_of_lt_of_le (Nat.add_lt_add (show _ < 100 from hB 15 _ _ _ rfl) (show _ < 100 from hB 15 _ _ _ rfl)) (by decide)) (by first | omega | exact hB _ _ _ _ rfl | exact hB.i _ _ _ _ rfl | exact Nat.lt_of_lt_of_le (Nat.add_lt_add (show _ < 100 from hB 15 _ _ _ rfl) (show _ < 100 from hB 15 _ _ _ rfl)) (by decide)) ?_
        refine v_aload_n hC dX5_addTest_67 rfl ?_
        refine gf_X5_42 hC dX5_addTest_68 hO ?_
        refine v_iload hC dX5_addTest_71 rfl ?_
        refine al_15 hC dX5_addTest_73 hO (by first | omega | exact hB _ _ _ _ rfl | exact hB.i _ _ _ _ rfl | exact Nat.lt_of_lt_of_le (Nat.add_lt_add (show _ < 100 from hB 15 _ _ _ rfl) (show _ < 100 from hB 15 _ _ _ rfl)) (by decide)) (by first | omega | exact hB _ _ _ _ rfl | exact hB.i _ _ _ _ rfl | exact Nat.lt_of_lt_of_le (Nat.add_lt_add (show _ < 100 from hB 15 _ _ _ rfl) (show _ < 100 from hB 15 _ _ _ rfl)) (by decide)) ?_
        refine v_iaddN hC dX5_addTest_74 ?_
        refine v_iload hC dX5_addTest_75 rfl ?_
        refine v_icmp_leN (tgt := 90) hC dX5_addTest_77 (by decide) (by first | omega | exact hB _ _ _ _ rfl | exact hB.i _ _ _ _ rfl | exact Nat.lt_of_lt_of_le (Nat.add_lt_add (show _ < 100 from hB 15 _ _ _ rfl) (show _ < 100 from hB 15 _ _ _ rfl)) (by decide)) (by first | omega | exact hB _ _ _ _ rfl | exact hB.i _ _ _ _ rfl | exact Nat.lt_of_lt_of_le (Nat.add_lt_add (show _ < 100 from hB 15 _ _ _ rfl) (show _ < 100 from hB 15 _ _ _ rfl)) (by decide)) (fun c_77 => ?_) (fun c_77 => ?_)
        · refine v_aload_n hC dX5_addTest_90 rfl ?_
          refine gf_X5_51 hC dX5_addTest_91 hO ?_
          refine v_iload hC dX5_addTest_94 rfl ?_
          refine v_iload hC dX5_addTest_96 rfl ?_
          refine v_iload hC dX5_addTest_98 rfl ?_
          refine v_callVN_r0 hC lk_X5_203 dX5_addTest_100 (c_X4_add hl0 hO hB (by omega) (by omega) (by omega) c_47) (by decide) (by decide) hO.k16 rfl rfl rfl rfl (Nat.le_of_ble_eq_true rfl) (by omega) (by omega) ?_
          refine v_iret hC hM dX5_addTest_103 (by omega) (by omega) ?_
          exact ⟨_, _, by simp [k_addTest, gR, h_f, h_s, h_f2, h_s2, h_v, Nat.not_le.mpr c_47, Nat.not_lt.mpr c_77], rfl, rfl⟩
        · exact v_thr (text := "the test does not pass on the trunk") hC hM tw_UOE (by decide +kernel) (⟨by simp [k_addTest, gR, h_f, h_s, h_f2, h_s2, h_v, Nat.not_le.mpr c_47, c_77], rfl⟩) (by omega) (by omega) (Nat.le_of_ble_eq_true rfl) dX5_addTest_80 dX5_addTest_83 dX5_addTest_84 dX5_addTest_86 dX5_addTest_89
      · exact v_thr (text := "12 tests were added") hC hM tw_ISE (by decide +kernel) (⟨by simp [k_addTest, gR, h_f, h_s, h_f2, h_s2, h_v, c_47], rfl⟩) (by omega) (by omega) (Nat.le_of_ble_eq_true rfl) dX5_addTest_50 dX5_addTest_53 dX5_addTest_54 dX5_addTest_56 dX5_addTest_59
    · exact v_thr (text := "the limit is out of range") hC hM tw_IAE (by decide +kernel) (⟨by simp [k_addTest, gR, h_f, h_s, h_f2, h_s2, show inR v 199 = none from inR_gt (by decide) c_25], rfl⟩) (by omega) (by omega) (Nat.le_of_ble_eq_true rfl) dX5_addTest_28 dX5_addTest_31 dX5_addTest_32 dX5_addTest_34 dX5_addTest_37

def k_dropTest (σ : SG) (t : Int32) : OC := gR t (σ 16 0 0 0) eNSE fun t => if σ 18 t 0 3 = 0 then .inl eNSE else .inr (lft (tdp σ t) (σ 16 0 0 0), tdp σ t)
set_option maxHeartbeats 4000000 in
set_option maxRecDepth 100000 in
theorem c_X5_dropTest {l : Launch} (hl0 : l.stackTraces = false) {G : GT} {ok : KF} {ad : AD} {σ : SG} (hO : OKC ok) (hB : BD σ) (t : Int32) : Ct l G 4 yX5_dropTest cX5_dropTest 2 (some .int) [.ref (ad 0 0 0), .int t] ok ad σ (oV (k_dropTest σ t) ok ad) (oX (k_dropTest σ t) ok ad σ) 4 24 := by
  refine Ct.mk (by decide +kernel) hl0 (Nat.le_of_ble_eq_true rfl) (fun X hX hC hM => ?_)
  subst hX
  have hs13 : σ 16 0 0 0 < 13 := hB 16 0 0 0 rfl
  refine v_iload_n hC dX5_dropTest_0 rfl ?_
  refine v_if_lt (tgt := 30) hC dX5_dropTest_1 (by decide) (fun c_1 => ?_) (fun c_1 => ?_)
  · exact v_thrY (text := "there is no such test, or it was dropped") hC hM tw_NSE (by decide +kernel) (⟨by simp [k_dropTest, gR, inR_neg c_1], rfl⟩) (by omega) (by omega) (Nat.le_of_ble_eq_true rfl) dX5_dropTest_30 dX5_dropTest_33 dX5_dropTest_34 dX5_dropTest_36 dX5_dropTest_39
  · refine v_iload_n hC dX5_dropTest_4 rfl ?_
    refine v_aload_n hC dX5_dropTest_5 rfl ?_
    refine gf_X5_51 hC dX5_dropTest_6 hO ?_
    refine gf_X5_196 hC dX5_dropTest_9 hO ?_
    refine v_icmp_ge (tgt := 30) hC dX5_dropTest_12 (by decide) (fun c_12 => ?_) (fun c_12 => ?_)
    · exact v_thrY (text := "there is no such test, or it was dropped") hC hM tw_NSE (by decide +kernel) (⟨by simp [k_dropTest, gR, inR_ge (show σ 16 0 0 0 < 2147483647 + 1 by omega) (Int32.not_lt.mpr c_12)], rfl⟩) (by omega) (by omega) (Nat.le_of_ble_eq_true rfl) dX5_dropTest_30 dX5_dropTest_33 dX5_dropTest_34 dX5_dropTest_36 dX5_dropTest_39
    · obtain ⟨t, h_t, rfl, b_t⟩ := inR_ok (by omega) c_1 (Int32.not_le.mp c_12)
      refine v_aload_n hC dX5_dropTest_15 rfl ?_
      refine gf_X5_51 hC dX5_dropTest_16 hO ?_
      refine gf_X5_206 hC dX5_dropTest_19 hO ?_
      refine v_iload_n hC dX5_dropTest_22 rfl ?_
      refine al_17 hC dX5_dropTest_23 hO (by first | omega | exact hB _ _ _ _ rfl | exact hB.i _ _ _ _ rfl | assumption | exact and_lt (hB _ _ _ _ rfl) | exact b2n_31 _) ?_
      refine gf_X5_210 hC dX5_dropTest_24 hO (by first | omega | exact hB _ _ _ _ rfl | exact hB.i _ _ _ _ rfl | assumption | exact and_lt (hB _ _ _ _ rfl) | exact b2n_31 _) ?_
      refine v_if_neN (tgt := 40) hC dX5_dropTest_27 (by decide) (by first | omega | exact hB _ _ _ _ rfl | exact hB.i _ _ _ _ rfl | assumption | exact and_lt (hB _ _ _ _ rfl) | exact b2n_31 _) (fun c_27 => ?_) (fun c_27 => ?_)
      · refine v_aload_n hC dX5_dropTest_40 rfl ?_
        refine gf_X5_51 hC dX5_dropTest_41 hO ?_
        refine v_iload_n hC dX5_dropTest_44 rfl ?_
        refine v_callVN_r0 hC lk_X5_217 dX5_dropTest_45 (c_X4_drop hl0 hO hB (by omega)) (by decide) (by decide) hO.k16 rfl rfl rfl rfl (Nat.le_of_ble_eq_true rfl) (by omega) (by omega) ?_
        refine v_iret hC hM dX5_dropTest_48 (by omega) (by omega) ?_
        exact ⟨_, _, by simp [k_dropTest, gR, h_t, c_27], rfl, rfl⟩
      · exact v_thrY (text := "there is no such test, or it was dropped") hC hM tw_NSE (by decide +kernel) (⟨by simp [k_dropTest, gR, h_t, c_27], rfl⟩) (by omega) (by omega) (Nat.le_of_ble_eq_true rfl) dX5_dropTest_30 dX5_dropTest_33 dX5_dropTest_34 dX5_dropTest_36 dX5_dropTest_39

