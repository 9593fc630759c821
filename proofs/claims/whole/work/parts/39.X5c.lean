def gR (x : Int32) (N : Nat) (E : String) (f : Nat → OC) : OC := match inR x N with
  | none => .inl E
  | some n => f n
theorem inR_le {x : Int32} {N : Nat} (hN : N < 2147483647) (h0 : ¬ x < 0) (h : x ≤ nI N) : ∃ n, inR x (N + 1) = some n ∧ x = nI n ∧ n < N + 1 := by
  refine inR_ok (by omega) h0 ?_
  have h2 := Int32.le_iff_toInt_le.mp h
  rw [nI_toInt (by omega)] at h2
  refine Int32.lt_iff_toInt_lt.mpr ?_
  rw [nI_toInt (by omega)]
  omega
theorem inR_gt {x : Int32} {N : Nat} (hN : N < 2147483647) (h : ¬ x ≤ nI N) : inR x (N + 1) = none := by
  refine inR_ge (by omega) (fun q => h ?_)
  have h2 := Int32.lt_iff_toInt_lt.mp q
  rw [nI_toInt (by omega)] at h2
  refine Int32.le_iff_toInt_le.mpr ?_
  rw [nI_toInt (by omega)]
  omega

def k_setOwner (σ : SG) (d o s : Int32) : OC := gR d 4 eIOB fun d => gR o 6 eIAE fun o => gR s 6 eIAE fun s => if o = s then .inl eIAE else .inr (σ 1 0 0 d, up (up σ 1 0 0 d o) 2 0 0 d s)
set_option maxHeartbeats 4000000 in
set_option maxRecDepth 100000 in
theorem c_X5_setOwner {l : Launch} (hl0 : l.stackTraces = false) {G : GT} {ok : KF} {ad : AD} {σ : SG} (hO : OKC ok) (hB : BD σ) (d : Int32) (o : Int32) (s : Int32) : Ct l G 4 yX5_setOwner cX5_setOwner 5 (some .int) [.ref (ad 0 0 0), .int d, .int o, .int s] ok ad σ (oV (k_setOwner σ d o s) ok ad) (oX (k_setOwner σ d o s) ok ad σ) 4 24 := by
  refine Ct.mk (by decide +kernel) hl0 (Nat.le_of_ble_eq_true rfl) (fun X hX hC hM => ?_)
  subst hX
  refine v_iload_n hC dX5_setOwner_0 rfl ?_
  refine v_callS hC lk_X5_56 dX5_setOwner_1 (c_X5_checkDirectory hl0 d) (by decide) (by decide) rfl rfl (Nat.le_of_ble_eq_true rfl) (by omega) (by omega) (fun v μ h => ?_) (fun E μ h => ?_)
  rotate_left
  · obtain ⟨rfl, rfl, he⟩ := h
    exact v_out hC hM (by omega) (by omega) ⟨by simp [k_setOwner, gR, he], rfl⟩
  obtain ⟨rfl, rfl, d, h_d, rfl, b_d⟩ := h
  dsimp only
  refine v_iload_n hC dX5_setOwner_4 rfl ?_
  refine v_callS hC lk_X5_60 dX5_setOwner_5 (c_X5_checkPerson hl0 o) (by decide) (by decide) rfl rfl (Nat.le_of_ble_eq_true rfl) (by omega) (by omega) (fun v μ h => ?_) (fun E μ h => ?_)
  rotate_left
  · obtain ⟨rfl, rfl, he⟩ := h
    exact v_out hC hM (by omega) (by omega) ⟨by simp [k_setOwner, gR, h_d, he], rfl⟩
  obtain ⟨rfl, rfl, o, h_o, rfl, b_o⟩ := h
  dsimp only
  refine v_iload_n hC dX5_setOwner_8 rfl ?_
  refine v_callS hC lk_X5_60 dX5_setOwner_9 (c_X5_checkPerson hl0 s) (by decide) (by decide) rfl rfl (Nat.le_of_ble_eq_true rfl) (by omega) (by omega) (fun v μ h => ?_) (fun E μ h => ?_)
  rotate_left
  · obtain ⟨rfl, rfl, he⟩ := h
    exact v_out hC hM (by omega) (by omega) ⟨by simp [k_setOwner, gR, h_d, h_o, he], rfl⟩
  obtain ⟨rfl, rfl, s, h_s, rfl, b_s⟩ := h
  dsimp only
  refine v_iload_n hC dX5_setOwner_12 rfl ?_
  refine v_iload_n hC dX5_setOwner_13 rfl ?_
  refine v_icmp_neN (tgt := 27) hC dX5_setOwner_14 (by decide) (by first | omega | exact hB _ _ _ _ rfl | exact hB.i _ _ _ _ rfl | assumption | exact and_lt (hB _ _ _ _ rfl) | exact b2n_31 _) (by first | omega | exact hB _ _ _ _ rfl | exact hB.i _ _ _ _ rfl | assumption | exact and_lt (hB _ _ _ _ rfl) | exact b2n_31 _) (fun c_14 => ?_) (fun c_14 => ?_)
  · refine v_aload_n hC dX5_setOwner_27 rfl ?_
    refine gf_X5_9 hC dX5_setOwner_28 hO ?_
    refine v_iload_n hC dX5_setOwner_31 rfl ?_
    refine al_1 hC dX5_setOwner_32 hO (by first | omega | exact hB _ _ _ _ rfl | exact hB.i _ _ _ _ rfl | assumption | exact and_lt (hB _ _ _ _ rfl) | exact b2n_31 _) ?_
    refine v_istore hC dX5_setOwner_33 (by decide) ?_
    refine v_aload_n hC dX5_setOwner_35 rfl ?_
    refine gf_X5_9 hC dX5_setOwner_36 hO ?_
    refine v_iload_n hC dX5_setOwner_39 rfl ?_
    refine v_iload_n hC dX5_setOwner_40 rfl ?_
    refine as_1 hC dX5_setOwner_41 hO (by first | omega | exact hB _ _ _ _ rfl | exact hB.i _ _ _ _ rfl | assumption | exact and_lt (hB _ _ _ _ rfl) | exact b2n_31 _) ?_
    refine v_aload_n hC dX5_setOwner_42 rfl ?_
    refine gf_X5_13 hC dX5_setOwner_43 hO ?_
    refine v_iload_n hC dX5_setOwner_46 rfl ?_
    refine v_iload_n hC dX5_setOwner_47 rfl ?_
    refine as_2 hC dX5_setOwner_48 hO (by first | omega | exact hB _ _ _ _ rfl | exact hB.i _ _ _ _ rfl | assumption | exact and_lt (hB _ _ _ _ rfl) | exact b2n_31 _) ?_
    refine v_iload hC dX5_setOwner_49 rfl ?_
    refine v_iret hC hM dX5_setOwner_51 (by omega) (by omega) ?_
    exact ⟨_, _, by simp [k_setOwner, gR, h_d, h_o, h_s, c_14], rfl, rfl⟩
  · exact v_thr (text := "the owner and the stand-in are the same person") hC hM tw_IAE (by decide +kernel) (⟨by simp [k_setOwner, gR, h_d, h_o, h_s, c_14], rfl⟩) (by omega) (by omega) (Nat.le_of_ble_eq_true rfl) dX5_setOwner_17 dX5_setOwner_20 dX5_setOwner_21 dX5_setOwner_23 dX5_setOwner_26

def k_setAway (σ : SG) (p : Int32) (b : Nat) : OC := gR p 6 eIAE fun p => .inr (σ 4 0 0 p, up σ 4 0 0 p b)
set_option maxHeartbeats 4000000 in
set_option maxRecDepth 100000 in
theorem c_X5_setAway {l : Launch} (hl0 : l.stackTraces = false) {G : GT} {ok : KF} {ad : AD} {σ : SG} (hO : OKC ok) (hB : BD σ) (p : Int32) {b : Nat} (hb : b < 2) : Ct l G 4 yX5_setAway cX5_setAway 4 (some .boolean) [.ref (ad 0 0 0), .int p, iv b] ok ad σ (oV (k_setAway σ p b) ok ad) (oX (k_setAway σ p b) ok ad σ) 4 24 := by
  refine Ct.mk (by decide +kernel) hl0 (Nat.le_of_ble_eq_true rfl) (fun X hX hC hM => ?_)
  subst hX
  refine v_iload_n hC dX5_setAway_0 rfl ?_
  refine v_callS hC lk_X5_60 dX5_setAway_1 (c_X5_checkPerson hl0 p) (by decide) (by decide) rfl rfl (Nat.le_of_ble_eq_true rfl) (by omega) (by omega) (fun v μ h => ?_) (fun E μ h => ?_)
  rotate_left
  · obtain ⟨rfl, rfl, he⟩ := h
    exact v_out hC hM (by omega) (by omega) ⟨by simp [k_setAway, gR, he], rfl⟩
  obtain ⟨rfl, rfl, p, h_p, rfl, b_p⟩ := h
  dsimp only
  refine v_aload_n hC dX5_setAway_4 rfl ?_
  refine gf_X5_20 hC dX5_setAway_5 hO ?_
  refine v_iload_n hC dX5_setAway_8 rfl ?_
  refine al_4 hC dX5_setAway_9 hO (by first | omega | exact hB _ _ _ _ rfl | exact hB.i _ _ _ _ rfl | assumption | exact and_lt (hB _ _ _ _ rfl) | exact b2n_31 _) ?_
  refine v_istore_n hC dX5_setAway_10 (by decide) ?_
  refine v_aload_n hC dX5_setAway_11 rfl ?_
  refine gf_X5_20 hC dX5_setAway_12 hO ?_
  refine v_iload_n hC dX5_setAway_15 rfl ?_
  refine v_iload_n hC dX5_setAway_16 rfl ?_
  refine as_4 hC dX5_setAway_17 hO (by first | omega | exact hB _ _ _ _ rfl | exact hB.i _ _ _ _ rfl | assumption | exact and_lt (hB _ _ _ _ rfl) | exact b2n_31 _) (by first | omega | exact hB _ _ _ _ rfl | exact hB.i _ _ _ _ rfl | assumption | exact and_lt (hB _ _ _ _ rfl) | exact b2n_31 _) ?_
  refine v_iload_n hC dX5_setAway_18 rfl ?_
  refine v_zret hC hM dX5_setAway_19 (nar_z (hB 4 0 0 _ rfl)) (by omega) (by omega) ?_
  exact ⟨_, _, by simp [k_setAway, gR, h_p], rfl, rfl⟩

def k_setFrozen (σ : SG) (d : Int32) (b : Nat) : OC := gR d 4 eIOB fun d => .inr (σ 3 0 0 d, up σ 3 0 0 d b)
set_option maxHeartbeats 4000000 in
set_option maxRecDepth 100000 in
theorem c_X5_setFrozen {l : Launch} (hl0 : l.stackTraces = false) {G : GT} {ok : KF} {ad : AD} {σ : SG} (hO : OKC ok) (hB : BD σ) (d : Int32) {b : Nat} (hb : b < 2) : Ct l G 4 yX5_setFrozen cX5_setFrozen 4 (some .boolean) [.ref (ad 0 0 0), .int d, iv b] ok ad σ (oV (k_setFrozen σ d b) ok ad) (oX (k_setFrozen σ d b) ok ad σ) 4 24 := by
  refine Ct.mk (by decide +kernel) hl0 (Nat.le_of_ble_eq_true rfl) (fun X hX hC hM => ?_)
  subst hX
  refine v_iload_n hC dX5_setFrozen_0 rfl ?_
  refine v_callS hC lk_X5_56 dX5_setFrozen_1 (c_X5_checkDirectory hl0 d) (by decide) (by decide) rfl rfl (Nat.le_of_ble_eq_true rfl) (by omega) (by omega) (fun v μ h => ?_) (fun E μ h => ?_)
  rotate_left
  · obtain ⟨rfl, rfl, he⟩ := h
    exact v_out hC hM (by omega) (by omega) ⟨by simp [k_setFrozen, gR, he], rfl⟩
  obtain ⟨rfl, rfl, d, h_d, rfl, b_d⟩ := h
  dsimp only
  refine v_aload_n hC dX5_setFrozen_4 rfl ?_
  refine gf_X5_16 hC dX5_setFrozen_5 hO ?_
  refine v_iload_n hC dX5_setFrozen_8 rfl ?_
  refine al_3 hC dX5_setFrozen_9 hO (by first | omega | exact hB _ _ _ _ rfl | exact hB.i _ _ _ _ rfl | assumption | exact and_lt (hB _ _ _ _ rfl) | exact b2n_31 _) ?_
  refine v_istore_n hC dX5_setFrozen_10 (by decide) ?_
  refine v_aload_n hC dX5_setFrozen_11 rfl ?_
  refine gf_X5_16 hC dX5_setFrozen_12 hO ?_
  refine v_iload_n hC dX5_setFrozen_15 rfl ?_
  refine v_iload_n hC dX5_setFrozen_16 rfl ?_
  refine as_3 hC dX5_setFrozen_17 hO (by first | omega | exact hB _ _ _ _ rfl | exact hB.i _ _ _ _ rfl | assumption | exact and_lt (hB _ _ _ _ rfl) | exact b2n_31 _) (by first | omega | exact hB _ _ _ _ rfl | exact hB.i _ _ _ _ rfl | assumption | exact and_lt (hB _ _ _ _ rfl) | exact b2n_31 _) ?_
  refine v_iload_n hC dX5_setFrozen_18 rfl ?_
  refine v_zret hC hM dX5_setFrozen_19 (nar_z (hB 3 0 0 _ rfl)) (by omega) (by omega) ?_
  exact ⟨_, _, by simp [k_setFrozen, gR, h_d], rfl, rfl⟩

def k_open (σ : SG) (a : Int32) : OC := gR a 6 eIAE fun a => if 16 ≤ σ 0 0 0 0 then .inl eISE else .inr (σ 0 0 0 0, up (up σ 6 (σ 0 0 0 0) 0 0 a) 0 0 0 0 (σ 0 0 0 0 + 1))
set_option maxHeartbeats 4000000 in
set_option maxRecDepth 100000 in
theorem c_X5_open {l : Launch} (hl0 : l.stackTraces = false) {G : GT} {ok : KF} {ad : AD} {σ : SG} (hO : OKC ok) (hB : BD σ) (a : Int32) : Ct l G 4 yX5_open cX5_open 3 (some .int) [.ref (ad 0 0 0), .int a] ok ad σ (oV (k_open σ a) ok ad) (oX (k_open σ a) ok ad σ) 4 24 := by
  refine Ct.mk (by decide +kernel) hl0 (Nat.le_of_ble_eq_true rfl) (fun X hX hC hM => ?_)
  subst hX
  have hs17 : σ 0 0 0 0 < 17 := hB 0 0 0 0 rfl
  refine v_iload_n hC dX5_open_0 rfl ?_
  refine v_callS hC lk_X5_60 dX5_open_1 (c_X5_checkPerson hl0 a) (by decide) (by decide) rfl rfl (Nat.le_of_ble_eq_true rfl) (by omega) (by omega) (fun v μ h => ?_) (fun E μ h => ?_)
  rotate_left
  · obtain ⟨rfl, rfl, he⟩ := h
    exact v_out hC hM (by omega) (by omega) ⟨by simp [k_open, gR, he], rfl⟩
  obtain ⟨rfl, rfl, a, h_a, rfl, b_a⟩ := h
  dsimp only
  refine v_aload_n hC dX5_open_4 rfl ?_
  refine gf_X5_70 hC dX5_open_5 hO ?_
  refine v_bipush (v := nI 16) hC dX5_open_8 (by decide) ?_
  refine v_icmp_ltN (tgt := 23) hC dX5_open_10 (by decide) (by first | omega | exact hB _ _ _ _ rfl | exact hB.i _ _ _ _ rfl | assumption | exact and_lt (hB _ _ _ _ rfl) | exact b2n_31 _) (by first | omega | exact hB _ _ _ _ rfl | exact hB.i _ _ _ _ rfl | assumption | exact and_lt (hB _ _ _ _ rfl) | exact b2n_31 _) (fun c_10 => ?_) (fun c_10 => ?_)
  · refine v_aload_n hC dX5_open_23 rfl ?_
    refine gf_X5_70 hC dX5_open_24 hO ?_
    refine v_istore_n hC dX5_open_27 (by decide) ?_
    refine v_aload_n hC dX5_open_28 rfl ?_
    refine gf_X5_25 hC dX5_open_29 hO ?_
    refine v_iload_n hC dX5_open_32 rfl ?_
    refine al_5 hC dX5_open_33 hO (by first | omega | exact hB _ _ _ _ rfl | exact hB.i _ _ _ _ rfl | assumption | exact and_lt (hB _ _ _ _ rfl) | exact b2n_31 _) ?_
    refine v_iload_n hC dX5_open_34 rfl ?_
    refine pf_X5_79 hC dX5_open_35 hO (by first | omega | exact hB _ _ _ _ rfl | exact hB.i _ _ _ _ rfl | assumption | exact and_lt (hB _ _ _ _ rfl) | exact b2n_31 _) ?_
    refine v_aload_n hC dX5_open_38 rfl ?_
    refine v_dup hC dX5_open_39 rfl ?_
    refine gf_X5_70 hC dX5_open_40 hO ?_
    refine v_iconst (v := nI 1) hC dX5_open_43 (by decide) ?_
    refine v_iaddN hC dX5_open_44 ?_
    rw [show up σ 6 (σ 0 0 0 0) 0 0 a 0 0 0 0 = σ 0 0 0 0 from rfl]
    refine pf_X5_70 hC dX5_open_45 hO ?_
    refine v_iload_n hC dX5_open_48 rfl ?_
    refine v_iret hC hM dX5_open_49 (by omega) (by omega) ?_
    exact ⟨_, _, by simp [k_open, gR, h_a, Nat.not_le.mpr c_10], rfl, rfl⟩
  · exact v_thr (text := "there are 16 changes") hC hM tw_ISE (by decide +kernel) (⟨by simp [k_open, gR, h_a, c_10], rfl⟩) (by omega) (by omega) (Nat.le_of_ble_eq_true rfl) dX5_open_13 dX5_open_16 dX5_open_17 dX5_open_19 dX5_open_22

def k_close (σ : SG) (c : Int32) : OC := gR c (σ 0 0 0 0) eNSE fun c => if σ 6 c 0 1 ≠ 111 then .inl eISE else .inr (pop (σ 6 c 0 3), up σ 6 c 0 1 120)
set_option maxHeartbeats 4000000 in
set_option maxRecDepth 100000 in
theorem c_X5_close {l : Launch} (hl0 : l.stackTraces = false) {G : GT} {ok : KF} {ad : AD} {σ : SG} (hO : OKC ok) (hB : BD σ) (c : Int32) : Ct l G 4 yX5_close cX5_close 3 (some .int) [.ref (ad 0 0 0), .int c] ok ad σ (oV (k_close σ c) ok ad) (oX (k_close σ c) ok ad σ) 4 24 := by
  refine Ct.mk (by decide +kernel) hl0 (Nat.le_of_ble_eq_true rfl) (fun X hX hC hM => ?_)
  subst hX
  refine v_aload_n hC dX5_close_0 rfl ?_
  refine v_iload_n hC dX5_close_1 rfl ?_
  refine v_callV hC lk_X5_82 dX5_close_2 (c_X5_changeOf hl0 hO hB c) (by decide) (by decide) hO.k0 rfl rfl rfl rfl (Nat.le_of_ble_eq_true rfl) (by omega) (by omega) (fun v μ h => ?_) (fun E μ h => ?_)
  rotate_left
  · obtain ⟨rfl, rfl, he⟩ := h
    exact v_out hC hM (by omega) (by omega) ⟨by simp [k_close, gR, he], rfl⟩
  obtain ⟨rfl, c, h_c, rfl, b_c, b2_c, rfl⟩ := h
  dsimp only
  refine v_astore_n hC dX5_close_5 (by decide) ?_
  refine v_aload_n hC dX5_close_6 rfl ?_
  refine v_callS hC lk_X5_92 dX5_close_7 (c_X5_checkOpen hl0 hO hB b2_c) (by decide) (by decide) rfl rfl (Nat.le_of_ble_eq_true rfl) (by omega) (by omega) (fun v μ h => ?_) (fun E μ h => ?_)
  rotate_left
  · obtain ⟨rfl, rfl, he⟩ := h
    exact v_out hC hM (by omega) (by omega) ⟨by simp [k_close, gR, h_c, he], rfl⟩
  obtain ⟨rfl, rfl, hop⟩ := h
  dsimp only
  refine v_aload_n hC dX5_close_10 rfl ?_
  refine v_bipush (v := nI 120) hC dX5_close_11 (by decide) ?_
  refine pf_X5_113 hC dX5_close_13 hO (by first | omega | exact hB _ _ _ _ rfl | exact hB.i _ _ _ _ rfl | assumption | exact and_lt (hB _ _ _ _ rfl) | exact b2n_31 _) (by first | omega | exact hB _ _ _ _ rfl | exact hB.i _ _ _ _ rfl | assumption | exact and_lt (hB _ _ _ _ rfl) | exact b2n_31 _) ?_
  refine v_aload_n hC dX5_close_16 rfl ?_
  refine v_callVN_r0 hC lk_X5_100 dX5_close_17 (c_X1_editCount hl0 hO (BD.put hB (by decide)) b2_c) (by decide) (by decide) (hO.k6 b2_c) rfl rfl rfl rfl (Nat.le_of_ble_eq_true rfl) (by omega) (by omega) ?_
  rw [show up σ 6 c 0 1 120 6 c 0 3 = σ 6 c 0 3 from up_x (by decide)]
  refine v_iret hC hM dX5_close_20 (by omega) (by omega) ?_
  exact ⟨_, _, by simp [k_close, gR, h_c, hop], rfl, rfl⟩

def pe (σ : SG) (c p v : Nat) : SG := up (up σ 6 c 0 3 (σ 6 c 0 3 ||| 1 * 2 ^ p)) 7 c 0 p v
theorem pe_BD {σ : SG} (h : BD σ) {c p v : Nat} (hp : p < 64) (hv : v < 100) : BD (pe σ c p v) := BD.put (BD.put h (show _ < 2 ^ 64 from Nat.or_lt_two_pow (h 6 c 0 3 rfl) (p2_lt hp))) hv
def k_edit (σ : SG) (c f s v : Int32) : OC := gR c (σ 0 0 0 0) eNSE fun c => gR f 16 eIOB fun f => gR s 4 eIOB fun s => gR v 100 eIAE fun v => if σ 6 c 0 1 ≠ 111 then .inl eISE else .inr (pop (pe σ c (f * 4 + s) v 6 c 0 3), pe σ c (f * 4 + s) v)
set_option maxHeartbeats 4000000 in
set_option maxRecDepth 100000 in
theorem c_X5_edit {l : Launch} (hl0 : l.stackTraces = false) {G : GT} {ok : KF} {ad : AD} {σ : SG} (hO : OKC ok) (hB : BD σ) (c : Int32) (f : Int32) (s : Int32) (v : Int32) : Ct l G 4 yX5_edit cX5_edit 7 (some .int) [.ref (ad 0 0 0), .int c, .int f, .int s, .int v] ok ad σ (oV (k_edit σ c f s v) ok ad) (oX (k_edit σ c f s v) ok ad σ) 4 24 := by
  refine Ct.mk (by decide +kernel) hl0 (Nat.le_of_ble_eq_true rfl) (fun X hX hC hM => ?_)
  subst hX
  refine v_aload_n hC dX5_edit_0 rfl ?_
  refine v_iload_n hC dX5_edit_1 rfl ?_
  refine v_callV hC lk_X5_82 dX5_edit_2 (c_X5_changeOf hl0 hO hB c) (by decide) (by decide) hO.k0 rfl rfl rfl rfl (Nat.le_of_ble_eq_true rfl) (by omega) (by omega) (fun v μ h => ?_) (fun E μ h => ?_)
  rotate_left
  · obtain ⟨rfl, rfl, he⟩ := h
    exact v_out hC hM (by omega) (by omega) ⟨by simp [k_edit, gR, he], rfl⟩
  obtain ⟨rfl, c, h_c, rfl, b_c, b2_c, rfl⟩ := h
  dsimp only
  refine v_astore hC dX5_edit_5 (by decide) ?_
  refine v_iload_n hC dX5_edit_7 rfl ?_
  refine v_iload_n hC dX5_edit_8 rfl ?_
  refine v_callS hC lk_X5_86 dX5_edit_9 (c_X5_placeOf hl0 f s) (by decide) (by decide) rfl rfl (Nat.le_of_ble_eq_true rfl) (by omega) (by omega) (fun v μ h => ?_) (fun E μ h => ?_)
  rotate_left
  · obtain ⟨rfl, rfl, he⟩ := h
    refine v_out hC hM (by omega) (by omega) ⟨?_, rfl⟩
    rcases he with he | he
    · simp [k_edit, gR, h_c, he]
    · cases hx : inR f 16 <;> simp [k_edit, gR, h_c, he, hx]
  obtain ⟨rfl, f, s, h_f, h_s, rfl, rfl, b_f, b_s, rfl⟩ := h
  dsimp only
  refine v_istore hC dX5_edit_12 (by decide) ?_
  refine v_iload hC dX5_edit_14 rfl ?_
  refine v_if_lt (tgt := 26) hC dX5_edit_16 (by decide) (fun c_16 => ?_) (fun c_16 => ?_)
  · exact v_thr (text := "the value is out of range") hC hM tw_IAE (by decide +kernel) (⟨by simp [k_edit, gR, h_c, h_f, h_s, inR_neg c_16], rfl⟩) (by omega) (by omega) (Nat.le_of_ble_eq_true rfl) dX5_edit_26 dX5_edit_29 dX5_edit_30 dX5_edit_32 dX5_edit_35
  · refine v_iload hC dX5_edit_19 rfl ?_
    refine v_bipush (v := nI 99) hC dX5_edit_21 (by decide) ?_
    refine v_icmp_le (tgt := 36) hC dX5_edit_23 (by decide) (fun c_23 => ?_) (fun c_23 => ?_)
    · obtain ⟨v, h_v, rfl, b_v⟩ := inR_le (by decide) c_16 c_23
      refine v_aload hC dX5_edit_36 rfl ?_
      refine v_callS hC lk_X5_92 dX5_edit_38 (c_X5_checkOpen hl0 hO hB b2_c) (by decide) (by decide) rfl rfl (Nat.le_of_ble_eq_true rfl) (by omega) (by omega) (fun v μ h => ?_) (fun E μ h => ?_)
      rotate_left
      · obtain ⟨rfl, rfl, he⟩ := h
        exact v_out hC hM (by omega) (by omega) ⟨by simp [k_edit, gR, h_c, h_f, h_s, h_v, he], rfl⟩
      obtain ⟨rfl, rfl, hop⟩ := h
      dsimp only
      refine v_aload hC dX5_edit_41 rfl ?_
      refine v_iload hC dX5_edit_43 rfl ?_
      refine v_iload hC dX5_edit_45 rfl ?_
      refine v_callVN_v0 hC lk_X5_96 dX5_edit_47 (c_X1_putEdit hl0 hO hB b2_c (by omega)) (by decide) (by decide) (hO.k6 b2_c) rfl rfl rfl rfl (Nat.le_of_ble_eq_true rfl) (by omega) (by omega) ?_
      refine v_sg (σ1 := pe σ c (f * 4 + s) v) (fun _ _ _ _ => rfl) ?_
      refine v_aload hC dX5_edit_50 rfl ?_
      refine v_callVN_r0 hC lk_X5_100 dX5_edit_52 (c_X1_editCount hl0 hO (pe_BD hB (by omega) b_v) b2_c) (by decide) (by decide) (hO.k6 b2_c) rfl rfl rfl rfl (Nat.le_of_ble_eq_true rfl) (by omega) (by omega) ?_
      refine v_iret hC hM dX5_edit_55 (by omega) (by omega) ?_
      exact ⟨_, _, by simp [k_edit, gR, h_c, h_f, h_s, h_v, hop], rfl, rfl⟩
    · exact v_thr (text := "the value is out of range") hC hM tw_IAE (by decide +kernel) (⟨by simp [k_edit, gR, h_c, h_f, h_s, show inR v 100 = none from inR_gt (by decide) c_23], rfl⟩) (by omega) (by omega) (Nat.le_of_ble_eq_true rfl) dX5_edit_26 dX5_edit_29 dX5_edit_30 dX5_edit_32 dX5_edit_35

