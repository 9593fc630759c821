def tk (σ : SG) (c p : Nat) : SG := up (up σ 6 c 0 3 (clr (σ 6 c 0 3) (1 * 2 ^ p))) 6 c 0 4 (clr (σ 6 c 0 4) (1 * 2 ^ p))
theorem tk_BD {σ : SG} (h : BD σ) {c p : Nat} : BD (tk σ c p) := BD.put (BD.put h (show _ < 2 ^ 64 from clr_lt (h 6 c 0 3 rfl))) (show _ < 2 ^ 64 from clr_lt (h 6 c 0 4 rfl))
def k_take (σ : SG) (c f s : Int32) : OC := gR c (σ 0 0 0 0) eNSE fun c => gR f 16 eIOB fun f => gR s 4 eIOB fun s => if σ 6 c 0 1 ≠ 111 then .inl eISE else if (σ 6 c 0 3).testBit (f * 4 + s) = false then .inl eISE else .inr (pop (tk σ c (f * 4 + s) 6 c 0 3), tk σ c (f * 4 + s))
set_option maxHeartbeats 4000000 in
set_option maxRecDepth 100000 in
theorem c_X5_take {l : Launch} (hl0 : l.stackTraces = false) {G : GT} {ok : KF} {ad : AD} {σ : SG} (hO : OKC ok) (hB : BD σ) (c : Int32) (f : Int32) (s : Int32) : Ct l G 4 yX5_take cX5_take 6 (some .int) [.ref (ad 0 0 0), .int c, .int f, .int s] ok ad σ (oV (k_take σ c f s) ok ad) (oX (k_take σ c f s) ok ad σ) 4 24 := by
  refine Ct.mk (by decide +kernel) hl0 (Nat.le_of_ble_eq_true rfl) (fun X hX hC hM => ?_)
  subst hX
  refine v_aload_n hC dX5_take_0 rfl ?_
  refine v_iload_n hC dX5_take_1 rfl ?_
  refine v_callV hC lk_X5_82 dX5_take_2 (c_X5_changeOf hl0 hO hB c) (by decide) (by decide) hO.k0 rfl rfl rfl rfl (Nat.le_of_ble_eq_true rfl) (by omega) (by omega) (fun v μ h => ?_) (fun E μ h => ?_)
  rotate_left
  · obtain ⟨rfl, rfl, he⟩ := h
    exact v_out hC hM (by omega) (by omega) ⟨by simp [k_take, gR, he], rfl⟩
  obtain ⟨rfl, c, h_c, rfl, b_c, b2_c, rfl⟩ := h
  dsimp only
  refine v_astore hC dX5_take_5 (by decide) ?_
  refine v_iload_n hC dX5_take_7 rfl ?_
  refine v_iload_n hC dX5_take_8 rfl ?_
  refine v_callS hC lk_X5_86 dX5_take_9 (c_X5_placeOf hl0 f s) (by decide) (by decide) rfl rfl (Nat.le_of_ble_eq_true rfl) (by omega) (by omega) (fun v μ h => ?_) (fun E μ h => ?_)
  rotate_left
  · obtain ⟨rfl, rfl, he⟩ := h
    refine v_out hC hM (by omega) (by omega) ⟨?_, rfl⟩
    rcases he with he | he
    · simp [k_take, gR, h_c, he]
    · cases hx : inR f 16 <;> simp [k_take, gR, h_c, he, hx]
  obtain ⟨rfl, f, s, h_f, h_s, rfl, rfl, b_f, b_s, rfl⟩ := h
  dsimp only
  refine v_istore hC dX5_take_12 (by decide) ?_
  refine v_aload hC dX5_take_14 rfl ?_
  refine v_callS hC lk_X5_92 dX5_take_16 (c_X5_checkOpen hl0 hO hB b2_c) (by decide) (by decide) rfl rfl (Nat.le_of_ble_eq_true rfl) (by omega) (by omega) (fun v μ h => ?_) (fun E μ h => ?_)
  rotate_left
  · obtain ⟨rfl, rfl, he⟩ := h
    exact v_out hC hM (by omega) (by omega) ⟨by simp [k_take, gR, h_c, h_f, h_s, he], rfl⟩
  obtain ⟨rfl, rfl, hop⟩ := h
  dsimp only
  refine v_aload hC dX5_take_19 rfl ?_
  refine v_iload hC dX5_take_21 rfl ?_
  refine v_callVN_r0 hC lk_X5_104 dX5_take_23 (c_X1_hasEdit hl0 hO hB b2_c (by omega)) (by decide) (by decide) (hO.k6 b2_c) rfl rfl rfl rfl (Nat.le_of_ble_eq_true rfl) (by omega) (by omega) ?_
  refine v_if_neN (tgt := 39) hC dX5_take_26 (by decide) (by first | omega | exact hB _ _ _ _ rfl | exact hB.i _ _ _ _ rfl | assumption | exact and_lt (hB _ _ _ _ rfl) | exact b2n_31 _) (fun c_26 => ?_) (fun c_26 => ?_)
  · refine v_aload hC dX5_take_39 rfl ?_
    refine v_iload hC dX5_take_41 rfl ?_
    refine v_callVN_v0 hC lk_X5_110 dX5_take_43 (c_X1_removeEdit hl0 hO hB b2_c (by omega)) (by decide) (by decide) (hO.k6 b2_c) rfl rfl rfl rfl (Nat.le_of_ble_eq_true rfl) (by omega) (by omega) ?_
    refine v_sg (σ1 := tk σ c (f * 4 + s)) (fun _ _ _ _ => rfl) ?_
    refine v_aload hC dX5_take_46 rfl ?_
    refine v_callVN_r0 hC lk_X5_100 dX5_take_48 (c_X1_editCount hl0 hO (tk_BD hB) b2_c) (by decide) (by decide) (hO.k6 b2_c) rfl rfl rfl rfl (Nat.le_of_ble_eq_true rfl) (by omega) (by omega) ?_
    refine v_iret hC hM dX5_take_51 (by omega) (by omega) ?_
    exact ⟨_, _, by simp [k_take, gR, h_c, h_f, h_s, hop, b2n_1 c_26], rfl, rfl⟩
  · exact v_thr (text := "the change has no edit of the span") hC hM tw_ISE (by decide +kernel) (⟨by simp [k_take, gR, h_c, h_f, h_s, hop, b2n_0 c_26], rfl⟩) (by omega) (by omega) (Nat.le_of_ble_eq_true rfl) dX5_take_29 dX5_take_32 dX5_take_33 dX5_take_35 dX5_take_38

def vF (σ : SG) (c p : Nat) : SG := upr (up (up σ 8 c 0 p 1) 9 c 0 p (σ 6 c 0 3)) 11 c p (fun x => if x < 64 then σ 7 c 0 x else σ 11 c p x)
theorem vF_BD {σ : SG} (h : BD σ) {c p : Nat} : BD (vF σ c p) := by
  unfold vF
  refine BD.putr (BD.put (BD.put h (by show 1 < 3; decide)) (by show _ < bnd 9 p; exact h 6 c 0 3 rfl)) (fun x _ => ?_)
  split
  · exact h 7 c 0 x rfl
  · exact h 11 c p x rfl
def vA (σ : SG) (c p : Nat) : SG := up (up σ 8 c 0 p 2) 9 c 0 p 0
theorem vA_BD {σ : SG} (h : BD σ) {c p : Nat} : BD (vA σ c p) := by
  unfold vA
  exact BD.put (BD.put h (by show 2 < 3; decide)) (by show 0 < 18446744073709551616; decide)
def k_vote (σ : SG) (c p : Int32) (b : Nat) : OC := gR c (σ 0 0 0 0) eNSE fun c => gR p 6 eIAE fun p => if p = σ 6 c 0 0 then .inl eIAE else if σ 6 c 0 1 ≠ 111 then .inl eISE else if b = 0 then .inr (0, vA σ c p) else .inr (pop (σ 6 c 0 3), vF σ c p)
set_option maxHeartbeats 4000000 in
set_option maxRecDepth 100000 in
theorem c_X5_vote {l : Launch} (hl0 : l.stackTraces = false) {G : GT} {ok : KF} {ad : AD} {σ : SG} (hO : OKC ok) (hB : BD σ) (c : Int32) (p : Int32) {b : Nat} (hb : b < 2) : Ct l G 4 yX5_vote cX5_vote 5 (some .int) [.ref (ad 0 0 0), .int c, .int p, iv b] ok ad σ (oV (k_vote σ c p b) ok ad) (oX (k_vote σ c p b) ok ad σ) 4 24 := by
  refine Ct.mk (by decide +kernel) hl0 (Nat.le_of_ble_eq_true rfl) (fun X hX hC hM => ?_)
  subst hX
  refine v_aload_n hC dX5_vote_0 rfl ?_
  refine v_iload_n hC dX5_vote_1 rfl ?_
  refine v_callV hC lk_X5_82 dX5_vote_2 (c_X5_changeOf hl0 hO hB c) (by decide) (by decide) hO.k0 rfl rfl rfl rfl (Nat.le_of_ble_eq_true rfl) (by omega) (by omega) (fun v μ h => ?_) (fun E μ h => ?_)
  rotate_left
  · obtain ⟨rfl, rfl, he⟩ := h
    exact v_out hC hM (by omega) (by omega) ⟨by simp [k_vote, gR, he], rfl⟩
  obtain ⟨rfl, c, h_c, rfl, b_c, b2_c, rfl⟩ := h
  dsimp only
  refine v_astore hC dX5_vote_5 (by decide) ?_
  refine v_iload_n hC dX5_vote_7 rfl ?_
  refine v_callS hC lk_X5_60 dX5_vote_8 (c_X5_checkPerson hl0 p) (by decide) (by decide) rfl rfl (Nat.le_of_ble_eq_true rfl) (by omega) (by omega) (fun v μ h => ?_) (fun E μ h => ?_)
  rotate_left
  · obtain ⟨rfl, rfl, he⟩ := h
    exact v_out hC hM (by omega) (by omega) ⟨by simp [k_vote, gR, h_c, he], rfl⟩
  obtain ⟨rfl, rfl, p, h_p, rfl, b_p⟩ := h
  dsimp only
  refine v_iload_n hC dX5_vote_11 rfl ?_
  refine v_aload hC dX5_vote_12 rfl ?_
  refine gf_X5_79 hC dX5_vote_14 hO (by first | omega | exact hB _ _ _ _ rfl | exact hB.i _ _ _ _ rfl | assumption | exact b2n_31 _) ?_
  refine v_icmp_neN (tgt := 30) hC dX5_vote_17 (by decide) (by first | omega | exact hB _ _ _ _ rfl | exact hB.i _ _ _ _ rfl | assumption | exact b2n_31 _) (by first | omega | exact hB _ _ _ _ rfl | exact hB.i _ _ _ _ rfl | assumption | exact b2n_31 _) (fun c_17 => ?_) (fun c_17 => ?_)
  · refine v_aload hC dX5_vote_30 rfl ?_
    refine v_callS hC lk_X5_92 dX5_vote_32 (c_X5_checkOpen hl0 hO hB b2_c) (by decide) (by decide) rfl rfl (Nat.le_of_ble_eq_true rfl) (by omega) (by omega) (fun v μ h => ?_) (fun E μ h => ?_)
    rotate_left
    · obtain ⟨rfl, rfl, he⟩ := h
      exact v_out hC hM (by omega) (by omega) ⟨by simp [k_vote, gR, h_c, h_p, c_17, he], rfl⟩
    obtain ⟨rfl, rfl, hop⟩ := h
    dsimp only
    refine v_iload_n hC dX5_vote_35 rfl ?_
    refine v_if_eqN (tgt := 51) hC dX5_vote_36 (by decide) (by first | omega | exact hB _ _ _ _ rfl | exact hB.i _ _ _ _ rfl | assumption | exact b2n_31 _) (fun c_36 => ?_) (fun c_36 => ?_)
    · refine v_aload hC dX5_vote_51 rfl ?_
      refine v_iload_n hC dX5_vote_53 rfl ?_
      refine v_callVN_v0 hC lk_X5_122 dX5_vote_54 (c_X1_voteAgainst hl0 hO hB b2_c b_p) (by decide) (by decide) (hO.k6 b2_c) rfl rfl rfl rfl (Nat.le_of_ble_eq_true rfl) (by omega) (by omega) ?_
      refine v_sg (σ1 := vA σ c p) (fun _ _ _ _ => rfl) ?_
      refine v_iconst (v := nI 0) hC dX5_vote_57 (by decide) ?_
      refine v_iret hC hM dX5_vote_58 (by omega) (by omega) ?_
      exact ⟨_, _, by simp [k_vote, gR, h_c, h_p, hop, c_17, c_36], rfl, rfl⟩
    · refine v_aload hC dX5_vote_39 rfl ?_
      refine v_iload_n hC dX5_vote_41 rfl ?_
      refine v_callVN_v0 hC lk_X5_119 dX5_vote_42 (c_X1_voteFor hl0 hO hB b2_c b_p) (by decide) (by decide) (hO.k6 b2_c) rfl rfl rfl rfl (Nat.le_of_ble_eq_true rfl) (by omega) (by omega) ?_
      refine v_sg (σ1 := vF σ c p) (fun _ _ _ _ => rfl) ?_
      refine v_aload hC dX5_vote_45 rfl ?_
      refine v_callVN_r0 hC lk_X5_100 dX5_vote_47 (c_X1_editCount hl0 hO (vF_BD hB) b2_c) (by decide) (by decide) (hO.k6 b2_c) rfl rfl rfl rfl (Nat.le_of_ble_eq_true rfl) (by omega) (by omega) ?_
      rw [show vF σ c p 6 c 0 3 = σ 6 c 0 3 from rfl]
      refine v_iret hC hM dX5_vote_50 (by omega) (by omega) ?_
      exact ⟨_, _, by simp [k_vote, gR, h_c, h_p, hop, c_17, c_36], rfl, rfl⟩
  · exact v_thr (text := "the person is the author") hC hM tw_IAE (by decide +kernel) (⟨by simp [k_vote, gR, h_c, h_p, c_17.symm], rfl⟩) (by omega) (by omega) (Nat.le_of_ble_eq_true rfl) dX5_vote_20 dX5_vote_23 dX5_vote_24 dX5_vote_26 dX5_vote_29

def k_verdict (σ : SG) (c d : Int32) : OC := gR c (σ 0 0 0 0) eNSE fun c => gR d 4 eIOB fun d => .inr (vrd σ c d, σ)
set_option maxHeartbeats 4000000 in
set_option maxRecDepth 100000 in
theorem c_X5_verdict {l : Launch} (hl0 : l.stackTraces = false) {G : GT} {ok : KF} {ad : AD} {σ : SG} (hO : OKC ok) (hB : BD σ) (c : Int32) (d : Int32) : Ct l G 6 yX5_verdict cX5_verdict 4 (some .char) [.ref (ad 0 0 0), .int c, .int d] ok ad σ (oV (k_verdict σ c d) ok ad) (oX (k_verdict σ c d) ok ad σ) 4 24 := by
  refine Ct.mk (by decide +kernel) hl0 (Nat.le_of_ble_eq_true rfl) (fun X hX hC hM => ?_)
  subst hX
  refine v_aload_n hC dX5_verdict_0 rfl ?_
  refine v_iload_n hC dX5_verdict_1 rfl ?_
  refine v_callV hC lk_X5_82 dX5_verdict_2 (c_X5_changeOf hl0 hO hB c) (by decide) (by decide) hO.k0 rfl rfl rfl rfl (Nat.le_of_ble_eq_true rfl) (by omega) (by omega) (fun v μ h => ?_) (fun E μ h => ?_)
  rotate_left
  · obtain ⟨rfl, rfl, he⟩ := h
    exact v_out hC hM (by omega) (by omega) ⟨by simp [k_verdict, gR, he], rfl⟩
  obtain ⟨rfl, c, h_c, rfl, b_c, b2_c, rfl⟩ := h
  dsimp only
  refine v_astore_n hC dX5_verdict_5 (by decide) ?_
  refine v_iload_n hC dX5_verdict_6 rfl ?_
  refine v_callS hC lk_X5_56 dX5_verdict_7 (c_X5_checkDirectory hl0 d) (by decide) (by decide) rfl rfl (Nat.le_of_ble_eq_true rfl) (by omega) (by omega) (fun v μ h => ?_) (fun E μ h => ?_)
  rotate_left
  · obtain ⟨rfl, rfl, he⟩ := h
    exact v_out hC hM (by omega) (by omega) ⟨by simp [k_verdict, gR, h_c, he], rfl⟩
  obtain ⟨rfl, rfl, d, h_d, rfl, b_d⟩ := h
  dsimp only
  refine v_aload_n hC dX5_verdict_10 rfl ?_
  refine v_aload_n hC dX5_verdict_11 rfl ?_
  refine v_iload_n hC dX5_verdict_12 rfl ?_
  refine v_callV_r0 hC lk_X5_125 dX5_verdict_13 (c_X5_verdictOf hl0 hO hB b2_c b_d) (by decide) (by decide) hO.k0 rfl rfl rfl rfl (Nat.le_of_ble_eq_true rfl) (by omega) (by omega) ?_
  refine v_zret hC hM dX5_verdict_16 (nar_c (Nat.lt_trans (vrd_lt _ _ _) (by decide))) (by omega) (by omega) ?_
  exact ⟨_, _, by simp [k_verdict, gR, h_c, h_d], rfl, rfl⟩

def k_asked (σ : SG) (c d : Int32) : OC := gR c (σ 0 0 0 0) eNSE fun c => gR d 4 eIOB fun d => if ask σ c d = 0 then .inl eNSE else .inr (ask σ c d - 1, σ)
set_option maxHeartbeats 4000000 in
set_option maxRecDepth 100000 in
theorem c_X5_asked {l : Launch} (hl0 : l.stackTraces = false) {G : GT} {ok : KF} {ad : AD} {σ : SG} (hO : OKC ok) (hB : BD σ) (c : Int32) (d : Int32) : Ct l G 6 yX5_asked cX5_asked 5 (some .int) [.ref (ad 0 0 0), .int c, .int d] ok ad σ (oV (k_asked σ c d) ok ad) (oX (k_asked σ c d) ok ad σ) 4 24 := by
  refine Ct.mk (by decide +kernel) hl0 (Nat.le_of_ble_eq_true rfl) (fun X hX hC hM => ?_)
  subst hX
  refine v_aload_n hC dX5_asked_0 rfl ?_
  refine v_iload_n hC dX5_asked_1 rfl ?_
  refine v_callV hC lk_X5_82 dX5_asked_2 (c_X5_changeOf hl0 hO hB c) (by decide) (by decide) hO.k0 rfl rfl rfl rfl (Nat.le_of_ble_eq_true rfl) (by omega) (by omega) (fun v μ h => ?_) (fun E μ h => ?_)
  rotate_left
  · obtain ⟨rfl, rfl, he⟩ := h
    exact v_out hC hM (by omega) (by omega) ⟨by simp [k_asked, gR, he], rfl⟩
  obtain ⟨rfl, c, h_c, rfl, b_c, b2_c, rfl⟩ := h
  dsimp only
  refine v_astore_n hC dX5_asked_5 (by decide) ?_
  refine v_iload_n hC dX5_asked_6 rfl ?_
  refine v_callS hC lk_X5_56 dX5_asked_7 (c_X5_checkDirectory hl0 d) (by decide) (by decide) rfl rfl (Nat.le_of_ble_eq_true rfl) (by omega) (by omega) (fun v μ h => ?_) (fun E μ h => ?_)
  rotate_left
  · obtain ⟨rfl, rfl, he⟩ := h
    exact v_out hC hM (by omega) (by omega) ⟨by simp [k_asked, gR, h_c, he], rfl⟩
  obtain ⟨rfl, rfl, d, h_d, rfl, b_d⟩ := h
  dsimp only
  refine v_aload_n hC dX5_asked_10 rfl ?_
  refine v_aload_n hC dX5_asked_11 rfl ?_
  refine v_iload_n hC dX5_asked_12 rfl ?_
  refine v_callV_r0 hC lk_X5_129 dX5_asked_13 (c_X5_personAsked hl0 hO hB b2_c b_d) (by decide) (by decide) hO.k0 rfl rfl rfl rfl (Nat.le_of_ble_eq_true rfl) (by omega) (by omega) ?_
  have ha7 := ask_lt hB c d
  refine v_istore hC dX5_asked_16 (by decide) ?_
  refine v_iload hC dX5_asked_18 rfl ?_
  refine v_iconst (v := dm 0) hC dX5_asked_20 (by decide) ?_
  refine v_icmp_neM (tgt := 34) hC dX5_asked_21 (by decide) (by first | omega | assumption) (by first | omega | assumption) (fun c_21 => ?_) (fun c_21 => ?_)
  · obtain ⟨q, hq⟩ : ∃ q, ask σ c d = q + 1 := ⟨ask σ c d - 1, by omega⟩
    rw [hq]
    refine v_iload hC dX5_asked_34 rfl ?_
    refine v_iret hC hM dX5_asked_36 (by omega) (by omega) ?_
    exact ⟨q, σ, by simp [k_asked, gR, h_c, h_d, hq], rfl, rfl⟩
  · exact v_thrY (text := "nobody is asked") hC hM tw_NSE (by decide +kernel) (⟨by simp [k_asked, gR, h_c, h_d, c_21], rfl⟩) (by omega) (by omega) (Nat.le_of_ble_eq_true rfl) dX5_asked_24 dX5_asked_27 dX5_asked_28 dX5_asked_30 dX5_asked_33

def k_missing (σ : SG) (c : Int32) : OC := gR c (σ 0 0 0 0) eNSE fun c => .inr (mis σ c 4, σ)
set_option maxHeartbeats 4000000 in
set_option maxRecDepth 100000 in
theorem c_X5_missing {l : Launch} (hl0 : l.stackTraces = false) {G : GT} {ok : KF} {ad : AD} {σ : SG} (hO : OKC ok) (hB : BD σ) (c : Int32) : Ct l G 6 yX5_missing cX5_missing 2 (some .int) [.ref (ad 0 0 0), .int c] ok ad σ (oV (k_missing σ c) ok ad) (oX (k_missing σ c) ok ad σ) 4 24 := by
  refine Ct.mk (by decide +kernel) hl0 (Nat.le_of_ble_eq_true rfl) (fun X hX hC hM => ?_)
  subst hX
  refine v_aload_n hC dX5_missing_0 rfl ?_
  refine v_aload_n hC dX5_missing_1 rfl ?_
  refine v_iload_n hC dX5_missing_2 rfl ?_
  refine v_callV hC lk_X5_82 dX5_missing_3 (c_X5_changeOf hl0 hO hB c) (by decide) (by decide) hO.k0 rfl rfl rfl rfl (Nat.le_of_ble_eq_true rfl) (by omega) (by omega) (fun v μ h => ?_) (fun E μ h => ?_)
  rotate_left
  · obtain ⟨rfl, rfl, he⟩ := h
    exact v_out hC hM (by omega) (by omega) ⟨by simp [k_missing, gR, he], rfl⟩
  obtain ⟨rfl, c, h_c, rfl, b_c, b2_c, rfl⟩ := h
  dsimp only
  refine v_callV_r0 hC lk_X5_138 dX5_missing_6 (c_X5_missingVerdicts hl0 hO hB b2_c) (by decide) (by decide) hO.k0 rfl rfl rfl rfl (Nat.le_of_ble_eq_true rfl) (by omega) (by omega) ?_
  refine v_iret hC hM dX5_missing_9 (by omega) (by omega) ?_
  exact ⟨_, _, by simp [k_missing, gR, h_c], rfl, rfl⟩

def k_stateOf (σ : SG) (c : Int32) : OC := gR c (σ 0 0 0 0) eNSE fun c => .inr (σ 6 c 0 1, σ)
set_option maxHeartbeats 4000000 in
set_option maxRecDepth 100000 in
theorem c_X5_stateOf {l : Launch} (hl0 : l.stackTraces = false) {G : GT} {ok : KF} {ad : AD} {σ : SG} (hO : OKC ok) (hB : BD σ) (c : Int32) : Ct l G 4 yX5_stateOf cX5_stateOf 2 (some .char) [.ref (ad 0 0 0), .int c] ok ad σ (oV (k_stateOf σ c) ok ad) (oX (k_stateOf σ c) ok ad σ) 4 24 := by
  refine Ct.mk (by decide +kernel) hl0 (Nat.le_of_ble_eq_true rfl) (fun X hX hC hM => ?_)
  subst hX
  refine v_aload_n hC dX5_stateOf_0 rfl ?_
  refine v_iload_n hC dX5_stateOf_1 rfl ?_
  refine v_callV hC lk_X5_82 dX5_stateOf_2 (c_X5_changeOf hl0 hO hB c) (by decide) (by decide) hO.k0 rfl rfl rfl rfl (Nat.le_of_ble_eq_true rfl) (by omega) (by omega) (fun v μ h => ?_) (fun E μ h => ?_)
  rotate_left
  · obtain ⟨rfl, rfl, he⟩ := h
    exact v_out hC hM (by omega) (by omega) ⟨by simp [k_stateOf, gR, he], rfl⟩
  obtain ⟨rfl, c, h_c, rfl, b_c, b2_c, rfl⟩ := h
  dsimp only
  refine gf_X5_113 hC dX5_stateOf_5 hO (by first | exact b2_c | omega) ?_
  refine v_zret hC hM dX5_stateOf_8 (nar_c (hB 6 c 0 1 rfl)) (by omega) (by omega) ?_
  exact ⟨_, _, by simp [k_stateOf, gR, h_c], rfl, rfl⟩

def k_hasFailed (σ : SG) (c : Int32) : OC := gR c (σ 0 0 0 0) eNSE fun c => .inr (σ 6 c 0 2, σ)
set_option maxHeartbeats 4000000 in
set_option maxRecDepth 100000 in
theorem c_X5_hasFailed {l : Launch} (hl0 : l.stackTraces = false) {G : GT} {ok : KF} {ad : AD} {σ : SG} (hO : OKC ok) (hB : BD σ) (c : Int32) : Ct l G 4 yX5_hasFailed cX5_hasFailed 2 (some .boolean) [.ref (ad 0 0 0), .int c] ok ad σ (oV (k_hasFailed σ c) ok ad) (oX (k_hasFailed σ c) ok ad σ) 4 24 := by
  refine Ct.mk (by decide +kernel) hl0 (Nat.le_of_ble_eq_true rfl) (fun X hX hC hM => ?_)
  subst hX
  refine v_aload_n hC dX5_hasFailed_0 rfl ?_
  refine v_iload_n hC dX5_hasFailed_1 rfl ?_
  refine v_callV hC lk_X5_82 dX5_hasFailed_2 (c_X5_changeOf hl0 hO hB c) (by decide) (by decide) hO.k0 rfl rfl rfl rfl (Nat.le_of_ble_eq_true rfl) (by omega) (by omega) (fun v μ h => ?_) (fun E μ h => ?_)
  rotate_left
  · obtain ⟨rfl, rfl, he⟩ := h
    exact v_out hC hM (by omega) (by omega) ⟨by simp [k_hasFailed, gR, he], rfl⟩
  obtain ⟨rfl, c, h_c, rfl, b_c, b2_c, rfl⟩ := h
  dsimp only
  refine gf_X5_184 hC dX5_hasFailed_5 hO (by first | exact b2_c | omega) ?_
  refine v_zret hC hM dX5_hasFailed_8 (nar_z (hB 6 c 0 2 rfl)) (by omega) (by omega) ?_
  exact ⟨_, _, by simp [k_hasFailed, gR, h_c], rfl, rfl⟩

def k_clashes (σ : SG) (c : Int32) : OC := gR c (σ 0 0 0 0) eNSE fun c => .inr (pop (σ 6 c 0 4), σ)
set_option maxHeartbeats 4000000 in
set_option maxRecDepth 100000 in
theorem c_X5_clashes {l : Launch} (hl0 : l.stackTraces = false) {G : GT} {ok : KF} {ad : AD} {σ : SG} (hO : OKC ok) (hB : BD σ) (c : Int32) : Ct l G 4 yX5_clashes cX5_clashes 2 (some .int) [.ref (ad 0 0 0), .int c] ok ad σ (oV (k_clashes σ c) ok ad) (oX (k_clashes σ c) ok ad σ) 4 24 := by
  refine Ct.mk (by decide +kernel) hl0 (Nat.le_of_ble_eq_true rfl) (fun X hX hC hM => ?_)
  subst hX
  refine v_aload_n hC dX5_clashes_0 rfl ?_
  refine v_iload_n hC dX5_clashes_1 rfl ?_
  refine v_callV hC lk_X5_82 dX5_clashes_2 (c_X5_changeOf hl0 hO hB c) (by decide) (by decide) hO.k0 rfl rfl rfl rfl (Nat.le_of_ble_eq_true rfl) (by omega) (by omega) (fun v μ h => ?_) (fun E μ h => ?_)
  rotate_left
  · obtain ⟨rfl, rfl, he⟩ := h
    exact v_out hC hM (by omega) (by omega) ⟨by simp [k_clashes, gR, he], rfl⟩
  obtain ⟨rfl, c, h_c, rfl, b_c, b2_c, rfl⟩ := h
  dsimp only
  refine v_callVN_r0 hC lk_X5_188 dX5_clashes_5 (c_X1_clashCount hl0 hO hB b2_c) (by decide) (by decide) (hO.k6 (by first | exact b2_c | omega)) rfl rfl rfl rfl (Nat.le_of_ble_eq_true rfl) (by omega) (by omega) ?_
  refine v_iret hC hM dX5_clashes_8 (by omega) (by omega) ?_
  exact ⟨_, _, by simp [k_clashes, gR, h_c], rfl, rfl⟩

def ud (σ : SG) (c : Nat) : SG := up (utd σ c 6) 6 c 0 4 0
def k_update (σ : SG) (c : Int32) : OC := gR c (σ 0 0 0 0) eNSE fun c => if σ 6 c 0 1 ≠ 111 then .inl eISE else .inr (pop (σ 6 c 0 4), ud σ c)
set_option maxHeartbeats 4000000 in
set_option maxRecDepth 100000 in
theorem c_X5_update {l : Launch} (hl0 : l.stackTraces = false) {G : GT} {ok : KF} {ad : AD} {σ : SG} (hO : OKC ok) (hB : BD σ) (c : Int32) : Ct l G 4 yX5_update cX5_update 4 (some .int) [.ref (ad 0 0 0), .int c] ok ad σ (oV (k_update σ c) ok ad) (oX (k_update σ c) ok ad σ) 4 24 := by
  refine Ct.mk (by decide +kernel) hl0 (Nat.le_of_ble_eq_true rfl) (fun X hX hC hM => ?_)
  subst hX
  refine v_aload_n hC dX5_update_0 rfl ?_
  refine v_iload_n hC dX5_update_1 rfl ?_
  refine v_callV hC lk_X5_82 dX5_update_2 (c_X5_changeOf hl0 hO hB c) (by decide) (by decide) hO.k0 rfl rfl rfl rfl (Nat.le_of_ble_eq_true rfl) (by omega) (by omega) (fun v μ h => ?_) (fun E μ h => ?_)
  rotate_left
  · obtain ⟨rfl, rfl, he⟩ := h
    exact v_out hC hM (by omega) (by omega) ⟨by simp [k_update, gR, he], rfl⟩
  obtain ⟨rfl, c, h_c, rfl, b_c, b2_c, rfl⟩ := h
  dsimp only
  refine v_astore_n hC dX5_update_5 (by decide) ?_
  refine v_aload_n hC dX5_update_6 rfl ?_
  refine v_callS hC lk_X5_92 dX5_update_7 (c_X5_checkOpen hl0 hO hB b2_c) (by decide) (by decide) rfl rfl (Nat.le_of_ble_eq_true rfl) (by omega) (by omega) (fun v μ h => ?_) (fun E μ h => ?_)
  rotate_left
  · obtain ⟨rfl, rfl, he⟩ := h
    exact v_out hC hM (by omega) (by omega) ⟨by simp [k_update, gR, h_c, he], rfl⟩
  obtain ⟨rfl, rfl, hop⟩ := h
  dsimp only
  refine v_aload_n hC dX5_update_10 rfl ?_
  refine v_callVN_r0 hC lk_X5_188 dX5_update_11 (c_X1_clashCount hl0 hO hB b2_c) (by decide) (by decide) (hO.k6 (by first | exact b2_c | omega)) rfl rfl rfl rfl (Nat.le_of_ble_eq_true rfl) (by omega) (by omega) ?_
  refine v_istore_n hC dX5_update_14 (by decide) ?_
  refine v_aload_n hC dX5_update_15 rfl ?_
  refine v_callVN_v0 hC lk_X5_191 dX5_update_16 (c_X1_bringUpToDate hl0 hO hB b2_c) (by decide) (by decide) (hO.k6 (by first | exact b2_c | omega)) rfl rfl rfl rfl (Nat.le_of_ble_eq_true rfl) (by omega) (by omega) ?_
  refine v_sg (σ1 := ud σ c) (fun _ _ _ _ => rfl) ?_
  refine v_iload_n hC dX5_update_19 rfl ?_
  refine v_iret hC hM dX5_update_20 (by omega) (by omega) ?_
  exact ⟨_, _, by simp [k_update, gR, h_c, hop], rfl, rfl⟩

def k_value (σ : SG) (f s : Int32) : OC := gR f 16 eIOB fun f => gR s 4 eIOB fun s => .inr (σ 15 0 0 (f * 4 + s), σ)
set_option maxHeartbeats 4000000 in
set_option maxRecDepth 100000 in
theorem c_X5_value {l : Launch} (hl0 : l.stackTraces = false) {G : GT} {ok : KF} {ad : AD} {σ : SG} (hO : OKC ok) (hB : BD σ) (f : Int32) (s : Int32) : Ct l G 4 yX5_value cX5_value 3 (some .int) [.ref (ad 0 0 0), .int f, .int s] ok ad σ (oV (k_value σ f s) ok ad) (oX (k_value σ f s) ok ad σ) 4 24 := by
  refine Ct.mk (by decide +kernel) hl0 (Nat.le_of_ble_eq_true rfl) (fun X hX hC hM => ?_)
  subst hX
  refine v_aload_n hC dX5_value_0 rfl ?_
  refine gf_X5_42 hC dX5_value_1 hO ?_
  refine v_iload_n hC dX5_value_4 rfl ?_
  refine v_iload_n hC dX5_value_5 rfl ?_
  refine v_callS hC lk_X5_86 dX5_value_6 (c_X5_placeOf hl0 f s) (by decide) (by decide) rfl rfl (Nat.le_of_ble_eq_true rfl) (by omega) (by omega) (fun v μ h => ?_) (fun E μ h => ?_)
  rotate_left
  · obtain ⟨rfl, rfl, he⟩ := h
    refine v_out hC hM (by omega) (by omega) ⟨?_, rfl⟩
    rcases he with he | he
    · simp [k_value, gR, he]
    · cases hx : inR f 16 <;> simp [k_value, gR, he, hx]
  obtain ⟨rfl, f, s, h_f, h_s, rfl, rfl, b_f, b_s, rfl⟩ := h
  dsimp only
  refine al_15 hC dX5_value_9 hO (by first | omega | exact hB _ _ _ _ rfl | exact hB.i _ _ _ _ rfl | assumption | exact and_lt (hB _ _ _ _ rfl) | exact b2n_31 _) (by first | omega | exact hB _ _ _ _ rfl | exact hB.i _ _ _ _ rfl | assumption | exact and_lt (hB _ _ _ _ rfl) | exact b2n_31 _) ?_
  refine v_iret hC hM dX5_value_10 (by omega) (by omega) ?_
  exact ⟨_, _, by simp [k_value, gR, h_f, h_s], rfl, rfl⟩

def k_valueWith (σ : SG) (c f s : Int32) : OC := gR c (σ 0 0 0 0) eNSE fun c => gR f 16 eIOB fun f => gR s 4 eIOB fun s => .inr (if (σ 6 c 0 3).testBit (f * 4 + s) = true then σ 7 c 0 (f * 4 + s) else σ 15 0 0 (f * 4 + s), σ)
set_option maxHeartbeats 4000000 in
set_option maxRecDepth 100000 in
theorem c_X5_valueWith {l : Launch} (hl0 : l.stackTraces = false) {G : GT} {ok : KF} {ad : AD} {σ : SG} (hO : OKC ok) (hB : BD σ) (c : Int32) (f : Int32) (s : Int32) : Ct l G 4 yX5_valueWith cX5_valueWith 6 (some .int) [.ref (ad 0 0 0), .int c, .int f, .int s] ok ad σ (oV (k_valueWith σ c f s) ok ad) (oX (k_valueWith σ c f s) ok ad σ) 4 24 := by
  refine Ct.mk (by decide +kernel) hl0 (Nat.le_of_ble_eq_true rfl) (fun X hX hC hM => ?_)
  subst hX
  refine v_aload_n hC dX5_valueWith_0 rfl ?_
  refine v_iload_n hC dX5_valueWith_1 rfl ?_
  refine v_callV hC lk_X5_82 dX5_valueWith_2 (c_X5_changeOf hl0 hO hB c) (by decide) (by decide) hO.k0 rfl rfl rfl rfl (Nat.le_of_ble_eq_true rfl) (by omega) (by omega) (fun v μ h => ?_) (fun E μ h => ?_)
  rotate_left
  · obtain ⟨rfl, rfl, he⟩ := h
    exact v_out hC hM (by omega) (by omega) ⟨by simp [k_valueWith, gR, he], rfl⟩
  obtain ⟨rfl, c, h_c, rfl, b_c, b2_c, rfl⟩ := h
  dsimp only
  refine v_astore hC dX5_valueWith_5 (by decide) ?_
  refine v_iload_n hC dX5_valueWith_7 rfl ?_
  refine v_iload_n hC dX5_valueWith_8 rfl ?_
  refine v_callS hC lk_X5_86 dX5_valueWith_9 (c_X5_placeOf hl0 f s) (by decide) (by decide) rfl rfl (Nat.le_of_ble_eq_true rfl) (by omega) (by omega) (fun v μ h => ?_) (fun E μ h => ?_)
  rotate_left
  · obtain ⟨rfl, rfl, he⟩ := h
    refine v_out hC hM (by omega) (by omega) ⟨?_, rfl⟩
    rcases he with he | he
    · simp [k_valueWith, gR, h_c, he]
    · cases hx : inR f 16 <;> simp [k_valueWith, gR, h_c, he, hx]
  obtain ⟨rfl, f, s, h_f, h_s, rfl, rfl, b_f, b_s, rfl⟩ := h
  dsimp only
  refine v_istore hC dX5_valueWith_12 (by decide) ?_
  refine v_aload hC dX5_valueWith_14 rfl ?_
  refine v_iload hC dX5_valueWith_16 rfl ?_
  refine v_callVN_r0 hC lk_X5_104 dX5_valueWith_18 (c_X1_hasEdit hl0 hO hB b2_c (by omega)) (by decide) (by decide) (hO.k6 b2_c) rfl rfl rfl rfl (Nat.le_of_ble_eq_true rfl) (by omega) (by omega) ?_
  refine v_if_eqN (tgt := 35) hC dX5_valueWith_21 (by decide) (by first | omega | exact hB _ _ _ _ rfl | exact hB.i _ _ _ _ rfl | assumption | exact and_lt (hB _ _ _ _ rfl) | exact b2n_31 _) (fun c_21 => ?_) (fun c_21 => ?_)
  · refine v_aload_n hC dX5_valueWith_35 rfl ?_
    refine gf_X5_42 hC dX5_valueWith_36 hO ?_
    refine v_iload hC dX5_valueWith_39 rfl ?_
    refine al_15 hC dX5_valueWith_41 hO (by first | omega | exact hB _ _ _ _ rfl | exact hB.i _ _ _ _ rfl | assumption | exact and_lt (hB _ _ _ _ rfl) | exact b2n_31 _) (by first | omega | exact hB _ _ _ _ rfl | exact hB.i _ _ _ _ rfl | assumption | exact and_lt (hB _ _ _ _ rfl) | exact b2n_31 _) ?_
    refine v_iret hC hM dX5_valueWith_42 (by omega) (by omega) ?_
    exact ⟨_, _, by simp [k_valueWith, gR, h_c, h_f, h_s, b2n_0 c_21], rfl, rfl⟩
  · refine v_aload hC dX5_valueWith_24 rfl ?_
    refine gf_X5_223 hC dX5_valueWith_26 hO (by first | omega | exact hB _ _ _ _ rfl | exact hB.i _ _ _ _ rfl | assumption | exact and_lt (hB _ _ _ _ rfl) | exact b2n_31 _) ?_
    refine v_iload hC dX5_valueWith_29 rfl ?_
    refine al_7 hC dX5_valueWith_31 hO (by first | omega | exact hB _ _ _ _ rfl | exact hB.i _ _ _ _ rfl | assumption | exact and_lt (hB _ _ _ _ rfl) | exact b2n_31 _) (by first | omega | exact hB _ _ _ _ rfl | exact hB.i _ _ _ _ rfl | assumption | exact and_lt (hB _ _ _ _ rfl) | exact b2n_31 _) ?_
    refine v_goto (tgt := 42) hC dX5_valueWith_32 (by decide) ?_
    refine v_iret hC hM dX5_valueWith_42 (by omega) (by omega) ?_
    exact ⟨_, _, by simp [k_valueWith, gR, h_c, h_f, h_s, b2n_1 c_21], rfl, rfl⟩

def k_queueAt (σ : SG) (n : Int32) : OC := gR n (σ 12 0 0 0) eIOB fun n => .inr (σ 13 0 0 n, σ)
set_option maxHeartbeats 4000000 in
set_option maxRecDepth 100000 in
theorem c_X5_queueAt {l : Launch} (hl0 : l.stackTraces = false) {G : GT} {ok : KF} {ad : AD} {σ : SG} (hO : OKC ok) (hB : BD σ) (n : Int32) : Ct l G 4 yX5_queueAt cX5_queueAt 2 (some .int) [.ref (ad 0 0 0), .int n] ok ad σ (oV (k_queueAt σ n) ok ad) (oX (k_queueAt σ n) ok ad σ) 4 24 := by
  refine Ct.mk (by decide +kernel) hl0 (Nat.le_of_ble_eq_true rfl) (fun X hX hC hM => ?_)
  subst hX
  have hs17 : σ 12 0 0 0 < 17 := hB 12 0 0 0 rfl
  refine v_aload_n hC dX5_queueAt_0 rfl ?_
  refine gf_X5_32 hC dX5_queueAt_1 hO ?_
  refine v_iload_n hC dX5_queueAt_4 rfl ?_
  refine v_callS hC lk_X5_167 dX5_queueAt_5 (c_X5_checkIndex hl0 hO hB (w := 0) (by decide) n) (by decide) (by decide) rfl rfl (Nat.le_of_ble_eq_true rfl) (by omega) (by omega) (fun v μ h => ?_) (fun E μ h => ?_)
  rotate_left
  · obtain ⟨rfl, rfl, he⟩ := h
    exact v_out hC hM (by omega) (by omega) ⟨by simp [k_queueAt, gR, he], rfl⟩
  obtain ⟨rfl, rfl, n, h_n, rfl, b_n⟩ := h
  dsimp only
  refine v_aload_n hC dX5_queueAt_8 rfl ?_
  refine gf_X5_32 hC dX5_queueAt_9 hO ?_
  refine v_iload_n hC dX5_queueAt_12 rfl ?_
  refine v_callVN_r0 hC lk_X5_171 dX5_queueAt_13 (c_X2_at hl0 hO hB (by decide) (by omega)) (by decide) (by decide) (hO.k12 (i := 0) (by decide)) rfl rfl rfl rfl (Nat.le_of_ble_eq_true rfl) (by omega) (by omega) ?_
  refine v_iret hC hM dX5_queueAt_16 (by omega) (by omega) ?_
  exact ⟨_, _, by simp [k_queueAt, gR, h_n], rfl, rfl⟩

def k_mergedAt (σ : SG) (n : Int32) : OC := gR n (σ 12 1 0 0) eIOB fun n => .inr (σ 13 1 0 n, σ)
set_option maxHeartbeats 4000000 in
set_option maxRecDepth 100000 in
theorem c_X5_mergedAt {l : Launch} (hl0 : l.stackTraces = false) {G : GT} {ok : KF} {ad : AD} {σ : SG} (hO : OKC ok) (hB : BD σ) (n : Int32) : Ct l G 4 yX5_mergedAt cX5_mergedAt 2 (some .int) [.ref (ad 0 0 0), .int n] ok ad σ (oV (k_mergedAt σ n) ok ad) (oX (k_mergedAt σ n) ok ad σ) 4 24 := by
  refine Ct.mk (by decide +kernel) hl0 (Nat.le_of_ble_eq_true rfl) (fun X hX hC hM => ?_)
  subst hX
  have hs17 : σ 12 1 0 0 < 17 := hB 12 1 0 0 rfl
  refine v_aload_n hC dX5_mergedAt_0 rfl ?_
  refine gf_X5_36 hC dX5_mergedAt_1 hO ?_
  refine v_iload_n hC dX5_mergedAt_4 rfl ?_
  refine v_callS hC lk_X5_167 dX5_mergedAt_5 (c_X5_checkIndex hl0 hO hB (w := 1) (by decide) n) (by decide) (by decide) rfl rfl (Nat.le_of_ble_eq_true rfl) (by omega) (by omega) (fun v μ h => ?_) (fun E μ h => ?_)
  rotate_left
  · obtain ⟨rfl, rfl, he⟩ := h
    exact v_out hC hM (by omega) (by omega) ⟨by simp [k_mergedAt, gR, he], rfl⟩
  obtain ⟨rfl, rfl, n, h_n, rfl, b_n⟩ := h
  dsimp only
  refine v_aload_n hC dX5_mergedAt_8 rfl ?_
  refine gf_X5_36 hC dX5_mergedAt_9 hO ?_
  refine v_iload_n hC dX5_mergedAt_12 rfl ?_
  refine v_callVN_r0 hC lk_X5_171 dX5_mergedAt_13 (c_X2_at hl0 hO hB (by decide) (by omega)) (by decide) (by decide) (hO.k12 (i := 1) (by decide)) rfl rfl rfl rfl (Nat.le_of_ble_eq_true rfl) (by omega) (by omega) ?_
  refine v_iret hC hM dX5_mergedAt_16 (by omega) (by omega) ?_
  exact ⟨_, _, by simp [k_mergedAt, gR, h_n], rfl, rfl⟩

def k_isGood (σ : SG) (d : Int32) : OC := gR d 4 eIOB fun d => .inr (b2n (apv σ (σ 15 0 0) d (nT σ)), σ)
set_option maxHeartbeats 4000000 in
set_option maxRecDepth 100000 in
theorem c_X5_isGood {l : Launch} (hl0 : l.stackTraces = false) {G : GT} {ok : KF} {ad : AD} {σ : SG} (hO : OKC ok) (hB : BD σ) (d : Int32) : Ct l G 4 yX5_isGood cX5_isGood 2 (some .boolean) [.ref (ad 0 0 0), .int d] ok ad σ (oV (k_isGood σ d) ok ad) (oX (k_isGood σ d) ok ad σ) 4 24 := by
  refine Ct.mk (by decide +kernel) hl0 (Nat.le_of_ble_eq_true rfl) (fun X hX hC hM => ?_)
  subst hX
  refine v_iload_n hC dX5_isGood_0 rfl ?_
  refine v_callS hC lk_X5_56 dX5_isGood_1 (c_X5_checkDirectory hl0 d) (by decide) (by decide) rfl rfl (Nat.le_of_ble_eq_true rfl) (by omega) (by omega) (fun v μ h => ?_) (fun E μ h => ?_)
  rotate_left
  · obtain ⟨rfl, rfl, he⟩ := h
    exact v_out hC hM (by omega) (by omega) ⟨by simp [k_isGood, gR, he], rfl⟩
  obtain ⟨rfl, rfl, d, h_d, rfl, b_d⟩ := h
  dsimp only
  refine v_aload_n hC dX5_isGood_4 rfl ?_
  refine gf_X5_51 hC dX5_isGood_5 hO ?_
  refine v_iload_n hC dX5_isGood_8 rfl ?_
  refine v_aload_n hC dX5_isGood_9 rfl ?_
  refine gf_X5_42 hC dX5_isGood_10 hO ?_
  refine v_callVN_r0 hC lk_X5_251 dX5_isGood_13 (c_X4_allPass hl0 hO hB b_d (w := 0) (by decide)) (by decide) (by decide) hO.k16 rfl rfl rfl rfl (Nat.le_of_ble_eq_true rfl) (by omega) (by omega) ?_
  refine v_zret hC hM dX5_isGood_16 (nar_z (b2n_lt _)) (by omega) (by omega) ?_
  exact ⟨b2n (apv σ (σ 15 0 0) d (nT σ)), σ, by simp [k_isGood, gR, h_d], rfl, rfl⟩

set_option maxHeartbeats 4000000 in
set_option maxRecDepth 100000 in
theorem c_X5_builds {l : Launch} (hl0 : l.stackTraces = false) {G : GT} {ok : KF} {ad : AD} {σ : SG} (hO : OKC ok) (hB : BD σ) : Ct l G 4 yX5_builds cX5_builds 1 (some .int) [.ref (ad 0 0 0)] ok ad σ (Rt (some (iv (σ 16 0 0 2))) ok ad σ) (NX) 0 0 := by
  refine Ct.mk (by decide +kernel) hl0 (Nat.le_of_ble_eq_true rfl) (fun X hX hC hM => ?_)
  subst hX
  refine v_aload_n hC dX5_builds_0 rfl ?_
  refine gf_X5_51 hC dX5_builds_1 hO ?_
  refine gf_X5_255 hC dX5_builds_4 hO ?_
  refine v_iret hC hM dX5_builds_7 (by omega) (by omega) ?_
  exact ⟨rfl, rfl⟩

set_option maxHeartbeats 4000000 in
set_option maxRecDepth 100000 in
theorem c_X5_taken {l : Launch} (hl0 : l.stackTraces = false) {G : GT} {ok : KF} {ad : AD} {σ : SG} (hO : OKC ok) (hB : BD σ) : Ct l G 4 yX5_taken cX5_taken 1 (some .long) [.ref (ad 0 0 0)] ok ad σ (Rt (some (jv (σ 16 0 0 3))) ok ad σ) (NX) 0 0 := by
  refine Ct.mk (by decide +kernel) hl0 (Nat.le_of_ble_eq_true rfl) (fun X hX hC hM => ?_)
  subst hX
  refine v_aload_n hC dX5_taken_0 rfl ?_
  refine gf_X5_51 hC dX5_taken_1 hO ?_
  refine gf_X5_258 hC dX5_taken_4 hO ?_
  refine v_lret hC hM dX5_taken_7 (by omega) (by omega) ?_
  exact ⟨rfl, rfl⟩

def k_unqueue (σ : SG) (c : Int32) : OC := gR c (σ 0 0 0 0) eNSE fun c => if σ 6 c 0 1 ≠ 113 then .inl eISE else .inr (rpn σ c 12 0 0 0, rpn σ c)
set_option maxHeartbeats 4000000 in
set_option maxRecDepth 100000 in
theorem c_X5_unqueue {l : Launch} (hl0 : l.stackTraces = false) {G : GT} {ok : KF} {ad : AD} {σ : SG} (hO : OKC ok) (hB : BD σ) (c : Int32) : Ct l G 4 yX5_unqueue cX5_unqueue 3 (some .int) [.ref (ad 0 0 0), .int c] ok ad σ (oV (k_unqueue σ c) ok ad) (oX (k_unqueue σ c) ok ad σ) 4 24 := by
  refine Ct.mk (by decide +kernel) hl0 (Nat.le_of_ble_eq_true rfl) (fun X hX hC hM => ?_)
  subst hX
  refine v_aload_n hC dX5_unqueue_0 rfl ?_
  refine v_iload_n hC dX5_unqueue_1 rfl ?_
  refine v_callV hC lk_X5_82 dX5_unqueue_2 (c_X5_changeOf hl0 hO hB c) (by decide) (by decide) hO.k0 rfl rfl rfl rfl (Nat.le_of_ble_eq_true rfl) (by omega) (by omega) (fun v μ h => ?_) (fun E μ h => ?_)
  rotate_left
  · obtain ⟨rfl, rfl, he⟩ := h
    exact v_out hC hM (by omega) (by omega) ⟨by simp [k_unqueue, gR, he], rfl⟩
  obtain ⟨rfl, c, h_c, rfl, b_c, b2_c, rfl⟩ := h
  dsimp only
  refine v_astore_n hC dX5_unqueue_5 (by decide) ?_
  refine v_aload_n hC dX5_unqueue_6 rfl ?_
  refine gf_X5_113 hC dX5_unqueue_7 hO (by first | exact b2_c | omega | exact hB.i _ _ _ _ rfl) ?_
  refine v_bipush (v := nI 113) hC dX5_unqueue_10 (by decide) ?_
  refine v_icmp_eqN (tgt := 25) hC dX5_unqueue_12 (by decide) (by first | exact b2_c | omega | exact hB.i _ _ _ _ rfl) (by first | exact b2_c | omega | exact hB.i _ _ _ _ rfl) (fun c_12 => ?_) (fun c_12 => ?_)
  · refine v_aload_n hC dX5_unqueue_25 rfl ?_
    refine v_iload_n hC dX5_unqueue_26 rfl ?_
    refine v_callV_v0 hC lk_X5_164 dX5_unqueue_27 (c_X5_reopen hl0 hO hB b2_c) (by decide) (by decide) hO.k0 rfl rfl rfl rfl (Nat.le_of_ble_eq_true rfl) (by omega) (by omega) ?_
    refine v_aload_n hC dX5_unqueue_30 rfl ?_
    refine gf_X5_32 hC dX5_unqueue_31 hO ?_
    refine gf_X5_159 hC dX5_unqueue_34 hO (i := 0) (by decide) ?_
    refine v_iret hC hM dX5_unqueue_37 (by omega) (by omega) ?_
    exact ⟨_, _, by simp [k_unqueue, gR, h_c, c_12], rfl, rfl⟩
  · exact v_thr (text := "the change is not queued") hC hM tw_ISE (by decide +kernel) (⟨by simp [k_unqueue, gR, h_c, c_12], rfl⟩) (by omega) (by omega) (Nat.le_of_ble_eq_true rfl) dX5_unqueue_15 dX5_unqueue_18 dX5_unqueue_19 dX5_unqueue_21 dX5_unqueue_24

