def mms (σ : SG) (c n : Nat) : Nat := cnt (fun d => decide (mvd σ c d = 63) || decide (mvd σ c d = 110) || decide (mvd σ c d = 115)) n
theorem mvd_31 (σ : SG) (c d : Nat) : mvd σ c d < 2 ^ 31 := Nat.lt_trans (mvd_lt σ c d) (by decide)
set_option maxHeartbeats 4000000 in
set_option maxRecDepth 100000 in
theorem c_X6_missingIn {l : Launch} (hl0 : l.stackTraces = false) {G : GT} {ok : KF} {ad : AD} {σ : SG} (hQ : OKM ok) (hB : BD σ) {c : Nat} (hc : c < 16) : Ct l G 3 yX6_missingIn cX6_missingIn 5 (some .int) [.ref (ad 30 0 0), iv c] ok ad σ (Rt (some (iv (mms σ c 4))) ok ad σ) (NX) 0 0 := by
  refine Ct.mk (by decide +kernel) hl0 (Nat.le_of_ble_eq_true rfl) (fun X hX hC hM => ?_)
  subst hX
  refine v_iconst (v := nI 0) hC dX6_missingIn_0 (by decide) ?_
  refine v_istore_n hC dX6_missingIn_1 (by decide) ?_
  refine v_iconst (v := nI 0) hC dX6_missingIn_2 (by decide) ?_
  refine v_istore_n hC dX6_missingIn_3 (by decide) ?_
  have key : ∀ d, d ≤ 4 → V X G 0 0 ok ad σ [(0, .ref (ad 30 0 0)), (1, iv c), (2, iv (mms σ c d)), (3, iv d)] 4 [] := by
    refine down (4) ?_ ?_
    · refine v_iload_n hC dX6_missingIn_4 rfl ?_
      refine v_iconst (v := nI 4) hC dX6_missingIn_5 (by decide) ?_
      refine v_icmp_geN (tgt := 52) hC dX6_missingIn_6 (by decide) (by first | omega | exact hB _ _ _ _ rfl | exact hB.i _ _ _ _ rfl | assumption | exact b2n_31 _ | exact mvd_31 _ _ _) (by first | omega | exact hB _ _ _ _ rfl | exact hB.i _ _ _ _ rfl | assumption | exact b2n_31 _ | exact mvd_31 _ _ _) (fun c_6 => ?_) (fun c_6 => ?_)
      · refine v_iload_n hC dX6_missingIn_52 rfl ?_
        refine v_iret hC hM dX6_missingIn_53 (by omega) (by omega) ?_
        exact ⟨rfl, rfl⟩
      · exact absurd c_6 (by omega)
    · intro d hp ih 
      refine v_iload_n hC dX6_missingIn_4 rfl ?_
      refine v_iconst (v := nI 4) hC dX6_missingIn_5 (by decide) ?_
      refine v_icmp_geN (tgt := 52) hC dX6_missingIn_6 (by decide) (by first | omega | exact hB _ _ _ _ rfl | exact hB.i _ _ _ _ rfl | assumption | exact b2n_31 _ | exact mvd_31 _ _ _) (by first | omega | exact hB _ _ _ _ rfl | exact hB.i _ _ _ _ rfl | assumption | exact b2n_31 _ | exact mvd_31 _ _ _) (fun c_6 => ?_) (fun c_6 => ?_)
      · exact absurd c_6 (by omega)
      · refine v_aload_n hC dX6_missingIn_9 rfl ?_
        refine v_iload_n hC dX6_missingIn_10 rfl ?_
        refine v_iload_n hC dX6_missingIn_11 rfl ?_
        refine v_callV_r0 hC lk_X6_133 dX6_missingIn_12 (c_X6_verdictOf hl0 hQ hB (by first | omega | exact hB _ _ _ _ rfl | exact hB.i _ _ _ _ rfl | assumption | exact b2n_31 _ | exact mvd_31 _ _ _) (by first | omega | exact hB _ _ _ _ rfl | exact hB.i _ _ _ _ rfl | assumption | exact b2n_31 _ | exact mvd_31 _ _ _)) (by decide) (by decide) hQ.k30 rfl rfl rfl rfl (Nat.le_of_ble_eq_true rfl) (by omega) (by omega) ?_
        refine v_istore hC dX6_missingIn_15 (by decide) ?_
        refine v_iload_n hC dX6_missingIn_17 rfl ?_
        refine v_iload hC dX6_missingIn_18 rfl ?_
        refine v_bipush (v := nI 63) hC dX6_missingIn_20 (by decide) ?_
        refine v_icmp_eqN (tgt := 39) hC dX6_missingIn_22 (by decide) (by first | omega | exact hB _ _ _ _ rfl | exact hB.i _ _ _ _ rfl | assumption | exact b2n_31 _ | exact mvd_31 _ _ _) (by first | omega | exact hB _ _ _ _ rfl | exact hB.i _ _ _ _ rfl | assumption | exact b2n_31 _ | exact mvd_31 _ _ _) (fun c_22 => ?_) (fun c_22 => ?_)
        · refine v_iconst (v := nI 1) hC dX6_missingIn_39 (by decide) ?_
          refine v_goto (tgt := 44) hC dX6_missingIn_40 (by decide) ?_
          refine v_iaddN hC dX6_missingIn_44 ?_
          refine v_istore_n hC dX6_missingIn_45 (by decide) ?_
          refine v_iincN hC dX6_missingIn_46 rfl (by decide) ?_
          refine v_goto (tgt := 4) hC dX6_missingIn_49 (by decide) ?_
          rw [show mms σ c (d + 1) = mms σ c d + 1 from by
            show mms σ c d + b2n (decide (mvd σ c d = 63) || decide (mvd σ c d = 110) || decide (mvd σ c d = 115)) = _
            rw [show (decide (mvd σ c d = 63) || decide (mvd σ c d = 110) || decide (mvd σ c d = 115)) = true from by simp [c_22]]
            rfl] at ih
          exact v_sub rfl ih
        · refine v_iload hC dX6_missingIn_25 rfl ?_
          refine v_bipush (v := nI 110) hC dX6_missingIn_27 (by decide) ?_
          refine v_icmp_eqN (tgt := 39) hC dX6_missingIn_29 (by decide) (by first | omega | exact hB _ _ _ _ rfl | exact hB.i _ _ _ _ rfl | assumption | exact b2n_31 _ | exact mvd_31 _ _ _) (by first | omega | exact hB _ _ _ _ rfl | exact hB.i _ _ _ _ rfl | assumption | exact b2n_31 _ | exact mvd_31 _ _ _) (fun c_29 => ?_) (fun c_29 => ?_)
          · refine v_iconst (v := nI 1) hC dX6_missingIn_39 (by decide) ?_
            refine v_goto (tgt := 44) hC dX6_missingIn_40 (by decide) ?_
            refine v_iaddN hC dX6_missingIn_44 ?_
            refine v_istore_n hC dX6_missingIn_45 (by decide) ?_
            refine v_iincN hC dX6_missingIn_46 rfl (by decide) ?_
            refine v_goto (tgt := 4) hC dX6_missingIn_49 (by decide) ?_
            rw [show mms σ c (d + 1) = mms σ c d + 1 from by
              show mms σ c d + b2n (decide (mvd σ c d = 63) || decide (mvd σ c d = 110) || decide (mvd σ c d = 115)) = _
              rw [show (decide (mvd σ c d = 63) || decide (mvd σ c d = 110) || decide (mvd σ c d = 115)) = true from by simp [c_29]]
              rfl] at ih
            exact v_sub rfl ih
          · refine v_iload hC dX6_missingIn_32 rfl ?_
            refine v_bipush (v := nI 115) hC dX6_missingIn_34 (by decide) ?_
            refine v_icmp_neN (tgt := 43) hC dX6_missingIn_36 (by decide) (by first | omega | exact hB _ _ _ _ rfl | exact hB.i _ _ _ _ rfl | assumption | exact b2n_31 _ | exact mvd_31 _ _ _) (by first | omega | exact hB _ _ _ _ rfl | exact hB.i _ _ _ _ rfl | assumption | exact b2n_31 _ | exact mvd_31 _ _ _) (fun c_36 => ?_) (fun c_36 => ?_)
            · refine v_iconst (v := nI 0) hC dX6_missingIn_43 (by decide) ?_
              refine v_iaddN hC dX6_missingIn_44 ?_
              refine v_istore_n hC dX6_missingIn_45 (by decide) ?_
              refine v_iincN hC dX6_missingIn_46 rfl (by decide) ?_
              refine v_goto (tgt := 4) hC dX6_missingIn_49 (by decide) ?_
              rw [show mms σ c (d + 1) = mms σ c d + 0 from by
                show mms σ c d + b2n (decide (mvd σ c d = 63) || decide (mvd σ c d = 110) || decide (mvd σ c d = 115)) = _
                rw [show (decide (mvd σ c d = 63) || decide (mvd σ c d = 110) || decide (mvd σ c d = 115)) = false from by simp [c_22, c_29, c_36]]
                rfl] at ih
              exact v_sub rfl ih
            · refine v_iconst (v := nI 1) hC dX6_missingIn_39 (by decide) ?_
              refine v_goto (tgt := 44) hC dX6_missingIn_40 (by decide) ?_
              refine v_iaddN hC dX6_missingIn_44 ?_
              refine v_istore_n hC dX6_missingIn_45 (by decide) ?_
              refine v_iincN hC dX6_missingIn_46 rfl (by decide) ?_
              refine v_goto (tgt := 4) hC dX6_missingIn_49 (by decide) ?_
              rw [show mms σ c (d + 1) = mms σ c d + 1 from by
                show mms σ c d + b2n (decide (mvd σ c d = 63) || decide (mvd σ c d = 110) || decide (mvd σ c d = 115)) = _
                rw [show (decide (mvd σ c d = 63) || decide (mvd σ c d = 110) || decide (mvd σ c d = 115)) = true from by simp [c_36]]
                rfl] at ih
              exact v_sub rfl ih
  exact v_sub rfl (key 0 (Nat.zero_le _))

/-- what a test of a change and its state says -/
abbrev unV (x : Int32) (s : Nat) (ok : KF) (ad : AD) (σ : SG) : Option Value → MT → Prop := fun v μ => (inR x (σ 30 0 0 2) = none ∧ v = some (iv 1) ∧ μ = (ok, ad, th σ 1)) ∨ ∃ k, inR x (σ 30 0 0 2) = some k ∧ x = nI k ∧ k < 16 ∧ k < σ 30 0 0 2 ∧ ((σ 52 0 0 k ≠ s ∧ v = some (iv 1) ∧ μ = (ok, ad, th σ 2)) ∨ (σ 52 0 0 k = s ∧ v = some (iv 0) ∧ μ = (ok, ad, σ)))
set_option maxHeartbeats 4000000 in
set_option maxRecDepth 100000 in
theorem c_X6_isUnlike {l : Launch} (hl0 : l.stackTraces = false) {G : GT} {ok : KF} {ad : AD} {σ : SG} (hQ : OKM ok) (hB : BD σ) {x : Int32} {s : Nat} (hs : s < 65536) : Ct l G 2 yX6_isUnlike cX6_isUnlike 3 (some .boolean) [.ref (ad 30 0 0), .int x, iv s] ok ad σ (unV x s ok ad (th σ 0)) (NX) 0 0 := by
  refine Ct.mk (by decide +kernel) hl0 (Nat.le_of_ble_eq_true rfl) (fun X hX hC hM => ?_)
  subst hX
  have hn17 : σ 30 0 0 2 < 17 := hB 30 0 0 2 rfl
  refine v_aload_n hC dX6_isUnlike_0 rfl ?_
  refine v_aload_n hC dX6_isUnlike_1 rfl ?_
  refine v_iload_n hC dX6_isUnlike_2 rfl ?_
  refine v_callV hC lk_X6_106 dX6_isUnlike_3 (c_X6_isChange hl0 hQ hB (x := x)) (by decide) (by decide) hQ.k30 rfl rfl rfl rfl (Nat.le_of_ble_eq_true rfl) (by omega) (by omega) (fun v μ h => ?_) (fun _ _ h => h.elim)
  rcases h with ⟨h1, rfl, rfl⟩ | ⟨k, h1, rfl, h2, rfl, rfl⟩
  · dsimp only
    refine v_if_neN (tgt := 13) hC dX6_isUnlike_6 (by decide) (by decide) (fun c_6 => absurd c_6 (by decide)) (fun c_6 => ?_)
    refine v_iconst (v := nI 1) hC dX6_isUnlike_9 (by decide) ?_
    refine v_goto (tgt := 28) hC dX6_isUnlike_10 (by decide) ?_
    refine pf_X6_1 hC dX6_isUnlike_28 hQ ?_
    refine v_aload_n hC dX6_isUnlike_31 rfl ?_
    refine gf_X6_1 hC dX6_isUnlike_32 hQ ?_
    rw [up_same]
    refine v_if_leN (tgt := 42) hC dX6_isUnlike_35 (by decide) (by decide) (fun c_35 => absurd c_35 (by decide)) (fun c_35 => ?_)
    refine v_iconst (v := nI 1) hC dX6_isUnlike_38 (by decide) ?_
    refine v_goto (tgt := 43) hC dX6_isUnlike_39 (by decide) ?_
    refine v_zret hC hM dX6_isUnlike_43 (by first | exact nar_z b_of1 | exact nar_z b_of0) (by omega) (by omega) ?_
    exact .inl ⟨h1, rfl, congrArg (fun z => (ok, ad, z)) (up_up σ 30 0 0 0 0 1).symm⟩
  · dsimp only
    have hk16 : k < 16 := by omega
    refine v_if_neN (tgt := 13) hC dX6_isUnlike_6 (by decide) (by decide) (fun c_6 => ?_) (fun c_6 => absurd c_6 (by decide))
    refine v_aload_n hC dX6_isUnlike_13 rfl ?_
    refine gf_X6_75 hC dX6_isUnlike_14 hQ ?_
    refine v_iload_n hC dX6_isUnlike_17 rfl ?_
    refine al_52 hC dX6_isUnlike_18 hQ (by first | omega | exact hB _ _ _ _ rfl | exact hB.i _ _ _ _ rfl | assumption | exact b2n_31 _ | exact Nat.lt_trans (hB 52 0 0 _ rfl) (show (65536 : Nat) < 2 ^ 31 by decide)) ?_
    refine v_iload_n hC dX6_isUnlike_19 rfl ?_
    refine v_icmp_neN (tgt := 27) hC dX6_isUnlike_20 (by decide) (by first | omega | exact hB _ _ _ _ rfl | exact hB.i _ _ _ _ rfl | assumption | exact b2n_31 _ | exact Nat.lt_trans (hB 52 0 0 _ rfl) (show (65536 : Nat) < 2 ^ 31 by decide)) (by first | omega | exact hB _ _ _ _ rfl | exact hB.i _ _ _ _ rfl | assumption | exact b2n_31 _ | exact Nat.lt_trans (hB 52 0 0 _ rfl) (show (65536 : Nat) < 2 ^ 31 by decide)) (fun c_20 => ?_) (fun c_20 => ?_)
    · refine v_iconst (v := nI 2) hC dX6_isUnlike_27 (by decide) ?_
      refine pf_X6_1 hC dX6_isUnlike_28 hQ ?_
      refine v_aload_n hC dX6_isUnlike_31 rfl ?_
      refine gf_X6_1 hC dX6_isUnlike_32 hQ ?_
      rw [up_same]
      refine v_if_leN (tgt := 42) hC dX6_isUnlike_35 (by decide) (by decide) (fun c_35 => absurd c_35 (by decide)) (fun c_35 => ?_)
      refine v_iconst (v := nI 1) hC dX6_isUnlike_38 (by decide) ?_
      refine v_goto (tgt := 43) hC dX6_isUnlike_39 (by decide) ?_
      refine v_zret hC hM dX6_isUnlike_43 (by first | exact nar_z b_of1 | exact nar_z b_of0) (by omega) (by omega) ?_
      exact .inr ⟨k, h1, rfl, hk16, h2, .inl ⟨c_20, rfl, congrArg (fun z => (ok, ad, z)) (up_up σ 30 0 0 0 0 2).symm⟩⟩
    · refine v_iconst (v := nI 0) hC dX6_isUnlike_23 (by decide) ?_
      refine v_goto (tgt := 28) hC dX6_isUnlike_24 (by decide) ?_
      refine pf_X6_1 hC dX6_isUnlike_28 hQ ?_
      refine v_aload_n hC dX6_isUnlike_31 rfl ?_
      refine gf_X6_1 hC dX6_isUnlike_32 hQ ?_
      rw [up_same]
      refine v_if_leN (tgt := 42) hC dX6_isUnlike_35 (by decide) (by decide) (fun c_35 => ?_) (fun c_35 => absurd c_35 (by decide))
      refine v_iconst (v := nI 0) hC dX6_isUnlike_42 (by decide) ?_
      refine v_zret hC hM dX6_isUnlike_43 (by first | exact nar_z b_of1 | exact nar_z b_of0) (by omega) (by omega) ?_
      exact .inr ⟨k, h1, rfl, hk16, h2, .inr ⟨c_20, rfl, rfl⟩⟩

def mct (σ : SG) (t d : Nat) : Bool := decide (σ 35 0 0 t = 0) && decide (σ 32 0 0 t / 16 = d)
set_option maxHeartbeats 4000000 in
set_option maxRecDepth 100000 in
theorem c_X6_counts {l : Launch} (hl0 : l.stackTraces = false) {G : GT} {ok : KF} {ad : AD} {σ : SG} (hQ : OKM ok) (hB : BD σ) {t d : Nat} (ht : t < 12) (hd : d < 4) : Ct l G 1 yX6_counts cX6_counts 3 (some .boolean) [.ref (ad 30 0 0), iv t, iv d] ok ad σ (Rt (some (iv (b2n (mct σ t d)))) ok ad σ) (NX) 0 0 := by
  refine Ct.mk (by decide +kernel) hl0 (Nat.le_of_ble_eq_true rfl) (fun X hX hC hM => ?_)
  subst hX
  refine v_aload_n hC dX6_counts_0 rfl ?_
  refine gf_X6_30 hC dX6_counts_1 hQ ?_
  refine v_iload_n hC dX6_counts_4 rfl ?_
  refine al_35 hC dX6_counts_5 hQ (by first | omega | exact hB _ _ _ _ rfl | exact hB.i _ _ _ _ rfl | assumption | exact b2n_31 _ | exact Nat.lt_of_le_of_lt (Nat.div_le_self _ _) (hB.i 32 0 0 _ rfl)) ?_
  refine v_if_neN (tgt := 26) hC dX6_counts_6 (by decide) (by first | omega | exact hB _ _ _ _ rfl | exact hB.i _ _ _ _ rfl | assumption | exact b2n_31 _ | exact Nat.lt_of_le_of_lt (Nat.div_le_self _ _) (hB.i 32 0 0 _ rfl)) (fun c_6 => ?_) (fun c_6 => ?_)
  · refine v_iconst (v := nI 0) hC dX6_counts_26 (by decide) ?_
    refine v_zret hC hM dX6_counts_27 (by first | exact nar_z b_of1 | exact nar_z b_of0) (by omega) (by omega) ?_
    exact ⟨by rw [show mct σ t d = false from by simp [mct, c_6]] <;> rfl, rfl⟩
  · refine v_aload_n hC dX6_counts_9 rfl ?_
    refine gf_X6_21 hC dX6_counts_10 hQ ?_
    refine v_iload_n hC dX6_counts_13 rfl ?_
    refine al_32 hC dX6_counts_14 hQ (by first | omega | exact hB _ _ _ _ rfl | exact hB.i _ _ _ _ rfl | assumption | exact b2n_31 _ | exact Nat.lt_of_le_of_lt (Nat.div_le_self _ _) (hB.i 32 0 0 _ rfl)) ?_
    refine v_callS_r0 hC lk_X6_120 dX6_counts_15 (c_X6_directoryOf hl0 (by first | omega | exact hB _ _ _ _ rfl | exact hB.i _ _ _ _ rfl | assumption | exact b2n_31 _ | exact Nat.lt_of_le_of_lt (Nat.div_le_self _ _) (hB.i 32 0 0 _ rfl))) (by decide) (by decide) rfl rfl (Nat.le_of_ble_eq_true rfl) (by omega) (by omega) ?_
    refine v_iload_n hC dX6_counts_18 rfl ?_
    refine v_icmp_neN (tgt := 26) hC dX6_counts_19 (by decide) (by first | omega | exact hB _ _ _ _ rfl | exact hB.i _ _ _ _ rfl | assumption | exact b2n_31 _ | exact Nat.lt_of_le_of_lt (Nat.div_le_self _ _) (hB.i 32 0 0 _ rfl)) (by first | omega | exact hB _ _ _ _ rfl | exact hB.i _ _ _ _ rfl | assumption | exact b2n_31 _ | exact Nat.lt_of_le_of_lt (Nat.div_le_self _ _) (hB.i 32 0 0 _ rfl)) (fun c_19 => ?_) (fun c_19 => ?_)
    · refine v_iconst (v := nI 0) hC dX6_counts_26 (by decide) ?_
      refine v_zret hC hM dX6_counts_27 (by first | exact nar_z b_of1 | exact nar_z b_of0) (by omega) (by omega) ?_
      exact ⟨by rw [show mct σ t d = false from by simp [mct, c_19]] <;> rfl, rfl⟩
    · refine v_iconst (v := nI 1) hC dX6_counts_22 (by decide) ?_
      refine v_goto (tgt := 27) hC dX6_counts_23 (by decide) ?_
      refine v_zret hC hM dX6_counts_27 (by first | exact nar_z b_of1 | exact nar_z b_of0) (by omega) (by omega) ?_
      exact ⟨by rw [show mct σ t d = true from by simp [mct, c_6, c_19]] <;> rfl, rfl⟩

def mps (σ : SG) (v : Nat → Nat) (t : Nat) : Bool := decide (v (σ 32 0 0 t) + v (σ 33 0 0 t) ≤ σ 34 0 0 t)
def mgo (σ : SG) (v : Nat → Nat) (d n : Nat) : Bool := allB (fun t => !(mct σ t d) || mps σ v t) 0 n
theorem add_31 {a b : Nat} (ha : a < 100) (hb : b < 100) : a + b < 2 ^ 31 := Nat.lt_trans (Nat.add_lt_add ha hb) (by decide)
set_option maxHeartbeats 4000000 in
set_option maxRecDepth 100000 in
theorem c_X6_isGoodOn_31 {l : Launch} (hl0 : l.stackTraces = false) {G : GT} {ok : KF} {ad : AD} {σ : SG} (hQ : OKM ok) (hB : BD σ) {d : Nat} (hd : d < 4) : Ct l G 2 yX6_isGoodOn cX6_isGoodOn 4 (some .boolean) [.ref (ad 30 0 0), .ref (ad 31 0 0), iv d] ok ad σ (Rt (some (iv (b2n (mgo σ (σ 31 0 0) d (σ 30 0 0 1))))) ok ad σ) (NX) 0 0 := by
  refine Ct.mk (by decide +kernel) hl0 (Nat.le_of_ble_eq_true rfl) (fun X hX hC hM => ?_)
  subst hX
  have hn13 : σ 30 0 0 1 < 13 := hB 30 0 0 1 rfl
  refine v_iconst (v := nI 0) hC dX6_isGoodOn_0 (by decide) ?_
  refine v_istore_n hC dX6_isGoodOn_1 (by decide) ?_
  have key : ∀ t, t ≤ σ 30 0 0 1 → (∀ q, q < t → (!(mct σ q d) || mps σ (σ 31 0 0) q) = true) → V X G 0 0 ok ad σ [(0, .ref (ad 30 0 0)), (1, .ref (ad 31 0 0)), (2, iv d), (3, iv t)] 2 [] := by
    refine down (σ 30 0 0 1) ?_ ?_
    · intro hq
      refine v_iload_n hC dX6_isGoodOn_2 rfl ?_
      refine v_aload_n hC dX6_isGoodOn_3 rfl ?_
      refine gf_X6_150 hC dX6_isGoodOn_4 hQ ?_
      refine v_icmp_geN (tgt := 53) hC dX6_isGoodOn_7 (by decide) (by first | omega | exact hB _ _ _ _ rfl | exact hB.i _ _ _ _ rfl | assumption | exact b2n_31 _ | exact add_31 (hB _ _ _ _ rfl) (hB _ _ _ _ rfl)) (by first | omega | exact hB _ _ _ _ rfl | exact hB.i _ _ _ _ rfl | assumption | exact b2n_31 _ | exact add_31 (hB _ _ _ _ rfl) (hB _ _ _ _ rfl)) (fun c_7 => ?_) (fun c_7 => ?_)
      · refine v_iconst (v := nI 1) hC dX6_isGoodOn_53 (by decide) ?_
        refine v_zret hC hM dX6_isGoodOn_54 (by first | exact nar_z b_of1 | exact nar_z b_of0) (by omega) (by omega) ?_
        exact ⟨by rw [show mgo σ (σ 31 0 0) d (σ 30 0 0 1) = true from (allB_iff _ 0 _).mpr (fun q _ h => hq q (by omega))] <;> rfl, rfl⟩
      · exact absurd c_7 (by omega)
    · intro t hp ih hq
      refine v_iload_n hC dX6_isGoodOn_2 rfl ?_
      refine v_aload_n hC dX6_isGoodOn_3 rfl ?_
      refine gf_X6_150 hC dX6_isGoodOn_4 hQ ?_
      refine v_icmp_geN (tgt := 53) hC dX6_isGoodOn_7 (by decide) (by first | omega | exact hB _ _ _ _ rfl | exact hB.i _ _ _ _ rfl | assumption | exact b2n_31 _ | exact add_31 (hB _ _ _ _ rfl) (hB _ _ _ _ rfl)) (by first | omega | exact hB _ _ _ _ rfl | exact hB.i _ _ _ _ rfl | assumption | exact b2n_31 _ | exact add_31 (hB _ _ _ _ rfl) (hB _ _ _ _ rfl)) (fun c_7 => ?_) (fun c_7 => ?_)
      · exact absurd c_7 (by omega)
      · refine v_aload_n hC dX6_isGoodOn_10 rfl ?_
        refine v_iload_n hC dX6_isGoodOn_11 rfl ?_
        refine v_iload_n hC dX6_isGoodOn_12 rfl ?_
        refine v_callV_r0 hC lk_X6_153 dX6_isGoodOn_13 (c_X6_counts hl0 hQ hB (by first | omega | exact hB _ _ _ _ rfl | exact hB.i _ _ _ _ rfl | assumption | exact b2n_31 _ | exact add_31 (hB _ _ _ _ rfl) (hB _ _ _ _ rfl)) (by first | omega | exact hB _ _ _ _ rfl | exact hB.i _ _ _ _ rfl | assumption | exact b2n_31 _ | exact add_31 (hB _ _ _ _ rfl) (hB _ _ _ _ rfl))) (by decide) (by decide) hQ.k30 rfl rfl rfl rfl (Nat.le_of_ble_eq_true rfl) (by omega) (by omega) ?_
        refine v_if_eqN (tgt := 47) hC dX6_isGoodOn_16 (by decide) (by first | omega | exact hB _ _ _ _ rfl | exact hB.i _ _ _ _ rfl | assumption | exact b2n_31 _ | exact add_31 (hB _ _ _ _ rfl) (hB _ _ _ _ rfl)) (fun c_16 => ?_) (fun c_16 => ?_)
        · refine v_iincN hC dX6_isGoodOn_47 rfl (by decide) ?_
          refine v_goto (tgt := 2) hC dX6_isGoodOn_50 (by decide) ?_
          refine v_sub rfl (ih (fun q h2 => ?_))
          by_cases e : q = t
          · subst e
            simp [b2n_0 c_16]
          · exact hq q (by omega)
        · refine v_aload_n hC dX6_isGoodOn_19 rfl ?_
          refine v_aload_n hC dX6_isGoodOn_20 rfl ?_
          refine gf_X6_21 hC dX6_isGoodOn_21 hQ ?_
          refine v_iload_n hC dX6_isGoodOn_24 rfl ?_
          refine al_32 hC dX6_isGoodOn_25 hQ (by first | omega | exact hB _ _ _ _ rfl | exact hB.i _ _ _ _ rfl | assumption | exact b2n_31 _ | exact add_31 (hB _ _ _ _ rfl) (hB _ _ _ _ rfl)) ?_
          refine al_31 hC dX6_isGoodOn_26 hQ (by first | omega | exact hB _ _ _ _ rfl | exact hB.i _ _ _ _ rfl | assumption | exact b2n_31 _ | exact add_31 (hB _ _ _ _ rfl) (hB _ _ _ _ rfl)) ?_
          refine v_aload_n hC dX6_isGoodOn_27 rfl ?_
          refine v_aload_n hC dX6_isGoodOn_28 rfl ?_
          refine gf_X6_24 hC dX6_isGoodOn_29 hQ ?_
          refine v_iload_n hC dX6_isGoodOn_32 rfl ?_
          refine al_33 hC dX6_isGoodOn_33 hQ (by first | omega | exact hB _ _ _ _ rfl | exact hB.i _ _ _ _ rfl | assumption | exact b2n_31 _ | exact add_31 (hB _ _ _ _ rfl) (hB _ _ _ _ rfl)) ?_
          refine al_31 hC dX6_isGoodOn_34 hQ (by first | omega | exact hB _ _ _ _ rfl | exact hB.i _ _ _ _ rfl | assumption | exact b2n_31 _ | exact add_31 (hB _ _ _ _ rfl) (hB _ _ _ _ rfl)) ?_
          refine v_iaddN hC dX6_isGoodOn_35 ?_
          refine v_aload_n hC dX6_isGoodOn_36 rfl ?_
          refine gf_X6_27 hC dX6_isGoodOn_37 hQ ?_
          refine v_iload_n hC dX6_isGoodOn_40 rfl ?_
          refine al_34 hC dX6_isGoodOn_41 hQ (by first | omega | exact hB _ _ _ _ rfl | exact hB.i _ _ _ _ rfl | assumption | exact b2n_31 _ | exact add_31 (hB _ _ _ _ rfl) (hB _ _ _ _ rfl)) ?_
          refine v_icmp_leN (tgt := 47) hC dX6_isGoodOn_42 (by decide) (by first | omega | exact hB _ _ _ _ rfl | exact hB.i _ _ _ _ rfl | assumption | exact b2n_31 _ | exact add_31 (hB _ _ _ _ rfl) (hB _ _ _ _ rfl)) (by first | omega | exact hB _ _ _ _ rfl | exact hB.i _ _ _ _ rfl | assumption | exact b2n_31 _ | exact add_31 (hB _ _ _ _ rfl) (hB _ _ _ _ rfl)) (fun c_42 => ?_) (fun c_42 => ?_)
          · refine v_iincN hC dX6_isGoodOn_47 rfl (by decide) ?_
            refine v_goto (tgt := 2) hC dX6_isGoodOn_50 (by decide) ?_
            refine v_sub rfl (ih (fun q h2 => ?_))
            by_cases e : q = t
            · subst e
              simp [mps, c_42]
            · exact hq q (by omega)
          · refine v_iconst (v := nI 0) hC dX6_isGoodOn_45 (by decide) ?_
            refine v_zret hC hM dX6_isGoodOn_46 (by first | exact nar_z b_of1 | exact nar_z b_of0) (by omega) (by omega) ?_
            exact ⟨by rw [show mgo σ (σ 31 0 0) d (σ 30 0 0 1) = false from allB_no (q := t) (Nat.zero_le _) (by omega) (by simp [mps, b2n_1 c_16, Nat.not_le.mpr c_42])] <;> rfl, rfl⟩
  exact v_sub rfl (key 0 (Nat.zero_le _) (fun q h => absurd h (by omega)))

set_option maxHeartbeats 4000000 in
set_option maxRecDepth 100000 in
theorem c_X6_isGoodOn_62 {l : Launch} (hl0 : l.stackTraces = false) {G : GT} {ok : KF} {ad : AD} {σ : SG} (hQ : OKM ok) (hB : BD σ) {i : Nat} (hk : ok 62 i 0) {d : Nat} (hd : d < 4) : Ct l G 2 yX6_isGoodOn cX6_isGoodOn 4 (some .boolean) [.ref (ad 30 0 0), .ref (ad 62 i 0), iv d] ok ad σ (Rt (some (iv (b2n (mgo σ (σ 62 i 0) d (σ 30 0 0 1))))) ok ad σ) (NX) 0 0 := by
  refine Ct.mk (by decide +kernel) hl0 (Nat.le_of_ble_eq_true rfl) (fun X hX hC hM => ?_)
  subst hX
  have hn13 : σ 30 0 0 1 < 13 := hB 30 0 0 1 rfl
  refine v_iconst (v := nI 0) hC dX6_isGoodOn_0 (by decide) ?_
  refine v_istore_n hC dX6_isGoodOn_1 (by decide) ?_
  have key : ∀ t, t ≤ σ 30 0 0 1 → (∀ q, q < t → (!(mct σ q d) || mps σ (σ 62 i 0) q) = true) → V X G 0 0 ok ad σ [(0, .ref (ad 30 0 0)), (1, .ref (ad 62 i 0)), (2, iv d), (3, iv t)] 2 [] := by
    refine down (σ 30 0 0 1) ?_ ?_
    · intro hq
      refine v_iload_n hC dX6_isGoodOn_2 rfl ?_
      refine v_aload_n hC dX6_isGoodOn_3 rfl ?_
      refine gf_X6_150 hC dX6_isGoodOn_4 hQ ?_
      refine v_icmp_geN (tgt := 53) hC dX6_isGoodOn_7 (by decide) (by first | omega | exact hB _ _ _ _ rfl | exact hB.i _ _ _ _ rfl | assumption | exact b2n_31 _ | exact add_31 (hB _ _ _ _ rfl) (hB _ _ _ _ rfl)) (by first | omega | exact hB _ _ _ _ rfl | exact hB.i _ _ _ _ rfl | assumption | exact b2n_31 _ | exact add_31 (hB _ _ _ _ rfl) (hB _ _ _ _ rfl)) (fun c_7 => ?_) (fun c_7 => ?_)
      · refine v_iconst (v := nI 1) hC dX6_isGoodOn_53 (by decide) ?_
        refine v_zret hC hM dX6_isGoodOn_54 (by first | exact nar_z b_of1 | exact nar_z b_of0) (by omega) (by omega) ?_
        exact ⟨by rw [show mgo σ (σ 62 i 0) d (σ 30 0 0 1) = true from (allB_iff _ 0 _).mpr (fun q _ h => hq q (by omega))] <;> rfl, rfl⟩
      · exact absurd c_7 (by omega)
    · intro t hp ih hq
      refine v_iload_n hC dX6_isGoodOn_2 rfl ?_
      refine v_aload_n hC dX6_isGoodOn_3 rfl ?_
      refine gf_X6_150 hC dX6_isGoodOn_4 hQ ?_
      refine v_icmp_geN (tgt := 53) hC dX6_isGoodOn_7 (by decide) (by first | omega | exact hB _ _ _ _ rfl | exact hB.i _ _ _ _ rfl | assumption | exact b2n_31 _ | exact add_31 (hB _ _ _ _ rfl) (hB _ _ _ _ rfl)) (by first | omega | exact hB _ _ _ _ rfl | exact hB.i _ _ _ _ rfl | assumption | exact b2n_31 _ | exact add_31 (hB _ _ _ _ rfl) (hB _ _ _ _ rfl)) (fun c_7 => ?_) (fun c_7 => ?_)
      · exact absurd c_7 (by omega)
      · refine v_aload_n hC dX6_isGoodOn_10 rfl ?_
        refine v_iload_n hC dX6_isGoodOn_11 rfl ?_
        refine v_iload_n hC dX6_isGoodOn_12 rfl ?_
        refine v_callV_r0 hC lk_X6_153 dX6_isGoodOn_13 (c_X6_counts hl0 hQ hB (by first | omega | exact hB _ _ _ _ rfl | exact hB.i _ _ _ _ rfl | assumption | exact b2n_31 _ | exact add_31 (hB _ _ _ _ rfl) (hB _ _ _ _ rfl)) (by first | omega | exact hB _ _ _ _ rfl | exact hB.i _ _ _ _ rfl | assumption | exact b2n_31 _ | exact add_31 (hB _ _ _ _ rfl) (hB _ _ _ _ rfl))) (by decide) (by decide) hQ.k30 rfl rfl rfl rfl (Nat.le_of_ble_eq_true rfl) (by omega) (by omega) ?_
        refine v_if_eqN (tgt := 47) hC dX6_isGoodOn_16 (by decide) (by first | omega | exact hB _ _ _ _ rfl | exact hB.i _ _ _ _ rfl | assumption | exact b2n_31 _ | exact add_31 (hB _ _ _ _ rfl) (hB _ _ _ _ rfl)) (fun c_16 => ?_) (fun c_16 => ?_)
        · refine v_iincN hC dX6_isGoodOn_47 rfl (by decide) ?_
          refine v_goto (tgt := 2) hC dX6_isGoodOn_50 (by decide) ?_
          refine v_sub rfl (ih (fun q h2 => ?_))
          by_cases e : q = t
          · subst e
            simp [b2n_0 c_16]
          · exact hq q (by omega)
        · refine v_aload_n hC dX6_isGoodOn_19 rfl ?_
          refine v_aload_n hC dX6_isGoodOn_20 rfl ?_
          refine gf_X6_21 hC dX6_isGoodOn_21 hQ ?_
          refine v_iload_n hC dX6_isGoodOn_24 rfl ?_
          refine al_32 hC dX6_isGoodOn_25 hQ (by first | omega | exact hB _ _ _ _ rfl | exact hB.i _ _ _ _ rfl | assumption | exact b2n_31 _ | exact add_31 (hB _ _ _ _ rfl) (hB _ _ _ _ rfl)) ?_
          refine al_62 hC dX6_isGoodOn_26 hk (by first | omega | exact hB _ _ _ _ rfl | exact hB.i _ _ _ _ rfl | assumption | exact b2n_31 _ | exact add_31 (hB _ _ _ _ rfl) (hB _ _ _ _ rfl)) ?_
          refine v_aload_n hC dX6_isGoodOn_27 rfl ?_
          refine v_aload_n hC dX6_isGoodOn_28 rfl ?_
          refine gf_X6_24 hC dX6_isGoodOn_29 hQ ?_
          refine v_iload_n hC dX6_isGoodOn_32 rfl ?_
          refine al_33 hC dX6_isGoodOn_33 hQ (by first | omega | exact hB _ _ _ _ rfl | exact hB.i _ _ _ _ rfl | assumption | exact b2n_31 _ | exact add_31 (hB _ _ _ _ rfl) (hB _ _ _ _ rfl)) ?_
          refine al_62 hC dX6_isGoodOn_34 hk (by first | omega | exact hB _ _ _ _ rfl | exact hB.i _ _ _ _ rfl | assumption | exact b2n_31 _ | exact add_31 (hB _ _ _ _ rfl) (hB _ _ _ _ rfl)) ?_
          refine v_iaddN hC dX6_isGoodOn_35 ?_
          refine v_aload_n hC dX6_isGoodOn_36 rfl ?_
          refine gf_X6_27 hC dX6_isGoodOn_37 hQ ?_
          refine v_iload_n hC dX6_isGoodOn_40 rfl ?_
          refine al_34 hC dX6_isGoodOn_41 hQ (by first | omega | exact hB _ _ _ _ rfl | exact hB.i _ _ _ _ rfl | assumption | exact b2n_31 _ | exact add_31 (hB _ _ _ _ rfl) (hB _ _ _ _ rfl)) ?_
          refine v_icmp_leN (tgt := 47) hC dX6_isGoodOn_42 (by decide) (by first | omega | exact hB _ _ _ _ rfl | exact hB.i _ _ _ _ rfl | assumption | exact b2n_31 _ | exact add_31 (hB _ _ _ _ rfl) (hB _ _ _ _ rfl)) (by first | omega | exact hB _ _ _ _ rfl | exact hB.i _ _ _ _ rfl | assumption | exact b2n_31 _ | exact add_31 (hB _ _ _ _ rfl) (hB _ _ _ _ rfl)) (fun c_42 => ?_) (fun c_42 => ?_)
          · refine v_iincN hC dX6_isGoodOn_47 rfl (by decide) ?_
            refine v_goto (tgt := 2) hC dX6_isGoodOn_50 (by decide) ?_
            refine v_sub rfl (ih (fun q h2 => ?_))
            by_cases e : q = t
            · subst e
              simp [mps, c_42]
            · exact hq q (by omega)
          · refine v_iconst (v := nI 0) hC dX6_isGoodOn_45 (by decide) ?_
            refine v_zret hC hM dX6_isGoodOn_46 (by first | exact nar_z b_of1 | exact nar_z b_of0) (by omega) (by omega) ?_
            exact ⟨by rw [show mgo σ (σ 62 i 0) d (σ 30 0 0 1) = false from allB_no (q := t) (Nat.zero_le _) (by omega) (by simp [mps, b2n_1 c_16, Nat.not_le.mpr c_42])] <;> rfl, rfl⟩
  exact v_sub rfl (key 0 (Nat.zero_le _) (fun q h => absurd h (by omega)))

def msh (σ : SG) (c o : Nat) : Bool := !allB (fun p => !(decide (σ 41 c 0 p ≠ 0) && decide (σ 41 o 0 p ≠ 0))) 0 64
set_option maxHeartbeats 4000000 in
set_option maxRecDepth 100000 in
theorem c_X6_shares {l : Launch} (hl0 : l.stackTraces = false) {G : GT} {ok : KF} {ad : AD} {σ : SG} (hQ : OKM ok) (hB : BD σ) {c : Nat} (hc : c < 16) {o : Nat} (ho : o < 16) : Ct l G 0 yX6_shares cX6_shares 4 (some .boolean) [.ref (ad 30 0 0), iv c, iv o] ok ad σ (Rt (some (iv (b2n (msh σ c o)))) ok ad σ) (NX) 0 0 := by
  refine Ct.mk (by decide +kernel) hl0 (Nat.le_of_ble_eq_true rfl) (fun X hX hC hM => ?_)
  subst hX
  refine v_iconst (v := nI 0) hC dX6_shares_0 (by decide) ?_
  refine v_istore_n hC dX6_shares_1 (by decide) ?_
  have key : ∀ p, p ≤ 64 → (∀ q, q < p → (!(decide (σ 41 c 0 q ≠ 0) && decide (σ 41 o 0 q ≠ 0))) = true) → V X G 0 0 ok ad σ [(0, .ref (ad 30 0 0)), (1, iv c), (2, iv o), (3, iv p)] 2 [] := by
    refine down (64) ?_ ?_
    · intro hq
      refine v_iload_n hC dX6_shares_2 rfl ?_
      refine v_bipush (v := nI 64) hC dX6_shares_3 (by decide) ?_
      refine v_icmp_geN (tgt := 38) hC dX6_shares_5 (by decide) (by first | omega | exact hB _ _ _ _ rfl | exact hB.i _ _ _ _ rfl | assumption | exact b2n_31 _) (by first | omega | exact hB _ _ _ _ rfl | exact hB.i _ _ _ _ rfl | assumption | exact b2n_31 _) (fun c_5 => ?_) (fun c_5 => ?_)
      · refine v_iconst (v := nI 0) hC dX6_shares_38 (by decide) ?_
        refine v_zret hC hM dX6_shares_39 (by first | exact nar_z b_of1 | exact nar_z b_of0) (by omega) (by omega) ?_
        exact ⟨by rw [show msh σ c o = false from by unfold msh; rw [(allB_iff _ 0 64).mpr (fun q _ h => hq q (by omega))]; rfl] <;> rfl, rfl⟩
      · exact absurd c_5 (by omega)
    · intro p hp ih hq
      refine v_iload_n hC dX6_shares_2 rfl ?_
      refine v_bipush (v := nI 64) hC dX6_shares_3 (by decide) ?_
      refine v_icmp_geN (tgt := 38) hC dX6_shares_5 (by decide) (by first | omega | exact hB _ _ _ _ rfl | exact hB.i _ _ _ _ rfl | assumption | exact b2n_31 _) (by first | omega | exact hB _ _ _ _ rfl | exact hB.i _ _ _ _ rfl | assumption | exact b2n_31 _) (fun c_5 => ?_) (fun c_5 => ?_)
      · exact absurd c_5 (by omega)
      · refine v_aload_n hC dX6_shares_8 rfl ?_
        refine gf_X6_48 hC dX6_shares_9 hQ ?_
        refine v_iload_n hC dX6_shares_12 rfl ?_
        refine al_40 hC dX6_shares_13 hQ (by first | omega | exact hB _ _ _ _ rfl | exact hB.i _ _ _ _ rfl | assumption | exact b2n_31 _) ?_
        refine v_iload_n hC dX6_shares_14 rfl ?_
        refine al_41 hC dX6_shares_15 hQ (by first | omega | exact hB _ _ _ _ rfl | exact hB.i _ _ _ _ rfl | assumption | exact b2n_31 _) (by first | omega | exact hB _ _ _ _ rfl | exact hB.i _ _ _ _ rfl | assumption | exact b2n_31 _) ?_
        refine v_if_ltM (tgt := 32) hC dX6_shares_16 (by decide) (by first | omega | exact hB _ _ _ _ rfl | exact hB.i _ _ _ _ rfl | assumption | exact b2n_31 _) (fun c_16 => ?_) (fun c_16 => ?_)
        · refine v_iincN hC dX6_shares_32 rfl (by decide) ?_
          refine v_goto (tgt := 2) hC dX6_shares_35 (by decide) ?_
          refine v_sub rfl (ih (fun q h2 => ?_))
          by_cases e : q = p
          · subst e
            simp [c_16]
          · exact hq q (by omega)
        · refine v_aload_n hC dX6_shares_19 rfl ?_
          refine gf_X6_48 hC dX6_shares_20 hQ ?_
          refine v_iload_n hC dX6_shares_23 rfl ?_
          refine al_40 hC dX6_shares_24 hQ (by first | omega | exact hB _ _ _ _ rfl | exact hB.i _ _ _ _ rfl | assumption | exact b2n_31 _) ?_
          refine v_iload_n hC dX6_shares_25 rfl ?_
          refine al_41 hC dX6_shares_26 hQ (by first | omega | exact hB _ _ _ _ rfl | exact hB.i _ _ _ _ rfl | assumption | exact b2n_31 _) (by first | omega | exact hB _ _ _ _ rfl | exact hB.i _ _ _ _ rfl | assumption | exact b2n_31 _) ?_
          refine v_if_ltM (tgt := 32) hC dX6_shares_27 (by decide) (by first | omega | exact hB _ _ _ _ rfl | exact hB.i _ _ _ _ rfl | assumption | exact b2n_31 _) (fun c_27 => ?_) (fun c_27 => ?_)
          · refine v_iincN hC dX6_shares_32 rfl (by decide) ?_
            refine v_goto (tgt := 2) hC dX6_shares_35 (by decide) ?_
            refine v_sub rfl (ih (fun q h2 => ?_))
            by_cases e : q = p
            · subst e
              simp [c_27]
            · exact hq q (by omega)
          · refine v_iconst (v := nI 1) hC dX6_shares_30 (by decide) ?_
            refine v_zret hC hM dX6_shares_31 (by first | exact nar_z b_of1 | exact nar_z b_of0) (by omega) (by omega) ?_
            exact ⟨by rw [show msh σ c o = true from by unfold msh; rw [allB_no (q := p) (Nat.zero_le _) (by omega) (by simp [c_16, c_27])]; rfl] <;> rfl, rfl⟩
  exact v_sub rfl (key 0 (Nat.zero_le _) (fun q h => absurd h (by omega)))

def mhl (σ : SG) (c : Nat) : Bool := !allB (fun d => !(decide (σ 38 0 0 d ≠ 0) && mtc σ c d)) 0 4
set_option maxHeartbeats 4000000 in
set_option maxRecDepth 100000 in
theorem c_X6_isHeld {l : Launch} (hl0 : l.stackTraces = false) {G : GT} {ok : KF} {ad : AD} {σ : SG} (hQ : OKM ok) (hB : BD σ) {c : Nat} (hc : c < 16) : Ct l G 2 yX6_isHeld cX6_isHeld 3 (some .boolean) [.ref (ad 30 0 0), iv c] ok ad σ (Rt (some (iv (b2n (mhl σ c)))) ok ad σ) (NX) 0 0 := by
  refine Ct.mk (by decide +kernel) hl0 (Nat.le_of_ble_eq_true rfl) (fun X hX hC hM => ?_)
  subst hX
  refine v_iconst (v := nI 0) hC dX6_isHeld_0 (by decide) ?_
  refine v_istore_n hC dX6_isHeld_1 (by decide) ?_
  have key : ∀ d, d ≤ 4 → (∀ q, q < d → (!(decide (σ 38 0 0 q ≠ 0) && mtc σ c q)) = true) → V X G 0 0 ok ad σ [(0, .ref (ad 30 0 0)), (1, iv c), (2, iv d)] 2 [] := by
    refine down (4) ?_ ?_
    · intro hq
      refine v_iload_n hC dX6_isHeld_2 rfl ?_
      refine v_iconst (v := nI 4) hC dX6_isHeld_3 (by decide) ?_
      refine v_icmp_geN (tgt := 33) hC dX6_isHeld_4 (by decide) (by first | omega | exact hB _ _ _ _ rfl | exact hB.i _ _ _ _ rfl | assumption | exact b2n_31 _) (by first | omega | exact hB _ _ _ _ rfl | exact hB.i _ _ _ _ rfl | assumption | exact b2n_31 _) (fun c_4 => ?_) (fun c_4 => ?_)
      · refine v_iconst (v := nI 0) hC dX6_isHeld_33 (by decide) ?_
        refine v_zret hC hM dX6_isHeld_34 (by first | exact nar_z b_of1 | exact nar_z b_of0) (by omega) (by omega) ?_
        exact ⟨by rw [show mhl σ c = false from by unfold mhl; rw [(allB_iff _ 0 4).mpr (fun q _ h => hq q (by omega))]; rfl] <;> rfl, rfl⟩
      · exact absurd c_4 (by omega)
    · intro d hp ih hq
      refine v_iload_n hC dX6_isHeld_2 rfl ?_
      refine v_iconst (v := nI 4) hC dX6_isHeld_3 (by decide) ?_
      refine v_icmp_geN (tgt := 33) hC dX6_isHeld_4 (by decide) (by first | omega | exact hB _ _ _ _ rfl | exact hB.i _ _ _ _ rfl | assumption | exact b2n_31 _) (by first | omega | exact hB _ _ _ _ rfl | exact hB.i _ _ _ _ rfl | assumption | exact b2n_31 _) (fun c_4 => ?_) (fun c_4 => ?_)
      · exact absurd c_4 (by omega)
      · refine v_aload_n hC dX6_isHeld_7 rfl ?_
        refine gf_X6_40 hC dX6_isHeld_8 hQ ?_
        refine v_iload_n hC dX6_isHeld_11 rfl ?_
        refine al_38 hC dX6_isHeld_12 hQ (by first | omega | exact hB _ _ _ _ rfl | exact hB.i _ _ _ _ rfl | assumption | exact b2n_31 _) ?_
        refine v_if_eqN (tgt := 27) hC dX6_isHeld_13 (by decide) (by first | omega | exact hB _ _ _ _ rfl | exact hB.i _ _ _ _ rfl | assumption | exact b2n_31 _) (fun c_13 => ?_) (fun c_13 => ?_)
        · refine v_iincN hC dX6_isHeld_27 rfl (by decide) ?_
          refine v_goto (tgt := 2) hC dX6_isHeld_30 (by decide) ?_
          refine v_sub rfl (ih (fun q h2 => ?_))
          by_cases e : q = d
          · subst e
            simp [c_13]
          · exact hq q (by omega)
        · refine v_aload_n hC dX6_isHeld_16 rfl ?_
          refine v_iload_n hC dX6_isHeld_17 rfl ?_
          refine v_iload_n hC dX6_isHeld_18 rfl ?_
          refine v_callV_r0 hC lk_X6_123 dX6_isHeld_19 (c_X6_touches hl0 hQ hB (by first | omega | exact hB _ _ _ _ rfl | exact hB.i _ _ _ _ rfl | assumption | exact b2n_31 _) (by first | omega | exact hB _ _ _ _ rfl | exact hB.i _ _ _ _ rfl | assumption | exact b2n_31 _)) (by decide) (by decide) hQ.k30 rfl rfl rfl rfl (Nat.le_of_ble_eq_true rfl) (by omega) (by omega) ?_
          refine v_if_eqN (tgt := 27) hC dX6_isHeld_22 (by decide) (by first | omega | exact hB _ _ _ _ rfl | exact hB.i _ _ _ _ rfl | assumption | exact b2n_31 _) (fun c_22 => ?_) (fun c_22 => ?_)
          · refine v_iincN hC dX6_isHeld_27 rfl (by decide) ?_
            refine v_goto (tgt := 2) hC dX6_isHeld_30 (by decide) ?_
            refine v_sub rfl (ih (fun q h2 => ?_))
            by_cases e : q = d
            · subst e
              simp [b2n_0 c_22]
            · exact hq q (by omega)
          · refine v_iconst (v := nI 1) hC dX6_isHeld_25 (by decide) ?_
            refine v_zret hC hM dX6_isHeld_26 (by first | exact nar_z b_of1 | exact nar_z b_of0) (by omega) (by omega) ?_
            exact ⟨by rw [show mhl σ c = true from by unfold mhl; rw [allB_no (q := d) (Nat.zero_le _) (by omega) (by simp [c_13, b2n_1 c_22])]; rfl] <;> rfl, rfl⟩
  exact v_sub rfl (key 0 (Nat.zero_le _) (fun q h => absurd h (by omega)))

/-- the change c laid over the values k i, for the first n places -/
def mly (σ : SG) (k i c n : Nat) : SG := fun k' i' j' x' => if k' = k ∧ i' = i ∧ j' = 0 ∧ x' < n ∧ σ 41 c 0 x' ≠ 0 then σ 41 c 0 x' - 1 else σ k' i' j' x'
theorem mly_0 (σ : SG) (k i c : Nat) : mly σ k i c 0 = σ := by
  funext k' i' j' x'
  simp [mly]
theorem mly_k {σ : SG} {k i c n k' i' j' x' : Nat} (h : k' ≠ k) : mly σ k i c n k' i' j' x' = σ k' i' j' x' := by simp [mly, h]
theorem mly_i {σ : SG} {k i c n k' i' j' x' : Nat} (h : i' ≠ i) : mly σ k i c n k' i' j' x' = σ k' i' j' x' := by simp [mly, h]
theorem mly_t {σ : SG} {k i c p : Nat} (h : σ 41 c 0 p ≠ 0) : mly σ k i c (p + 1) = up (mly σ k i c p) k i 0 p (σ 41 c 0 p - 1) := by
  funext k' i' j' x'
  simp only [mly, up]
  by_cases c1 : k' = k ∧ i' = i ∧ j' = 0
  · obtain ⟨rfl, rfl, rfl⟩ := c1
    by_cases e : x' = p
    · subst e; simp [h]
    · simp only [true_and, e, if_false]
      have e2 : (x' < p + 1) ↔ (x' < p) := by omega
      simp only [e2]
  · have c1' : ¬ (k' = k ∧ i' = i ∧ j' = 0 ∧ x' < p + 1 ∧ σ 41 c 0 x' ≠ 0) := fun q => c1 ⟨q.1, q.2.1, q.2.2.1⟩
    have c2 : ¬ (k' = k ∧ i' = i ∧ j' = 0 ∧ x' = p) := fun q => c1 ⟨q.1, q.2.1, q.2.2.1⟩
    have c3 : ¬ (k' = k ∧ i' = i ∧ j' = 0 ∧ x' < p ∧ σ 41 c 0 x' ≠ 0) := fun q => c1 ⟨q.1, q.2.1, q.2.2.1⟩
    rw [if_neg c1', if_neg c2, if_neg c3]
theorem mly_f {σ : SG} {k i c p : Nat} (h : σ 41 c 0 p = 0) : mly σ k i c (p + 1) = mly σ k i c p := by
  funext k' i' j' x'
  simp only [mly]
  by_cases e : x' = p
  · subst e; simp [h]
  · have e2 : (x' < p + 1) ↔ (x' < p) := by omega
    simp only [e2]
theorem up_id (σ : SG) (k i j x : Nat) : up σ k i j x (σ k i j x) = σ := by
  funext k' i' j' x'
  simp only [up]
  split
  · rename_i h
    obtain ⟨rfl, rfl, rfl, rfl⟩ := h
    rfl
  · rfl
theorem mly_BD {σ : SG} (h : BD σ) {k i c n : Nat} (hk : ∀ x, bnd k x = 100) : BD (mly σ k i c n) := fun k' i' j' x' hp => by
  unfold mly
  split
  · rename_i q
    rw [q.1, hk]
    have : σ 41 c 0 x' < 101 := h 41 c 0 x' rfl
    omega
  · exact h k' i' j' x' hp

set_option maxHeartbeats 4000000 in
set_option maxRecDepth 100000 in
theorem c_X6_lays_31 {l : Launch} (hl0 : l.stackTraces = false) {G : GT} {ok : KF} {ad : AD} {σ : SG} (hQ : OKM ok) (hB : BD σ) {c : Nat} (hc : c < 16) : Ct l G 0 yX6_lays cX6_lays 4 (none) [.ref (ad 30 0 0), iv c, .ref (ad 31 0 0)] ok ad σ (Rt none ok ad (mly σ 31 0 c 64)) (NX) 0 0 := by
  refine Ct.mk (by decide +kernel) hl0 (Nat.le_of_ble_eq_true rfl) (fun X hX hC hM => ?_)
  subst hX
  refine v_iconst (v := nI 0) hC dX6_lays_0 (by decide) ?_
  refine v_istore_n hC dX6_lays_1 (by decide) ?_
  have key : ∀ p, p ≤ 64 → V X G 0 0 ok ad (mly σ 31 0 c p) [(0, .ref (ad 30 0 0)), (1, iv c), (2, .ref (ad 31 0 0)), (3, iv p)] 2 [] := by
    refine down (64) ?_ ?_
    · refine v_iload_n hC dX6_lays_2 rfl ?_
      refine v_bipush (v := nI 64) hC dX6_lays_3 (by decide) ?_
      refine v_icmp_geN (tgt := 42) hC dX6_lays_5 (by decide) (by first | omega | exact hB _ _ _ _ rfl | exact hB.i _ _ _ _ rfl | assumption | exact b2n_31 _) (by first | omega | exact hB _ _ _ _ rfl | exact hB.i _ _ _ _ rfl | assumption | exact b2n_31 _) (fun c_5 => ?_) (fun c_5 => ?_)
      · refine v_vret hC hM dX6_lays_42 (by omega) (by omega) ?_
        exact ⟨rfl, rfl⟩
      · exact absurd c_5 (by omega)
    · intro p hp ih 
      have hBl : BD (mly σ 31 0 c p) := mly_BD hB (fun _ => rfl)
      have e41 : mly σ 31 0 c p 41 c 0 p = σ 41 c 0 p := mly_k (by decide)
      have h41 : σ 41 c 0 p < 2 ^ 31 := hB.i 41 c 0 p rfl
      refine v_iload_n hC dX6_lays_2 rfl ?_
      refine v_bipush (v := nI 64) hC dX6_lays_3 (by decide) ?_
      refine v_icmp_geN (tgt := 42) hC dX6_lays_5 (by decide) (by first | omega | exact hB _ _ _ _ rfl | exact hB.i _ _ _ _ rfl | assumption | exact b2n_31 _) (by first | omega | exact hB _ _ _ _ rfl | exact hB.i _ _ _ _ rfl | assumption | exact b2n_31 _) (fun c_5 => ?_) (fun c_5 => ?_)
      · exact absurd c_5 (by omega)
      · refine v_aload_n hC dX6_lays_8 rfl ?_
        refine v_iload_n hC dX6_lays_9 rfl ?_
        refine v_aload_n hC dX6_lays_10 rfl ?_
        refine gf_X6_48 hC dX6_lays_11 hQ ?_
        refine v_iload_n hC dX6_lays_14 rfl ?_
        refine al_40 hC dX6_lays_15 hQ (by first | omega | exact hB _ _ _ _ rfl | exact hB.i _ _ _ _ rfl | assumption | exact b2n_31 _) ?_
        refine v_iload_n hC dX6_lays_16 rfl ?_
        refine al_41 hC dX6_lays_17 hQ (by first | omega | exact hB _ _ _ _ rfl | exact hB.i _ _ _ _ rfl | assumption | exact b2n_31 _) (by first | omega | exact hB _ _ _ _ rfl | exact hB.i _ _ _ _ rfl | assumption | exact b2n_31 _) ?_
        rw [e41]
        refine v_if_geM (tgt := 27) hC dX6_lays_18 (by decide) (by first | omega | exact hB _ _ _ _ rfl | exact hB.i _ _ _ _ rfl | assumption | exact b2n_31 _) (fun c_18 => ?_) (fun c_18 => ?_)
        · refine v_aload_n hC dX6_lays_27 rfl ?_
          refine gf_X6_48 hC dX6_lays_28 hQ ?_
          refine v_iload_n hC dX6_lays_31 rfl ?_
          refine al_40 hC dX6_lays_32 hQ (by first | omega | exact hB _ _ _ _ rfl | exact hB.i _ _ _ _ rfl | assumption | exact b2n_31 _) ?_
          refine v_iload_n hC dX6_lays_33 rfl ?_
          refine al_41 hC dX6_lays_34 hQ (by first | omega | exact hB _ _ _ _ rfl | exact hB.i _ _ _ _ rfl | assumption | exact b2n_31 _) (by first | omega | exact hB _ _ _ _ rfl | exact hB.i _ _ _ _ rfl | assumption | exact b2n_31 _) ?_
          rw [e41, dm_pos c_18]
          refine as_31 hC dX6_lays_35 hQ (by first | omega | exact hB _ _ _ _ rfl | exact hB.i _ _ _ _ rfl | assumption | exact b2n_31 _) ?_
          refine v_iincN hC dX6_lays_36 rfl (by decide) ?_
          refine v_goto (tgt := 2) hC dX6_lays_39 (by decide) ?_
          rw [mly_t c_18] at ih
          exact v_sub rfl ih
        · refine v_aload_n hC dX6_lays_21 rfl ?_
          refine v_iload_n hC dX6_lays_22 rfl ?_
          refine al_31 hC dX6_lays_23 hQ (by first | omega | exact hB _ _ _ _ rfl | exact hB.i _ _ _ _ rfl | assumption | exact b2n_31 _) ?_
          refine v_goto (tgt := 35) hC dX6_lays_24 (by decide) ?_
          skip
          refine as_31 hC dX6_lays_35 hQ (by first | omega | exact hB _ _ _ _ rfl | exact hB.i _ _ _ _ rfl | assumption | exact b2n_31 _) ?_
          refine v_iincN hC dX6_lays_36 rfl (by decide) ?_
          refine v_goto (tgt := 2) hC dX6_lays_39 (by decide) ?_
          rw [mly_f c_18] at ih
          rw [up_id]
          exact v_sub rfl ih
  have k0 := key 0 (Nat.zero_le _)
  rw [mly_0] at k0
  exact v_sub rfl k0

set_option maxHeartbeats 4000000 in
set_option maxRecDepth 100000 in
theorem c_X6_lays_62 {l : Launch} (hl0 : l.stackTraces = false) {G : GT} {ok : KF} {ad : AD} {σ : SG} (hQ : OKM ok) (hB : BD σ) {c : Nat} (hc : c < 16) {i : Nat} (hk : ok 62 i 0) : Ct l G 0 yX6_lays cX6_lays 4 (none) [.ref (ad 30 0 0), iv c, .ref (ad 62 i 0)] ok ad σ (Rt none ok ad (mly σ 62 i c 64)) (NX) 0 0 := by
  refine Ct.mk (by decide +kernel) hl0 (Nat.le_of_ble_eq_true rfl) (fun X hX hC hM => ?_)
  subst hX
  refine v_iconst (v := nI 0) hC dX6_lays_0 (by decide) ?_
  refine v_istore_n hC dX6_lays_1 (by decide) ?_
  have key : ∀ p, p ≤ 64 → V X G 0 0 ok ad (mly σ 62 i c p) [(0, .ref (ad 30 0 0)), (1, iv c), (2, .ref (ad 62 i 0)), (3, iv p)] 2 [] := by
    refine down (64) ?_ ?_
    · refine v_iload_n hC dX6_lays_2 rfl ?_
      refine v_bipush (v := nI 64) hC dX6_lays_3 (by decide) ?_
      refine v_icmp_geN (tgt := 42) hC dX6_lays_5 (by decide) (by first | omega | exact hB _ _ _ _ rfl | exact hB.i _ _ _ _ rfl | assumption | exact b2n_31 _) (by first | omega | exact hB _ _ _ _ rfl | exact hB.i _ _ _ _ rfl | assumption | exact b2n_31 _) (fun c_5 => ?_) (fun c_5 => ?_)
      · refine v_vret hC hM dX6_lays_42 (by omega) (by omega) ?_
        exact ⟨rfl, rfl⟩
      · exact absurd c_5 (by omega)
    · intro p hp ih 
      have hBl : BD (mly σ 62 i c p) := mly_BD hB (fun _ => rfl)
      have e41 : mly σ 62 i c p 41 c 0 p = σ 41 c 0 p := mly_k (by decide)
      have h41 : σ 41 c 0 p < 2 ^ 31 := hB.i 41 c 0 p rfl
      refine v_iload_n hC dX6_lays_2 rfl ?_
      refine v_bipush (v := nI 64) hC dX6_lays_3 (by decide) ?_
      refine v_icmp_geN (tgt := 42) hC dX6_lays_5 (by decide) (by first | omega | exact hB _ _ _ _ rfl | exact hB.i _ _ _ _ rfl | assumption | exact b2n_31 _) (by first | omega | exact hB _ _ _ _ rfl | exact hB.i _ _ _ _ rfl | assumption | exact b2n_31 _) (fun c_5 => ?_) (fun c_5 => ?_)
      · exact absurd c_5 (by omega)
      · refine v_aload_n hC dX6_lays_8 rfl ?_
        refine v_iload_n hC dX6_lays_9 rfl ?_
        refine v_aload_n hC dX6_lays_10 rfl ?_
        refine gf_X6_48 hC dX6_lays_11 hQ ?_
        refine v_iload_n hC dX6_lays_14 rfl ?_
        refine al_40 hC dX6_lays_15 hQ (by first | omega | exact hB _ _ _ _ rfl | exact hB.i _ _ _ _ rfl | assumption | exact b2n_31 _) ?_
        refine v_iload_n hC dX6_lays_16 rfl ?_
        refine al_41 hC dX6_lays_17 hQ (by first | omega | exact hB _ _ _ _ rfl | exact hB.i _ _ _ _ rfl | assumption | exact b2n_31 _) (by first | omega | exact hB _ _ _ _ rfl | exact hB.i _ _ _ _ rfl | assumption | exact b2n_31 _) ?_
        rw [e41]
        refine v_if_geM (tgt := 27) hC dX6_lays_18 (by decide) (by first | omega | exact hB _ _ _ _ rfl | exact hB.i _ _ _ _ rfl | assumption | exact b2n_31 _) (fun c_18 => ?_) (fun c_18 => ?_)
        · refine v_aload_n hC dX6_lays_27 rfl ?_
          refine gf_X6_48 hC dX6_lays_28 hQ ?_
          refine v_iload_n hC dX6_lays_31 rfl ?_
          refine al_40 hC dX6_lays_32 hQ (by first | omega | exact hB _ _ _ _ rfl | exact hB.i _ _ _ _ rfl | assumption | exact b2n_31 _) ?_
          refine v_iload_n hC dX6_lays_33 rfl ?_
          refine al_41 hC dX6_lays_34 hQ (by first | omega | exact hB _ _ _ _ rfl | exact hB.i _ _ _ _ rfl | assumption | exact b2n_31 _) (by first | omega | exact hB _ _ _ _ rfl | exact hB.i _ _ _ _ rfl | assumption | exact b2n_31 _) ?_
          rw [e41, dm_pos c_18]
          refine as_62 hC dX6_lays_35 hk (by first | omega | exact hB _ _ _ _ rfl | exact hB.i _ _ _ _ rfl | assumption | exact b2n_31 _) ?_
          refine v_iincN hC dX6_lays_36 rfl (by decide) ?_
          refine v_goto (tgt := 2) hC dX6_lays_39 (by decide) ?_
          rw [mly_t c_18] at ih
          exact v_sub rfl ih
        · refine v_aload_n hC dX6_lays_21 rfl ?_
          refine v_iload_n hC dX6_lays_22 rfl ?_
          refine al_62 hC dX6_lays_23 hk (by first | omega | exact hB _ _ _ _ rfl | exact hB.i _ _ _ _ rfl | assumption | exact b2n_31 _) ?_
          refine v_goto (tgt := 35) hC dX6_lays_24 (by decide) ?_
          skip
          refine as_62 hC dX6_lays_35 hk (by first | omega | exact hB _ _ _ _ rfl | exact hB.i _ _ _ _ rfl | assumption | exact b2n_31 _) ?_
          refine v_iincN hC dX6_lays_36 rfl (by decide) ?_
          refine v_goto (tgt := 2) hC dX6_lays_39 (by decide) ?_
          rw [mly_f c_18] at ih
          rw [up_id]
          exact v_sub rfl ih
  have k0 := key 0 (Nat.zero_le _)
  rw [mly_0] at k0
  exact v_sub rfl k0

/-! the queue without one of its changes -/
def lvs (σ : SG) (k0 m : Nat) : SG := upr (up σ 30 0 0 3 (σ 30 0 0 3 - 1)) 50 0 0 (fun x => if k0 ≤ x ∧ x < m then σ 50 0 0 (x + 1) else σ 50 0 0 x)
theorem lvs_k {σ : SG} {k0 m k i j x : Nat} (h : k ≠ 50) (h2 : ¬ (k = 30 ∧ x = 3)) : lvs σ k0 m k i j x = σ k i j x := by
  unfold lvs
  rw [upr_k h]
  by_cases e : k = 30
  · exact up_x (fun q => h2 ⟨e, q⟩)
  · exact up_k e
theorem lvs_3 (σ : SG) (k0 m : Nat) : lvs σ k0 m 30 0 0 3 = σ 30 0 0 3 - 1 := by
  unfold lvs
  rw [upr_k (by decide), up_same]
theorem lvs_50 (σ : SG) (k0 m x : Nat) : lvs σ k0 m 50 0 0 x = if k0 ≤ x ∧ x < m then σ 50 0 0 (x + 1) else σ 50 0 0 x := by
  unfold lvs
  rw [upr_same]
theorem lvs_0 (σ : SG) (k0 : Nat) : lvs σ k0 k0 = up σ 30 0 0 3 (σ 30 0 0 3 - 1) := by
  unfold lvs
  have : (fun x => if k0 ≤ x ∧ x < k0 then σ 50 0 0 (x + 1) else σ 50 0 0 x) = (up σ 30 0 0 3 (σ 30 0 0 3 - 1)) 50 0 0 := by
    funext x
    rw [if_neg (by omega), up_k (by decide)]
  rw [this]
  exact upr_id _ 50 0 0
theorem lvs_s {σ : SG} {k0 m : Nat} (h : k0 ≤ m) : lvs σ k0 (m + 1) = up (lvs σ k0 m) 50 0 0 m (σ 50 0 0 (m + 1)) := by
  unfold lvs
  rw [upr_up]
  congr 1
  funext x
  by_cases e : x = m
  · subst e
    rw [if_pos ⟨h, by omega⟩, if_pos rfl]
  · rw [if_neg e]
    have : (k0 ≤ x ∧ x < m + 1) ↔ (k0 ≤ x ∧ x < m) := by omega
    simp only [this]
theorem lvs_BD {σ : SG} (h : BD σ) (k0 m : Nat) : BD (lvs σ k0 m) := by
  have h1 : σ 30 0 0 3 < 17 := h 30 0 0 3 rfl
  refine BD.putr (BD.put h (show σ 30 0 0 3 - 1 < 17 by omega)) (fun x _ => ?_)
  split
  · exact h 50 0 0 _ rfl
  · exact h 50 0 0 _ rfl

set_option maxHeartbeats 4000000 in
set_option maxRecDepth 100000 in
theorem c_X6_leaves {l : Launch} (hl0 : l.stackTraces = false) {G : GT} {ok : KF} {ad : AD} {σ : SG} (hQ : OKM ok) (hB : BD σ) {c k0 : Nat} (hc : c < 16) (hk0 : k0 < σ 30 0 0 3) (hkc : σ 50 0 0 k0 = c) (hmin : ∀ j, j < k0 → σ 50 0 0 j ≠ c) : Ct l G 0 yX6_leaves cX6_leaves 3 (none) [.ref (ad 30 0 0), iv c] ok ad σ (Rt none ok ad (lvs σ k0 (σ 30 0 0 3 - 1))) (NX) 0 0 := by
  refine Ct.mk (by decide +kernel) hl0 (Nat.le_of_ble_eq_true rfl) (fun X hX hC hM => ?_)
  subst hX
  have hn17 : σ 30 0 0 3 < 17 := hB 30 0 0 3 rfl
  refine v_iconst (v := nI 0) hC dX6_leaves_0 (by decide) ?_
  refine v_istore_n hC dX6_leaves_1 (by decide) ?_
  have second : V X G 0 0 ok ad (up σ 30 0 0 3 (σ 30 0 0 3 - 1)) [(0, .ref (ad 30 0 0)), (1, iv c), (2, iv k0)] 28 [] := by
    have key : ∀ p, k0 ≤ p → p ≤ σ 30 0 0 3 - 1 → V X G 0 0 ok ad (lvs σ k0 p) [(0, .ref (ad 30 0 0)), (1, iv c), (2, iv p)] 28 [] := by
      refine downL (σ 30 0 0 3 - 1) ?_ ?_
      · intro hlo
        refine v_iload_n hC dX6_leaves_28 rfl ?_
        refine v_aload_n hC dX6_leaves_29 rfl ?_
        refine gf_X6_143 hC dX6_leaves_30 hQ ?_
        rw [lvs_3]
        refine v_icmp_geN (tgt := 56) hC dX6_leaves_33 (by decide) (by first | omega | exact hB _ _ _ _ rfl | exact hB.i _ _ _ _ rfl | assumption | exact b2n_31 _) (by first | omega | exact hB _ _ _ _ rfl | exact hB.i _ _ _ _ rfl | assumption | exact b2n_31 _) (fun c_33 => ?_) (fun c_33 => ?_)
        · refine v_vret hC hM dX6_leaves_56 (by omega) (by omega) ?_
          exact ⟨rfl, rfl⟩
        · exact absurd c_33 (by omega)
      · intro p hlo hp ih 
        have hBl := lvs_BD hB k0 p
        refine v_iload_n hC dX6_leaves_28 rfl ?_
        refine v_aload_n hC dX6_leaves_29 rfl ?_
        refine gf_X6_143 hC dX6_leaves_30 hQ ?_
        rw [lvs_3]
        refine v_icmp_geN (tgt := 56) hC dX6_leaves_33 (by decide) (by first | omega | exact hB _ _ _ _ rfl | exact hB.i _ _ _ _ rfl | assumption | exact b2n_31 _) (by first | omega | exact hB _ _ _ _ rfl | exact hB.i _ _ _ _ rfl | assumption | exact b2n_31 _) (fun c_33 => ?_) (fun c_33 => ?_)
        · exact absurd c_33 (by omega)
        · refine v_aload_n hC dX6_leaves_36 rfl ?_
          refine gf_X6_69 hC dX6_leaves_37 hQ ?_
          refine v_iload_n hC dX6_leaves_40 rfl ?_
          refine v_aload_n hC dX6_leaves_41 rfl ?_
          refine gf_X6_69 hC dX6_leaves_42 hQ ?_
          refine v_iload_n hC dX6_leaves_45 rfl ?_
          refine v_iconst (v := nI 1) hC dX6_leaves_46 (by decide) ?_
          refine v_iaddN hC dX6_leaves_47 ?_
          refine al_50 hC dX6_leaves_48 hQ (by first | omega | exact hB _ _ _ _ rfl | exact hB.i _ _ _ _ rfl | assumption | exact b2n_31 _) ?_
          rw [lvs_50, if_neg (by omega)]
          refine as_50 hC dX6_leaves_49 hQ (by first | omega | exact hB _ _ _ _ rfl | exact hB.i _ _ _ _ rfl | assumption | exact b2n_31 _) ?_
          refine v_iincN hC dX6_leaves_50 rfl (by decide) ?_
          refine v_goto (tgt := 28) hC dX6_leaves_53 (by decide) ?_
          rw [lvs_s hlo] at ih
          exact v_sub rfl ih
    have k1 := key k0 (Nat.le_refl _) (by omega)
    rw [lvs_0] at k1
    exact v_sub rfl k1
  have key : ∀ p, p ≤ k0 → V X G 0 0 ok ad σ [(0, .ref (ad 30 0 0)), (1, iv c), (2, iv p)] 2 [] := by
    refine down (k0) ?_ ?_
    · refine v_aload_n hC dX6_leaves_2 rfl ?_
      refine gf_X6_69 hC dX6_leaves_3 hQ ?_
      refine v_iload_n hC dX6_leaves_6 rfl ?_
      refine al_50 hC dX6_leaves_7 hQ (by first | omega | exact hB _ _ _ _ rfl | exact hB.i _ _ _ _ rfl | assumption | exact b2n_31 _) ?_
      refine v_iload_n hC dX6_leaves_8 rfl ?_
      refine v_icmp_eqN (tgt := 18) hC dX6_leaves_9 (by decide) (by first | omega | exact hB _ _ _ _ rfl | exact hB.i _ _ _ _ rfl | assumption | exact b2n_31 _) (by first | omega | exact hB _ _ _ _ rfl | exact hB.i _ _ _ _ rfl | assumption | exact b2n_31 _) (fun c_9 => ?_) (fun c_9 => ?_)
      · refine v_aload_n hC dX6_leaves_18 rfl ?_
        refine v_dup hC dX6_leaves_19 rfl ?_
        refine gf_X6_143 hC dX6_leaves_20 hQ ?_
        refine v_iconst (v := nI 1) hC dX6_leaves_23 (by decide) ?_
        refine v_isubN hC dX6_leaves_24 (by first | omega | exact hB _ _ _ _ rfl | exact hB.i _ _ _ _ rfl | assumption | exact b2n_31 _) ?_
        refine pf_X6_143 hC dX6_leaves_25 hQ ?_
        exact v_sub rfl second
      · exact absurd hkc c_9
    · intro p hp ih 
      refine v_aload_n hC dX6_leaves_2 rfl ?_
      refine gf_X6_69 hC dX6_leaves_3 hQ ?_
      refine v_iload_n hC dX6_leaves_6 rfl ?_
      refine al_50 hC dX6_leaves_7 hQ (by first | omega | exact hB _ _ _ _ rfl | exact hB.i _ _ _ _ rfl | assumption | exact b2n_31 _) ?_
      refine v_iload_n hC dX6_leaves_8 rfl ?_
      refine v_icmp_eqN (tgt := 18) hC dX6_leaves_9 (by decide) (by first | omega | exact hB _ _ _ _ rfl | exact hB.i _ _ _ _ rfl | assumption | exact b2n_31 _) (by first | omega | exact hB _ _ _ _ rfl | exact hB.i _ _ _ _ rfl | assumption | exact b2n_31 _) (fun c_9 => ?_) (fun c_9 => ?_)
      · exact absurd c_9 (hmin p hp)
      · refine v_iincN hC dX6_leaves_12 rfl (by decide) ?_
        refine v_goto (tgt := 2) hC dX6_leaves_15 (by decide) ?_
        exact v_sub rfl ih
  exact v_sub rfl (key 0 (Nat.zero_le _))

theorem rng_app (f : Nat → Nat) (n m : Nat) : (List.range (n + m)).map f = (List.range n).map f ++ (List.range m).map (fun i => f (n + i)) := by
  induction m with
  | zero => simp
  | succ m ih => rw [← Nat.add_assoc, List.range_succ, List.map_append, ih, List.range_succ, List.map_append, List.append_assoc]; rfl
/-- the model's queue and its merged changes as lists -/
def lsM (σ : SG) (w : Nat) : List Nat := (List.range (σ 30 0 0 (w + 3))).map (σ (w + 50) 0 0)
theorem lsM_lvs {σ : SG} {c k0 : Nat} (hk0 : k0 < σ 30 0 0 3) (hkc : σ 50 0 0 k0 = c) (hmin : ∀ j, j < k0 → σ 50 0 0 j ≠ c) (hd : (lsM σ 0).Nodup) : lsM (lvs σ k0 (σ 30 0 0 3 - 1)) 0 = (lsM σ 0).filter (fun x => decide (x ≠ c)) := by
  obtain ⟨r, hr⟩ := Nat.exists_eq_add_of_lt hk0
  unfold lsM at hd ⊢
  show (List.range (lvs σ k0 (σ 30 0 0 3 - 1) 30 0 0 3)).map (lvs σ k0 (σ 30 0 0 3 - 1) 50 0 0) = ((List.range (σ 30 0 0 3)).map (σ 50 0 0)).filter _
  have hd : ((List.range (σ 30 0 0 3)).map (σ 50 0 0)).Nodup := hd
  rw [lvs_3, hr]
  rw [hr] at hd
  rw [show k0 + r + 1 - 1 = k0 + r by omega, show k0 + r + 1 = k0 + (1 + r) by omega, rng_app, rng_app, rng_app]
  rw [show k0 + r + 1 = k0 + (1 + r) by omega, rng_app, rng_app] at hd
  have h1 : (List.range 1).map (fun i => σ 50 0 0 (k0 + i)) = [c] := by simp [hkc]
  rw [h1] at hd ⊢
  rw [List.filter_append, List.filter_append]
  have hA : ((List.range k0).map (σ 50 0 0)).filter (fun x => decide (x ≠ c)) = (List.range k0).map (σ 50 0 0) := List.filter_eq_self.mpr (fun x hx => by
    obtain ⟨j, hj, rfl⟩ := List.mem_map.mp hx
    exact decide_eq_true (hmin j (List.mem_range.mp hj)))
  have hBn : ∀ x ∈ (List.range r).map (fun i => σ 50 0 0 (k0 + (1 + i))), x ≠ c := fun x hx q => by
    have h3 := (List.nodup_append.mp (List.nodup_append.mp hd).2.1).2.2
    exact h3 c (List.mem_singleton.mpr rfl) x hx q.symm
  have hB : ((List.range r).map (fun i => σ 50 0 0 (k0 + (1 + i)))).filter (fun x => decide (x ≠ c)) = (List.range r).map (fun i => σ 50 0 0 (k0 + (1 + i))) := List.filter_eq_self.mpr (fun x hx => decide_eq_true (hBn x hx))
  have hc : [c].filter (fun x => decide (x ≠ c)) = [] := by simp
  rw [hA, hB, hc, List.nil_append]
  congr 1
  · apply List.map_congr_left
    intro x hx
    have := List.mem_range.mp hx
    rw [lvs_50, if_neg (by omega)]
  · apply List.map_congr_left
    intro x hx
    have := List.mem_range.mp hx
    rw [lvs_50, if_pos (by omega)]
    congr 1
    omega
/-- a change of the queue stands at a first place -/
theorem lsM_at {σ : SG} {c : Nat} (h : c ∈ lsM σ 0) : ∃ k0, k0 < σ 30 0 0 3 ∧ σ 50 0 0 k0 = c ∧ ∀ j, j < k0 → σ 50 0 0 j ≠ c := by
  obtain ⟨k, hk, e⟩ := List.mem_map.mp h
  have hk := List.mem_range.mp hk
  have key : ∀ n, (∃ j, j < n ∧ σ 50 0 0 j = c) → ∃ k0, k0 < n ∧ σ 50 0 0 k0 = c ∧ ∀ j, j < k0 → σ 50 0 0 j ≠ c := fun n => by
    induction n with
    | zero => rintro ⟨j, hj, -⟩; omega
    | succ n ih =>
      rintro ⟨j, hj, ej⟩
      by_cases q : ∃ j, j < n ∧ σ 50 0 0 j = c
      · obtain ⟨k0, a, b, d⟩ := ih q
        exact ⟨k0, by omega, b, d⟩
      · refine ⟨n, by omega, ?_, fun i hi ei => q ⟨i, hi, ei⟩⟩
        by_cases e2 : j = n
        · rw [← e2]; exact ej
        · exact absurd ⟨j, by omega, ej⟩ q
  obtain ⟨k0, a, b, d⟩ := key (σ 30 0 0 3) ⟨k, hk, e⟩
  exact ⟨k0, a, b, d⟩

