/-- a change that shares places with a merged one: clashes, and leaves the queue -/
def clS (σ : SG) (n pl : Nat) : SG := if σ 6 n 0 3 &&& pl = 0 then σ else if σ 6 n 0 1 = 111 then up σ 6 n 0 4 (σ 6 n 0 4 ||| (σ 6 n 0 3 &&& pl)) else if σ 6 n 0 1 = 113 then rpn (up σ 6 n 0 4 (σ 6 n 0 4 ||| (σ 6 n 0 3 &&& pl))) n else σ
theorem clS_BD {σ : SG} (h : BD σ) {n pl : Nat} : BD (clS σ n pl) := by
  have h1 : BD (up σ 6 n 0 4 (σ 6 n 0 4 ||| (σ 6 n 0 3 &&& pl))) := BD.put h (show _ < 2 ^ 64 from or_lt (h 6 n 0 4 rfl) (and_lt (h 6 n 0 3 rfl)))
  unfold clS
  split
  · exact h
  · split
    · exact h1
    · split
      · exact rpn_BD h1
      · exact h
theorem rpn_k {σ : SG} {n k i j x : Nat} (h1 : k ≠ 12) (h2 : k ≠ 13) (h3 : ¬ (k = 6 ∧ x = 1)) : rpn σ n k i j x = σ k i j x := by
  unfold rpn
  by_cases h : k = 6
  · rw [up_x (fun q => h3 ⟨h, q⟩), drO_k h1 h2]
  · rw [up_k h, drO_k h1 h2]
theorem clS_k {σ : SG} {n pl k i j x : Nat} (h1 : k ≠ 12) (h2 : k ≠ 13) (h3 : ¬ (k = 6 ∧ x = 1)) (h4 : ¬ (k = 6 ∧ x = 4)) : clS σ n pl k i j x = σ k i j x := by
  have e : ∀ v, up σ 6 n 0 4 v k i j x = σ k i j x := fun v => by
    by_cases h : k = 6
    · exact up_x (fun q => h4 ⟨h, q⟩)
    · exact up_k h
  unfold clS
  split
  · rfl
  · split
    · exact e _
    · split
      · rw [rpn_k h1 h2 h3, e]
      · rfl

set_option maxHeartbeats 4000000 in
set_option maxRecDepth 100000 in
theorem c_X5_clashIfShared {l : Launch} (hl0 : l.stackTraces = false) {G : GT} {ok : KF} {ad : AD} {σ : SG} (hO : OKC ok) (hB : BD σ) {n pl : Nat} (hn : n < 16) (hpl : pl < 2 ^ 64) : Ct l G 3 yX5_clashIfShared cX5_clashIfShared 7 (none) [.ref (ad 0 0 0), iv n, jv pl] ok ad σ (Rt none ok ad (clS σ n pl)) (NX) 0 0 := by
  refine Ct.mk (by decide +kernel) hl0 (Nat.le_of_ble_eq_true rfl) (fun X hX hC hM => ?_)
  subst hX
  have hB1 : BD (up σ 6 n 0 4 (σ 6 n 0 4 ||| (σ 6 n 0 3 &&& pl))) := BD.put hB (show _ < 2 ^ 64 from or_lt (hB 6 n 0 4 rfl) (and_lt (hB 6 n 0 3 rfl)))
  refine v_aload_n hC dX5_clashIfShared_0 rfl ?_
  refine gf_X5_25 hC dX5_clashIfShared_1 hO ?_
  refine v_iload_n hC dX5_clashIfShared_4 rfl ?_
  refine al_5 hC dX5_clashIfShared_5 hO (by first | exact hn | omega | exact and_lt (hB _ _ _ _ rfl) | exact hB _ _ _ _ rfl | exact hB.i _ _ _ _ rfl | decide) ?_
  refine v_astore hC dX5_clashIfShared_6 (by decide) ?_
  refine v_aload hC dX5_clashIfShared_8 rfl ?_
  refine gf_X5_142 hC dX5_clashIfShared_10 hO (by first | exact hn | omega | exact and_lt (hB _ _ _ _ rfl) | exact hB _ _ _ _ rfl | exact hB.i _ _ _ _ rfl | decide) ?_
  refine v_lload_n hC dX5_clashIfShared_13 rfl ?_
  refine v_landN hC dX5_clashIfShared_14 ?_
  refine v_lstore hC dX5_clashIfShared_15 (by decide) ?_
  refine v_lload hC dX5_clashIfShared_17 rfl ?_
  refine v_lconst (v := lN 0) hC dX5_clashIfShared_19 (by decide) ?_
  refine v_lcmp hC dX5_clashIfShared_20 ?_
  refine v_if_eqJ (tgt := 44) hC dX5_clashIfShared_21 (by decide) (by first | exact hn | omega | exact and_lt (hB _ _ _ _ rfl) | exact hB _ _ _ _ rfl | exact hB.i _ _ _ _ rfl | decide) (by first | exact hn | omega | exact and_lt (hB _ _ _ _ rfl) | exact hB _ _ _ _ rfl | exact hB.i _ _ _ _ rfl | decide) (fun c_21 => ?_) (fun c_21 => ?_)
  · refine v_vret hC hM dX5_clashIfShared_44 (by omega) (by omega) ?_
    exact ⟨rfl, by rw [show clS σ n pl = σ from if_pos c_21]⟩
  · refine v_aload hC dX5_clashIfShared_24 rfl ?_
    refine gf_X5_113 hC dX5_clashIfShared_26 hO (by first | exact hn | omega | exact and_lt (hB _ _ _ _ rfl) | exact hB _ _ _ _ rfl | exact hB.i _ _ _ _ rfl | decide) ?_
    refine v_bipush (v := nI 111) hC dX5_clashIfShared_29 (by decide) ?_
    refine v_icmp_eqN (tgt := 45) hC dX5_clashIfShared_31 (by decide) (by first | exact hn | omega | exact and_lt (hB _ _ _ _ rfl) | exact hB _ _ _ _ rfl | exact hB.i _ _ _ _ rfl | decide) (by first | exact hn | omega | exact and_lt (hB _ _ _ _ rfl) | exact hB _ _ _ _ rfl | exact hB.i _ _ _ _ rfl | decide) (fun c_31 => ?_) (fun c_31 => ?_)
    · refine v_aload hC dX5_clashIfShared_45 rfl ?_
      refine v_dup hC dX5_clashIfShared_47 rfl ?_
      refine gf_X5_146 hC dX5_clashIfShared_48 hO (by first | exact hn | omega | exact and_lt (hB _ _ _ _ rfl) | exact hB _ _ _ _ rfl | exact hB.i _ _ _ _ rfl | decide) ?_
      refine v_lload hC dX5_clashIfShared_51 rfl ?_
      refine v_lorN hC dX5_clashIfShared_53 ?_
      refine pf_X5_146 hC dX5_clashIfShared_54 hO (by first | exact hn | omega | exact and_lt (hB _ _ _ _ rfl) | exact hB _ _ _ _ rfl | exact hB.i _ _ _ _ rfl | decide) ?_
      refine v_aload hC dX5_clashIfShared_57 rfl ?_
      refine gf_X5_113 hC dX5_clashIfShared_59 hO (by first | exact hn | omega | exact and_lt (hB _ _ _ _ rfl) | exact hB _ _ _ _ rfl | exact hB.i _ _ _ _ rfl | decide) ?_
      rw [show up σ 6 n 0 4 (σ 6 n 0 4 ||| (σ 6 n 0 3 &&& pl)) 6 n 0 1 = σ 6 n 0 1 from up_x (by decide)]
      refine v_bipush (v := nI 113) hC dX5_clashIfShared_62 (by decide) ?_
      refine v_icmp_neN (tgt := 72) hC dX5_clashIfShared_64 (by decide) (by first | exact hn | omega | exact and_lt (hB _ _ _ _ rfl) | exact hB _ _ _ _ rfl | exact hB.i _ _ _ _ rfl | decide) (by first | exact hn | omega | exact and_lt (hB _ _ _ _ rfl) | exact hB _ _ _ _ rfl | exact hB.i _ _ _ _ rfl | decide) (fun c_64 => ?_) (fun c_64 => ?_)
      · refine v_vret hC hM dX5_clashIfShared_72 (by omega) (by omega) ?_
        exact ⟨rfl, by rw [show clS σ n pl = up σ 6 n 0 4 (σ 6 n 0 4 ||| (σ 6 n 0 3 &&& pl)) from (if_neg c_21).trans (if_pos c_31)]⟩
      · refine v_aload_n hC dX5_clashIfShared_67 rfl ?_
        refine v_iload_n hC dX5_clashIfShared_68 rfl ?_
        refine v_callV_v0 hC lk_X5_164 dX5_clashIfShared_69 (c_X5_reopen hl0 hO hB1 hn) (by decide) (by decide) hO.k0 rfl rfl rfl rfl (Nat.le_of_ble_eq_true rfl) (by omega) (by omega) ?_
        refine v_vret hC hM dX5_clashIfShared_72 (by omega) (by omega) ?_
        exact absurd (c_31.symm.trans c_64) (by decide)
    · refine v_aload hC dX5_clashIfShared_34 rfl ?_
      refine gf_X5_113 hC dX5_clashIfShared_36 hO (by first | exact hn | omega | exact and_lt (hB _ _ _ _ rfl) | exact hB _ _ _ _ rfl | exact hB.i _ _ _ _ rfl | decide) ?_
      refine v_bipush (v := nI 113) hC dX5_clashIfShared_39 (by decide) ?_
      refine v_icmp_eqN (tgt := 45) hC dX5_clashIfShared_41 (by decide) (by first | exact hn | omega | exact and_lt (hB _ _ _ _ rfl) | exact hB _ _ _ _ rfl | exact hB.i _ _ _ _ rfl | decide) (by first | exact hn | omega | exact and_lt (hB _ _ _ _ rfl) | exact hB _ _ _ _ rfl | exact hB.i _ _ _ _ rfl | decide) (fun c_41 => ?_) (fun c_41 => ?_)
      · refine v_aload hC dX5_clashIfShared_45 rfl ?_
        refine v_dup hC dX5_clashIfShared_47 rfl ?_
        refine gf_X5_146 hC dX5_clashIfShared_48 hO (by first | exact hn | omega | exact and_lt (hB _ _ _ _ rfl) | exact hB _ _ _ _ rfl | exact hB.i _ _ _ _ rfl | decide) ?_
        refine v_lload hC dX5_clashIfShared_51 rfl ?_
        refine v_lorN hC dX5_clashIfShared_53 ?_
        refine pf_X5_146 hC dX5_clashIfShared_54 hO (by first | exact hn | omega | exact and_lt (hB _ _ _ _ rfl) | exact hB _ _ _ _ rfl | exact hB.i _ _ _ _ rfl | decide) ?_
        refine v_aload hC dX5_clashIfShared_57 rfl ?_
        refine gf_X5_113 hC dX5_clashIfShared_59 hO (by first | exact hn | omega | exact and_lt (hB _ _ _ _ rfl) | exact hB _ _ _ _ rfl | exact hB.i _ _ _ _ rfl | decide) ?_
        rw [show up σ 6 n 0 4 (σ 6 n 0 4 ||| (σ 6 n 0 3 &&& pl)) 6 n 0 1 = σ 6 n 0 1 from up_x (by decide)]
        refine v_bipush (v := nI 113) hC dX5_clashIfShared_62 (by decide) ?_
        refine v_icmp_neN (tgt := 72) hC dX5_clashIfShared_64 (by decide) (by first | exact hn | omega | exact and_lt (hB _ _ _ _ rfl) | exact hB _ _ _ _ rfl | exact hB.i _ _ _ _ rfl | decide) (by first | exact hn | omega | exact and_lt (hB _ _ _ _ rfl) | exact hB _ _ _ _ rfl | exact hB.i _ _ _ _ rfl | decide) (fun c_64 => ?_) (fun c_64 => ?_)
        · refine v_vret hC hM dX5_clashIfShared_72 (by omega) (by omega) ?_
          exact absurd c_41 c_64
        · refine v_aload_n hC dX5_clashIfShared_67 rfl ?_
          refine v_iload_n hC dX5_clashIfShared_68 rfl ?_
          refine v_callV_v0 hC lk_X5_164 dX5_clashIfShared_69 (c_X5_reopen hl0 hO hB1 hn) (by decide) (by decide) hO.k0 rfl rfl rfl rfl (Nat.le_of_ble_eq_true rfl) (by omega) (by omega) ?_
          refine v_vret hC hM dX5_clashIfShared_72 (by omega) (by omega) ?_
          exact ⟨rfl, by rw [show clS σ n pl = rpn (up σ 6 n 0 4 (σ 6 n 0 4 ||| (σ 6 n 0 3 &&& pl))) n from (if_neg c_21).trans ((if_neg c_31).trans (if_pos c_41))]⟩
      · refine v_vret hC hM dX5_clashIfShared_44 (by omega) (by omega) ?_
        exact ⟨rfl, by rw [show clS σ n pl = σ from (if_neg c_21).trans ((if_neg c_31).trans (if_neg c_41))]⟩

/-- the others, the first o numbers, behind the merge of n -/
def mgl (σ : SG) (n pl : Nat) : Nat → SG
  | 0 => σ
  | o + 1 => if o = n then mgl σ n pl o else clS (mgl σ n pl o) o pl
theorem mgl_BD {σ : SG} (h : BD σ) (n pl : Nat) : ∀ o, BD (mgl σ n pl o)
  | 0 => h
  | o + 1 => by
    unfold mgl
    split
    · exact mgl_BD h n pl o
    · exact clS_BD (mgl_BD h n pl o)
theorem mgl_k {σ : SG} {n pl k i j x : Nat} (h1 : k ≠ 12) (h2 : k ≠ 13) (h3 : ¬ (k = 6 ∧ x = 1)) (h4 : ¬ (k = 6 ∧ x = 4)) : ∀ o, mgl σ n pl o k i j x = σ k i j x
  | 0 => rfl
  | o + 1 => by
    unfold mgl
    split
    · exact mgl_k h1 h2 h3 h4 o
    · rw [clS_k h1 h2 h3 h4]
      exact mgl_k h1 h2 h3 h4 o
def mg0 (σ : SG) (n : Nat) : SG := lay (up (up (apO (drO σ 0 n) 1 n) 6 n 0 1 109) 6 n 0 2 0) n 0 64
def mgS (σ : SG) (n : Nat) : SG := mgl (mg0 σ n) n (σ 6 n 0 3) (σ 0 0 0 0)
theorem mg0_BD {σ : SG} (h : BD σ) {n : Nat} (hn : n < 16) (hm : σ 12 1 0 0 < 16) : BD (mg0 σ n) := by
  have h1 : BD (drO σ 0 n) := drO_BD h (Nat.le_of_lt_succ (h 12 0 0 0 rfl))
  have e : drO σ 0 n 12 1 0 0 = σ 12 1 0 0 := by
    unfold drO
    rw [up_i (by decide), upr_k (by decide)]
  exact lay_BD (BD.put (BD.put (apO_BD h1 hn (by rw [e]; exact hm)) (by decide)) (by decide))
theorem drO_12 (σ : SG) (n : Nat) : drO σ 0 n 12 1 0 0 = σ 12 1 0 0 := by
  unfold drO
  rw [up_i (by decide), upr_k (by decide)]
theorem mg0_k {σ : SG} {n k i j x : Nat} (h1 : k ≠ 12) (h2 : k ≠ 13) (h3 : ¬ (k = 6 ∧ x = 1)) (h4 : ¬ (k = 6 ∧ x = 2)) (h5 : k ≠ 15) : mg0 σ n k i j x = σ k i j x := by
  unfold mg0
  rw [lay_k h5]
  by_cases h : k = 6
  · rw [up_x (fun q => h4 ⟨h, q⟩), up_x (fun q => h3 ⟨h, q⟩), apO_k h1 h2, drO_k h1 h2]
  · rw [up_k h, up_k h, apO_k h1 h2, drO_k h1 h2]

set_option maxHeartbeats 4000000 in
set_option maxRecDepth 100000 in
theorem c_X5_merge {l : Launch} (hl0 : l.stackTraces = false) {G : GT} {ok : KF} {ad : AD} {σ : SG} (hO : OKC ok) (hB : BD σ) {n : Nat} (hn : n < 16) (hm : σ 12 1 0 0 < 16) : Ct l G 4 yX5_merge cX5_merge 4 (none) [.ref (ad 0 0 0), iv n] ok ad σ (Rt none ok ad (mgS σ n)) (NX) 0 0 := by
  refine Ct.mk (by decide +kernel) hl0 (Nat.le_of_ble_eq_true rfl) (fun X hX hC hM => ?_)
  subst hX
  have hs17 : σ 0 0 0 0 < 17 := hB 0 0 0 0 rfl
  have hs16 : σ 12 0 0 0 ≤ 16 := Nat.le_of_lt_succ (hB 12 0 0 0 rfl)
  have hBd : BD (drO σ 0 n) := drO_BD hB hs16
  have hBg := mg0_BD hB hn hm
  have hcnt : ∀ o, mgl (mg0 σ n) n (σ 6 n 0 3) o 0 0 0 0 = σ 0 0 0 0 := fun o => (mgl_k (by decide) (by decide) (by omega) (by omega) o).trans (mg0_k (by decide) (by decide) (by omega) (by omega) (by decide))
  have he63 : ∀ o, mgl (mg0 σ n) n (σ 6 n 0 3) o 6 n 0 3 = σ 6 n 0 3 := fun o => (mgl_k (by decide) (by decide) (by omega) (by omega) o).trans (mg0_k (by decide) (by decide) (by omega) (by omega) (by decide))
  refine v_aload_n hC dX5_merge_0 rfl ?_
  refine gf_X5_25 hC dX5_merge_1 hO ?_
  refine v_iload_n hC dX5_merge_4 rfl ?_
  refine al_5 hC dX5_merge_5 hO (by first | exact hn | omega | exact hB _ _ _ _ rfl | exact hB.i _ _ _ _ rfl | decide) ?_
  refine v_astore_n hC dX5_merge_6 (by decide) ?_
  refine v_aload_n hC dX5_merge_7 rfl ?_
  refine gf_X5_32 hC dX5_merge_8 hO ?_
  refine v_iload_n hC dX5_merge_11 rfl ?_
  refine v_callVN_v0 hC lk_X5_290 dX5_merge_12 (c_X2_drop hl0 hO hB (by decide) hn hs16) (by decide) (by decide) (hO.k12 (i := 0) (by decide)) rfl rfl rfl rfl (Nat.le_of_ble_eq_true rfl) (by omega) (by omega) ?_
  refine v_aload_n hC dX5_merge_15 rfl ?_
  refine gf_X5_36 hC dX5_merge_16 hO ?_
  refine v_iload_n hC dX5_merge_19 rfl ?_
  refine v_callVN_v0 hC lk_X5_156 dX5_merge_20 (c_X2_append hl0 hO hBd (by decide) hn (by rw [drO_12]; exact hm)) (by decide) (by decide) (hO.k12 (i := 1) (by decide)) rfl rfl rfl rfl (Nat.le_of_ble_eq_true rfl) (by omega) (by omega) ?_
  refine v_aload_n hC dX5_merge_23 rfl ?_
  refine v_bipush (v := nI 109) hC dX5_merge_24 (by decide) ?_
  refine pf_X5_113 hC dX5_merge_26 hO (by first | exact hn | omega | exact hB _ _ _ _ rfl | exact hB.i _ _ _ _ rfl | decide) (by first | exact hn | omega | exact hB _ _ _ _ rfl | exact hB.i _ _ _ _ rfl | decide) ?_
  refine v_aload_n hC dX5_merge_29 rfl ?_
  refine v_iconst (v := nI 0) hC dX5_merge_30 (by decide) ?_
  refine pf_X5_184 hC dX5_merge_31 hO (by first | exact hn | omega | exact hB _ _ _ _ rfl | exact hB.i _ _ _ _ rfl | decide) (by first | exact hn | omega | exact hB _ _ _ _ rfl | exact hB.i _ _ _ _ rfl | decide) ?_
  refine v_aload_n hC dX5_merge_34 rfl ?_
  refine v_aload_n hC dX5_merge_35 rfl ?_
  refine gf_X5_42 hC dX5_merge_36 hO ?_
  refine v_callVN_v0 hC lk_X5_306 dX5_merge_39 (c_X1_applyTo hl0 hO (BD.put (BD.put (apO_BD hBd hn (by rw [drO_12]; exact hm)) (by decide)) (by decide)) hn (by decide)) (by decide) (by decide) (hO.k6 hn) rfl rfl rfl rfl (Nat.le_of_ble_eq_true rfl) (by omega) (by omega) ?_
  refine v_sg (σ1 := mg0 σ n) (fun _ _ _ _ => rfl) ?_
  refine v_iconst (v := nI 0) hC dX5_merge_42 (by decide) ?_
  refine v_istore_n hC dX5_merge_43 (by decide) ?_
  have key : ∀ o, o ≤ σ 0 0 0 0 → V X G 0 0 ok ad (mgl (mg0 σ n) n (σ 6 n 0 3) o) [(0, .ref (ad 0 0 0)), (1, iv n), (2, .ref (ad 6 n 0)), (3, iv o)] 44 [] := by
    refine down (σ 0 0 0 0) ?_ ?_
    · refine v_iload_n hC dX5_merge_44 rfl ?_
      refine v_aload_n hC dX5_merge_45 rfl ?_
      refine gf_X5_70 hC dX5_merge_46 hO ?_
      rw [hcnt]
      refine v_icmp_geN (tgt := 72) hC dX5_merge_49 (by decide) (by first | exact hn | omega | exact hB _ _ _ _ rfl | exact hB.i _ _ _ _ rfl | decide) (by first | exact hn | omega | exact hB _ _ _ _ rfl | exact hB.i _ _ _ _ rfl | decide) (fun c_49 => ?_) (fun c_49 => ?_)
      · refine v_vret hC hM dX5_merge_72 (by omega) (by omega) ?_
        exact ⟨rfl, rfl⟩
      · exact absurd c_49 (by omega)
    · intro o hp ih 
      refine v_iload_n hC dX5_merge_44 rfl ?_
      refine v_aload_n hC dX5_merge_45 rfl ?_
      refine gf_X5_70 hC dX5_merge_46 hO ?_
      rw [hcnt]
      refine v_icmp_geN (tgt := 72) hC dX5_merge_49 (by decide) (by first | exact hn | omega | exact hB _ _ _ _ rfl | exact hB.i _ _ _ _ rfl | decide) (by first | exact hn | omega | exact hB _ _ _ _ rfl | exact hB.i _ _ _ _ rfl | decide) (fun c_49 => ?_) (fun c_49 => ?_)
      · exact absurd c_49 (by omega)
      · refine v_iload_n hC dX5_merge_52 rfl ?_
        refine v_iload_n hC dX5_merge_53 rfl ?_
        refine v_icmp_eqN (tgt := 66) hC dX5_merge_54 (by decide) (by first | exact hn | omega | exact hB _ _ _ _ rfl | exact hB.i _ _ _ _ rfl | decide) (by first | exact hn | omega | exact hB _ _ _ _ rfl | exact hB.i _ _ _ _ rfl | decide) (fun c_54 => ?_) (fun c_54 => ?_)
        · refine v_iincN hC dX5_merge_66 rfl (by decide) ?_
          refine v_goto (tgt := 44) hC dX5_merge_69 (by decide) ?_
          rw [show mgl (mg0 σ n) n (σ 6 n 0 3) (o + 1) = mgl (mg0 σ n) n (σ 6 n 0 3) o from if_pos c_54] at ih
          exact v_sub rfl ih
        · refine v_aload_n hC dX5_merge_57 rfl ?_
          refine v_iload_n hC dX5_merge_58 rfl ?_
          refine v_aload_n hC dX5_merge_59 rfl ?_
          refine gf_X5_142 hC dX5_merge_60 hO (by first | exact hn | omega | exact hB _ _ _ _ rfl | exact hB.i _ _ _ _ rfl | decide) ?_
          rw [he63]
          refine v_callV_v0 hC lk_X5_314 dX5_merge_63 (c_X5_clashIfShared hl0 hO (mgl_BD hBg n _ o) (by omega) (hB 6 n 0 3 rfl)) (by decide) (by decide) hO.k0 rfl rfl rfl rfl (Nat.le_of_ble_eq_true rfl) (by omega) (by omega) ?_
          refine v_iincN hC dX5_merge_66 rfl (by decide) ?_
          refine v_goto (tgt := 44) hC dX5_merge_69 (by decide) ?_
          rw [show mgl (mg0 σ n) n (σ 6 n 0 3) (o + 1) = clS (mgl (mg0 σ n) n (σ 6 n 0 3) o) o (σ 6 n 0 3) from if_neg c_54] at ih
          exact v_sub rfl ih
  exact v_sub rfl (key 0 (Nat.zero_le _))

