set_option maxHeartbeats 4000000 in
set_option maxRecDepth 100000 in
theorem c_X5_takenShare {l : Launch} (hl0 : l.stackTraces = false) {G : GT} {ok : KF} {ad : AD} {σ : SG} (hO : OKC ok) (hB : BD σ) : Ct l G 4 yX5_takenShare cX5_takenShare 3 (some .float) [.ref (ad 0 0 0)] ok ad σ (fun v μ => σ 16 0 0 3 + σ 16 0 0 2 ≠ 0 ∧ v = some (.float (FP.fdiv (FP.l2f (lN (σ 16 0 0 3))) (FP.l2f (lN (σ 16 0 0 3 + σ 16 0 0 2))))) ∧ μ = (ok, ad, σ)) (fun E μ => E = eARE ∧ σ 16 0 0 3 + σ 16 0 0 2 = 0 ∧ μ = (ok, ad, σ)) 4 24 := by
  refine Ct.mk (by decide +kernel) hl0 (Nat.le_of_ble_eq_true rfl) (fun X hX hC hM => ?_)
  subst hX
  have ht : σ 16 0 0 3 < 100000 := hB 16 0 0 3 rfl
  have hb : σ 16 0 0 2 < 4000 := hB 16 0 0 2 rfl
  refine v_aload_n hC dX5_takenShare_0 rfl ?_
  refine gf_X5_51 hC dX5_takenShare_1 hO ?_
  refine gf_X5_258 hC dX5_takenShare_4 hO ?_
  refine v_aload_n hC dX5_takenShare_7 rfl ?_
  refine gf_X5_51 hC dX5_takenShare_8 hO ?_
  refine gf_X5_255 hC dX5_takenShare_11 hO ?_
  refine v_i2lN hC dX5_takenShare_14 (by first | omega | assumption) ?_
  refine v_laddN hC dX5_takenShare_15 ?_
  refine v_lstore_n hC dX5_takenShare_16 (by decide) ?_
  refine v_lload_n hC dX5_takenShare_17 rfl ?_
  refine v_lconst (v := lN 0) hC dX5_takenShare_18 (by decide) ?_
  refine v_lcmp hC dX5_takenShare_19 ?_
  refine v_if_neJ (tgt := 34) hC dX5_takenShare_20 (by decide) (by first | omega | assumption) (by first | omega | assumption) (fun c_20 => ?_) (fun c_20 => ?_)
  · refine v_aload_n hC dX5_takenShare_34 rfl ?_
    refine gf_X5_51 hC dX5_takenShare_35 hO ?_
    refine gf_X5_258 hC dX5_takenShare_38 hO ?_
    refine v_l2f hC dX5_takenShare_41 ?_
    refine v_lload_n hC dX5_takenShare_42 rfl ?_
    refine v_l2f hC dX5_takenShare_43 ?_
    refine v_fdiv hC dX5_takenShare_44 (fdiv_n c_20 (by omega)) ?_
    refine v_fret hC hM dX5_takenShare_45 (by omega) (by omega) ?_
    exact ⟨c_20, rfl, rfl⟩
  · exact v_thrW (text := "there were no results") hC hM tw_ARE (by decide +kernel) (⟨rfl, c_20, rfl⟩) (by omega) (by omega) (Nat.le_of_ble_eq_true rfl) dX5_takenShare_23 dX5_takenShare_26 dX5_takenShare_27 dX5_takenShare_30 dX5_takenShare_33

/-- the edits of the first n merged changes -/
def sme (σ : SG) : Nat → Nat
  | 0 => 0
  | n + 1 => sme σ n + pop (σ 6 (σ 13 1 0 n) 0 3)

set_option maxHeartbeats 4000000 in
set_option maxRecDepth 100000 in
theorem c_X5_meanEdits {l : Launch} (hl0 : l.stackTraces = false) {G : GT} {ok : KF} {ad : AD} {σ : SG} (hO : OKC ok) (hB : BD σ) : Ct l G 4 yX5_meanEdits cX5_meanEdits 3 (some .double) [.ref (ad 0 0 0)] ok ad σ (fun v μ => σ 12 1 0 0 ≠ 0 ∧ v = some (.double (FP.ddiv (FP.i2d (nI (sme σ (σ 12 1 0 0)))) (FP.i2d (nI (σ 12 1 0 0))))) ∧ μ = (ok, ad, σ)) (fun E μ => E = eARE ∧ σ 12 1 0 0 = 0 ∧ μ = (ok, ad, σ)) 4 24 := by
  refine Ct.mk (by decide +kernel) hl0 (Nat.le_of_ble_eq_true rfl) (fun X hX hC hM => ?_)
  subst hX
  have hsz : σ 12 1 0 0 < 17 := hB 12 1 0 0 rfl
  refine v_aload_n hC dX5_meanEdits_0 rfl ?_
  refine gf_X5_36 hC dX5_meanEdits_1 hO ?_
  refine gf_X5_159 hC dX5_meanEdits_4 hO (i := 1) (by decide) ?_
  refine v_if_neN (tgt := 21) hC dX5_meanEdits_7 (by decide) (by first | omega | assumption | exact hB _ _ _ _ rfl) (fun c_7 => ?_) (fun c_7 => ?_)
  · refine v_iconst (v := nI 0) hC dX5_meanEdits_21 (by decide) ?_
    refine v_istore_n hC dX5_meanEdits_22 (by decide) ?_
    refine v_iconst (v := nI 0) hC dX5_meanEdits_23 (by decide) ?_
    refine v_istore_n hC dX5_meanEdits_24 (by decide) ?_
    have key : ∀ n, n ≤ σ 12 1 0 0 → V X G 0 0 ok ad σ [(0, .ref (ad 0 0 0)), (1, iv (sme σ n)), (2, iv n)] 25 [] := by
      refine down (σ 12 1 0 0) ?_ ?_
      · refine v_iload_n hC dX5_meanEdits_25 rfl ?_
        refine v_aload_n hC dX5_meanEdits_26 rfl ?_
        refine gf_X5_36 hC dX5_meanEdits_27 hO ?_
        refine gf_X5_159 hC dX5_meanEdits_30 hO (i := 1) (by decide) ?_
        refine v_icmp_geN (tgt := 61) hC dX5_meanEdits_33 (by decide) (by first | omega | assumption | exact hB _ _ _ _ rfl) (by first | omega | assumption | exact hB _ _ _ _ rfl) (fun c_33 => ?_) (fun c_33 => ?_)
        · refine v_iload_n hC dX5_meanEdits_61 rfl ?_
          refine v_i2d hC dX5_meanEdits_62 ?_
          refine v_aload_n hC dX5_meanEdits_63 rfl ?_
          refine gf_X5_36 hC dX5_meanEdits_64 hO ?_
          refine gf_X5_159 hC dX5_meanEdits_67 hO (i := 1) (by decide) ?_
          refine v_i2d hC dX5_meanEdits_70 ?_
          refine v_ddiv hC dX5_meanEdits_71 (ddiv_n c_7 hsz) ?_
          refine v_dret hC hM dX5_meanEdits_72 (by omega) (by omega) ?_
          exact ⟨c_7, rfl, rfl⟩
        · exact absurd c_33 (by omega)
      · intro n hp ih 
        have hc16 : σ 13 1 0 n < 16 := hB 13 1 0 n rfl
        refine v_iload_n hC dX5_meanEdits_25 rfl ?_
        refine v_aload_n hC dX5_meanEdits_26 rfl ?_
        refine gf_X5_36 hC dX5_meanEdits_27 hO ?_
        refine gf_X5_159 hC dX5_meanEdits_30 hO (i := 1) (by decide) ?_
        refine v_icmp_geN (tgt := 61) hC dX5_meanEdits_33 (by decide) (by first | omega | assumption | exact hB _ _ _ _ rfl) (by first | omega | assumption | exact hB _ _ _ _ rfl) (fun c_33 => ?_) (fun c_33 => ?_)
        · exact absurd c_33 (by omega)
        · refine v_iload_n hC dX5_meanEdits_36 rfl ?_
          refine v_aload_n hC dX5_meanEdits_37 rfl ?_
          refine gf_X5_25 hC dX5_meanEdits_38 hO ?_
          refine v_aload_n hC dX5_meanEdits_41 rfl ?_
          refine gf_X5_36 hC dX5_meanEdits_42 hO ?_
          refine v_iload_n hC dX5_meanEdits_45 rfl ?_
          refine v_callVN_r0 hC lk_X5_171 dX5_meanEdits_46 (c_X2_at hl0 hO hB (by decide) (by omega)) (by decide) (by decide) (hO.k12 (i := 1) (by decide)) rfl rfl rfl rfl (Nat.le_of_ble_eq_true rfl) (by omega) (by omega) ?_
          refine al_5 hC dX5_meanEdits_49 hO hc16 ?_
          refine v_callVN_r0 hC lk_X5_100 dX5_meanEdits_50 (c_X1_editCount hl0 hO hB hc16) (by decide) (by decide) (hO.k6 hc16) rfl rfl rfl rfl (Nat.le_of_ble_eq_true rfl) (by omega) (by omega) ?_
          refine v_iaddN hC dX5_meanEdits_53 ?_
          refine v_istore_n hC dX5_meanEdits_54 (by decide) ?_
          refine v_iincN hC dX5_meanEdits_55 rfl (by decide) ?_
          refine v_goto (tgt := 25) hC dX5_meanEdits_58 (by decide) ?_
          exact v_sub rfl ih
    exact v_sub rfl (key 0 (Nat.zero_le _))
  · exact v_thrW (text := "no changes are merged") hC hM tw_ARE (by decide +kernel) (⟨rfl, c_7, rfl⟩) (by omega) (by omega) (Nat.le_of_ble_eq_true rfl) dX5_meanEdits_10 dX5_meanEdits_13 dX5_meanEdits_14 dX5_meanEdits_17 dX5_meanEdits_20

