/-- what a change of the tests leaves: the kept cells are forgotten -/
def mVc (G : GT) (e : Nat) (f : OM) (ok : KF) (ad : AD) (σ : SG) : Option Value → MT → Prop := fun v μ => (∃ k, f = .inl k ∧ v = some (iv 0) ∧ μ = (ok, ad, th σ k)) ∨ ∃ r τ τ', f = .inr (r, τ) ∧ v = some (iv r) ∧ μ = (ok, ad, mxS τ τ') ∧ BD (mxS τ τ') ∧ Arr G ok ad (mxS τ τ') [] e ∧ τ' 30 0 0 5 = τ 30 0 0 5 ∧ τ' 30 0 0 6 = τ 30 0 0 6
def mats (σ : SG) (a b v : Nat) : SG := up (up (up (up σ 32 0 0 (σ 30 0 0 1) a) 33 0 0 (σ 30 0 0 1) b) 34 0 0 (σ 30 0 0 1) v) 30 0 0 1 (σ 30 0 0 1 + 1)
def k6_addTest (σ : SG) (f s o t v : Int32) : OM := gS f s 1 fun f s => gS o t 1 fun o t => gM v 199 2 fun v => if σ 30 0 0 1 = 12 then .inl 3 else if v < σ 31 0 0 (4 * f + s) + σ 31 0 0 (4 * o + t) then .inl 4 else .inr (σ 30 0 0 1, mats σ (4 * f + s) (4 * o + t) v)
def k6_dropTest (σ : SG) (t : Int32) : OM := gM t (σ 30 0 0 1) 1 fun t => if σ 35 0 0 t ≠ 0 then .inl 1 else .inr (cnt (fun q => decide (up σ 35 0 0 t 1 35 0 0 q = 0)) (σ 30 0 0 1), up σ 35 0 0 t 1)

set_option maxHeartbeats 4000000 in
set_option maxRecDepth 100000 in
theorem c_X6_addTest {l : Launch} (hl0 : l.stackTraces = false) {G : GT} {ok : KF} {ad : AD} {σ : SG} (hQ : OKM ok) (hB : BD σ) (f : Int32) (s : Int32) (o : Int32) (t : Int32) (v : Int32) {K : List (List Nat)} {e : Nat} (hArr : Arr G ok ad σ K e) (hK : K.length ≤ 3100) (he : e ≤ 4700) : Ct l G 3 yX6_addTest cX6_addTest 6 (some .int) [.ref (ad 30 0 0), .int f, .int s, .int o, .int t, .int v] ok ad σ (mVc G e (k6_addTest (th σ 0) f s o t v) ok ad (th σ 0)) (NX) 0 0 := by
  refine Ct.mk (by decide +kernel) hl0 (Nat.le_of_ble_eq_true rfl) (fun X hX hC hM => ?_)
  subst hX
  have hArr : Arr G ok ad (th σ 0) K e := hArr.of rfl rfl rfl
  refine v_aload_n hC dX6_addTest_0 rfl ?_
  refine v_iconst (v := nI 0) hC dX6_addTest_1 (by decide) ?_
  refine pf_X6_1 hC dX6_addTest_2 hQ ?_
  show V X G _ _ ok ad (th σ 0) _ _ _
  have hB : BD (th σ 0) := th_BD hB (by decide)
  have h0 : th σ 0 30 0 0 0 = 0 := up_same _ _ _ _ _ _
  generalize th σ 0 = σ at *
  have hn13 : σ 30 0 0 1 < 13 := hB 30 0 0 1 rfl
  refine v_iload_n hC dX6_addTest_5 rfl ?_
  refine v_iload_n hC dX6_addTest_6 rfl ?_
  refine v_callS hC lk_X6_109 dX6_addTest_7 (c_X6_isSpan hl0 (x := f) (y := s)) (by decide) (by decide) rfl rfl (Nat.le_of_ble_eq_true rfl) (by omega) (by omega) (fun v μ h => ?_) (fun _ _ h => h.elim)
  rcases h with ⟨hor_7 | hor_7, rfl, rfl⟩ | ⟨f, s, h_f, h_s, rfl, rfl, b_f, b_s, rfl, rfl⟩
  · dsimp only
    have h_f := hor_7
    refine v_if_eqN (tgt := 22) hC dX6_addTest_10 (by decide) (by decide) (fun c_10 => ?_) (fun c_10 => absurd c_10 (by decide))
    refine v_aload_n hC dX6_addTest_22 rfl ?_
    refine v_iconst (v := nI 1) hC dX6_addTest_23 (by decide) ?_
    refine v_callV_r0 hC lk_X6_96 dX6_addTest_24 (c_X6_fails hl0 hQ 1) (by decide) (by decide) hQ.k30 rfl rfl rfl rfl (Nat.le_of_ble_eq_true rfl) (by omega) (by omega) ?_
    refine v_iret hC hM dX6_addTest_27 (by omega) (by omega) ?_
    exact .inl ⟨1, by simp [k6_addTest, gM, gU, gS, h_f], rfl, rfl⟩
  · dsimp only
    have h_s := hor_7
    cases h_f : inR f 16
    · skip
      refine v_if_eqN (tgt := 22) hC dX6_addTest_10 (by decide) (by decide) (fun c_10 => ?_) (fun c_10 => absurd c_10 (by decide))
      refine v_aload_n hC dX6_addTest_22 rfl ?_
      refine v_iconst (v := nI 1) hC dX6_addTest_23 (by decide) ?_
      refine v_callV_r0 hC lk_X6_96 dX6_addTest_24 (c_X6_fails hl0 hQ 1) (by decide) (by decide) hQ.k30 rfl rfl rfl rfl (Nat.le_of_ble_eq_true rfl) (by omega) (by omega) ?_
      refine v_iret hC hM dX6_addTest_27 (by omega) (by omega) ?_
      exact .inl ⟨1, by simp [k6_addTest, gM, gU, gS, h_s, h_f], rfl, rfl⟩
    · skip
      refine v_if_eqN (tgt := 22) hC dX6_addTest_10 (by decide) (by decide) (fun c_10 => ?_) (fun c_10 => absurd c_10 (by decide))
      refine v_aload_n hC dX6_addTest_22 rfl ?_
      refine v_iconst (v := nI 1) hC dX6_addTest_23 (by decide) ?_
      refine v_callV_r0 hC lk_X6_96 dX6_addTest_24 (c_X6_fails hl0 hQ 1) (by decide) (by decide) hQ.k30 rfl rfl rfl rfl (Nat.le_of_ble_eq_true rfl) (by omega) (by omega) ?_
      refine v_iret hC hM dX6_addTest_27 (by omega) (by omega) ?_
      exact .inl ⟨1, by simp [k6_addTest, gM, gU, gS, h_s, h_f], rfl, rfl⟩
  · dsimp only
    refine v_if_eqN (tgt := 22) hC dX6_addTest_10 (by decide) (by decide) (fun c_10 => absurd c_10 (by decide)) (fun c_10 => ?_)
    refine v_iload_n hC dX6_addTest_13 rfl ?_
    refine v_iload hC dX6_addTest_14 rfl ?_
    refine v_callS hC lk_X6_109 dX6_addTest_16 (c_X6_isSpan hl0 (x := o) (y := t)) (by decide) (by decide) rfl rfl (Nat.le_of_ble_eq_true rfl) (by omega) (by omega) (fun v μ h => ?_) (fun _ _ h => h.elim)
    rcases h with ⟨hor_16 | hor_16, rfl, rfl⟩ | ⟨o, t, h_o, h_t, rfl, rfl, b_o, b_t, rfl, rfl⟩
    · dsimp only
      have h_o := hor_16
      refine v_if_neN (tgt := 28) hC dX6_addTest_19 (by decide) (by decide) (fun c_19 => absurd c_19 (by decide)) (fun c_19 => ?_)
      refine v_aload_n hC dX6_addTest_22 rfl ?_
      refine v_iconst (v := nI 1) hC dX6_addTest_23 (by decide) ?_
      refine v_callV_r0 hC lk_X6_96 dX6_addTest_24 (c_X6_fails hl0 hQ 1) (by decide) (by decide) hQ.k30 rfl rfl rfl rfl (Nat.le_of_ble_eq_true rfl) (by omega) (by omega) ?_
      refine v_iret hC hM dX6_addTest_27 (by omega) (by omega) ?_
      exact .inl ⟨1, by simp [k6_addTest, gM, gU, gS, h_f, h_s, h_o], rfl, rfl⟩
    · dsimp only
      have h_t := hor_16
      cases h_o : inR o 16
      · skip
        refine v_if_neN (tgt := 28) hC dX6_addTest_19 (by decide) (by decide) (fun c_19 => absurd c_19 (by decide)) (fun c_19 => ?_)
        refine v_aload_n hC dX6_addTest_22 rfl ?_
        refine v_iconst (v := nI 1) hC dX6_addTest_23 (by decide) ?_
        refine v_callV_r0 hC lk_X6_96 dX6_addTest_24 (c_X6_fails hl0 hQ 1) (by decide) (by decide) hQ.k30 rfl rfl rfl rfl (Nat.le_of_ble_eq_true rfl) (by omega) (by omega) ?_
        refine v_iret hC hM dX6_addTest_27 (by omega) (by omega) ?_
        exact .inl ⟨1, by simp [k6_addTest, gM, gU, gS, h_f, h_s, h_t, h_o], rfl, rfl⟩
      · skip
        refine v_if_neN (tgt := 28) hC dX6_addTest_19 (by decide) (by decide) (fun c_19 => absurd c_19 (by decide)) (fun c_19 => ?_)
        refine v_aload_n hC dX6_addTest_22 rfl ?_
        refine v_iconst (v := nI 1) hC dX6_addTest_23 (by decide) ?_
        refine v_callV_r0 hC lk_X6_96 dX6_addTest_24 (c_X6_fails hl0 hQ 1) (by decide) (by decide) hQ.k30 rfl rfl rfl rfl (Nat.le_of_ble_eq_true rfl) (by omega) (by omega) ?_
        refine v_iret hC hM dX6_addTest_27 (by omega) (by omega) ?_
        exact .inl ⟨1, by simp [k6_addTest, gM, gU, gS, h_f, h_s, h_t, h_o], rfl, rfl⟩
    · dsimp only
      refine v_if_neN (tgt := 28) hC dX6_addTest_19 (by decide) (by decide) (fun c_19 => ?_) (fun c_19 => absurd c_19 (by decide))
      refine v_iload hC dX6_addTest_28 rfl ?_
      refine v_iconst (v := nI 0) hC dX6_addTest_30 (by decide) ?_
      refine v_sipush (v := nI 198) hC dX6_addTest_31 (by decide) ?_
      refine v_callS hC lk_X6_7 dX6_addTest_34 (c_X6_isBetween hl0 (x := v) (n := 199) (by decide)) (by decide) (by decide) rfl rfl (Nat.le_of_ble_eq_true rfl) (by omega) (by omega) (fun v μ h => ?_) (fun _ _ h => h.elim)
      rcases h with ⟨h_v, rfl, rfl⟩ | ⟨v, h_v, rfl, b_v, rfl, rfl⟩
      · dsimp only
        refine v_if_neN (tgt := 46) hC dX6_addTest_37 (by decide) (by decide) (fun c_37 => absurd c_37 (by decide)) (fun c_37 => ?_)
        refine v_aload_n hC dX6_addTest_40 rfl ?_
        refine v_iconst (v := nI 2) hC dX6_addTest_41 (by decide) ?_
        refine v_callV_r0 hC lk_X6_96 dX6_addTest_42 (c_X6_fails hl0 hQ 2) (by decide) (by decide) hQ.k30 rfl rfl rfl rfl (Nat.le_of_ble_eq_true rfl) (by omega) (by omega) ?_
        refine v_iret hC hM dX6_addTest_45 (by omega) (by omega) ?_
        exact .inl ⟨2, by simp [k6_addTest, gM, gU, gS, h_f, h_s, h_o, h_t, h_v], rfl, rfl⟩
      · dsimp only
        refine v_if_neN (tgt := 46) hC dX6_addTest_37 (by decide) (by decide) (fun c_37 => ?_) (fun c_37 => absurd c_37 (by decide))
        refine v_aload_n hC dX6_addTest_46 rfl ?_
        refine gf_X6_150 hC dX6_addTest_47 hQ ?_
        refine v_bipush (v := nI 12) hC dX6_addTest_50 (by decide) ?_
        refine v_icmp_neN (tgt := 61) hC dX6_addTest_52 (by decide) (by first | omega | exact hB _ _ _ _ rfl | exact hB.i _ _ _ _ rfl | assumption | exact b2n_31 _ | exact add_31 (hB _ _ _ _ rfl) (hB _ _ _ _ rfl)) (by first | omega | exact hB _ _ _ _ rfl | exact hB.i _ _ _ _ rfl | assumption | exact b2n_31 _ | exact add_31 (hB _ _ _ _ rfl) (hB _ _ _ _ rfl)) (fun c_52 => ?_) (fun c_52 => ?_)
        · refine v_aload_n hC dX6_addTest_61 rfl ?_
          refine gf_X6_17 hC dX6_addTest_62 hQ ?_
          refine v_iconst (v := nI 4) hC dX6_addTest_65 (by decide) ?_
          refine v_iload_n hC dX6_addTest_66 rfl ?_
          refine v_imulN hC dX6_addTest_67 ?_
          refine v_iload_n hC dX6_addTest_68 rfl ?_
          refine v_iaddN hC dX6_addTest_69 ?_
          refine al_31 hC dX6_addTest_70 hQ (by first | omega | exact hB _ _ _ _ rfl | exact hB.i _ _ _ _ rfl | assumption | exact b2n_31 _ | exact add_31 (hB _ _ _ _ rfl) (hB _ _ _ _ rfl)) ?_
          refine v_aload_n hC dX6_addTest_71 rfl ?_
          refine gf_X6_17 hC dX6_addTest_72 hQ ?_
          refine v_iconst (v := nI 4) hC dX6_addTest_75 (by decide) ?_
          refine v_iload_n hC dX6_addTest_76 rfl ?_
          refine v_imulN hC dX6_addTest_77 ?_
          refine v_iload hC dX6_addTest_78 rfl ?_
          refine v_iaddN hC dX6_addTest_80 ?_
          refine al_31 hC dX6_addTest_81 hQ (by first | omega | exact hB _ _ _ _ rfl | exact hB.i _ _ _ _ rfl | assumption | exact b2n_31 _ | exact add_31 (hB _ _ _ _ rfl) (hB _ _ _ _ rfl)) ?_
          refine v_iaddN hC dX6_addTest_82 ?_
          refine v_iload hC dX6_addTest_83 rfl ?_
          refine v_icmp_leN (tgt := 94) hC dX6_addTest_85 (by decide) (by first | omega | exact hB _ _ _ _ rfl | exact hB.i _ _ _ _ rfl | assumption | exact b2n_31 _ | exact add_31 (hB _ _ _ _ rfl) (hB _ _ _ _ rfl)) (by first | omega | exact hB _ _ _ _ rfl | exact hB.i _ _ _ _ rfl | assumption | exact b2n_31 _ | exact add_31 (hB _ _ _ _ rfl) (hB _ _ _ _ rfl)) (fun c_85 => ?_) (fun c_85 => ?_)
          · refine v_aload_n hC dX6_addTest_94 rfl ?_
            refine gf_X6_21 hC dX6_addTest_95 hQ ?_
            refine v_aload_n hC dX6_addTest_98 rfl ?_
            refine gf_X6_150 hC dX6_addTest_99 hQ ?_
            refine v_iconst (v := nI 4) hC dX6_addTest_102 (by decide) ?_
            refine v_iload_n hC dX6_addTest_103 rfl ?_
            refine v_imulN hC dX6_addTest_104 ?_
            refine v_iload_n hC dX6_addTest_105 rfl ?_
            refine v_iaddN hC dX6_addTest_106 ?_
            refine as_32 hC dX6_addTest_107 hQ (by omega) ?_
            refine v_aload_n hC dX6_addTest_108 rfl ?_
            refine gf_X6_24 hC dX6_addTest_109 hQ ?_
            refine v_aload_n hC dX6_addTest_112 rfl ?_
            refine gf_X6_150 hC dX6_addTest_113 hQ ?_
            rw [show up σ 32 0 0 (σ 30 0 0 1) (4 * f + s) 30 0 0 1 = σ 30 0 0 1 from rfl]
            refine v_iconst (v := nI 4) hC dX6_addTest_116 (by decide) ?_
            refine v_iload_n hC dX6_addTest_117 rfl ?_
            refine v_imulN hC dX6_addTest_118 ?_
            refine v_iload hC dX6_addTest_119 rfl ?_
            refine v_iaddN hC dX6_addTest_121 ?_
            refine as_33 hC dX6_addTest_122 hQ (by omega) ?_
            refine v_aload_n hC dX6_addTest_123 rfl ?_
            refine gf_X6_27 hC dX6_addTest_124 hQ ?_
            refine v_aload_n hC dX6_addTest_127 rfl ?_
            refine gf_X6_150 hC dX6_addTest_128 hQ ?_
            rw [show up (up σ 32 0 0 (σ 30 0 0 1) (4 * f + s)) 33 0 0 (σ 30 0 0 1) (4 * o + t) 30 0 0 1 = σ 30 0 0 1 from rfl]
            refine v_iload hC dX6_addTest_131 rfl ?_
            refine as_34 hC dX6_addTest_133 hQ (by omega) ?_
            refine v_aload_n hC dX6_addTest_134 rfl ?_
            refine v_dup hC dX6_addTest_135 rfl ?_
            refine gf_X6_150 hC dX6_addTest_136 hQ ?_
            rw [show up (up (up σ 32 0 0 (σ 30 0 0 1) (4 * f + s)) 33 0 0 (σ 30 0 0 1) (4 * o + t)) 34 0 0 (σ 30 0 0 1) v 30 0 0 1 = σ 30 0 0 1 from rfl]
            refine v_iconst (v := nI 1) hC dX6_addTest_139 (by decide) ?_
            refine v_iaddN hC dX6_addTest_140 ?_
            refine pf_X6_150 hC dX6_addTest_141 hQ ?_
            show V X G _ _ ok ad (mats σ (4 * f + s) (4 * o + t) v) _ _ _
            refine v_aload_n hC dX6_addTest_144 rfl ?_
            refine gf_X6_85 hC dX6_addTest_145 hQ ?_
            have hBm : BD (mats σ (4 * f + s) (4 * o + t) v) := BD.put (BD.put (BD.put (BD.put hB (by show _ < 64; omega)) (by show _ < 64; omega)) (by show _ < 199; omega)) (by show _ < 13; omega)
            refine v_callV hC lk_X6_217 dX6_addTest_148 (c_alist_clear (σ := (mats σ (4 * f + s) (4 * o + t) v)) hl0 hQ hBm (hArr.of rfl rfl rfl) hK he) (by decide) (by decide) hQ.k54 rfl rfl rfl rfl (Nat.le_of_ble_eq_true rfl) (by omega) (by omega) (fun v μ h => ?_) (fun _ _ h => h.elim)
            obtain ⟨rfl, τ', rfl, g1, g2, g3, g4⟩ := h
            dsimp only
            refine v_aload_n hC dX6_addTest_151 rfl ?_
            refine gf_X6_150 hC dX6_addTest_152 hQ ?_
            rw [show mxS (mats σ (4 * f + s) (4 * o + t) v) τ' 30 0 0 1 = σ 30 0 0 1 + 1 from rfl]
            refine v_iconst (v := nI 1) hC dX6_addTest_155 (by decide) ?_
            refine v_isubN hC dX6_addTest_156 (by omega) ?_
            rw [Nat.add_sub_cancel]
            refine v_iret hC hM dX6_addTest_157 (by omega) (by omega) ?_
            exact .inr ⟨_, _, τ', by simp [k6_addTest, gS, gM, h_f, h_s, h_o, h_t, h_v, c_52, Nat.not_lt.mpr c_85], rfl, rfl, g1, g2, g3, g4⟩
          · refine v_aload_n hC dX6_addTest_88 rfl ?_
            refine v_iconst (v := nI 4) hC dX6_addTest_89 (by decide) ?_
            refine v_callV_r0 hC lk_X6_96 dX6_addTest_90 (c_X6_fails hl0 hQ 4) (by decide) (by decide) hQ.k30 rfl rfl rfl rfl (Nat.le_of_ble_eq_true rfl) (by omega) (by omega) ?_
            refine v_iret hC hM dX6_addTest_93 (by omega) (by omega) ?_
            exact .inl ⟨4, by simp [k6_addTest, gM, gU, gS, h_f, h_s, h_o, h_t, h_v, c_52, c_85], rfl, rfl⟩
        · refine v_aload_n hC dX6_addTest_55 rfl ?_
          refine v_iconst (v := nI 3) hC dX6_addTest_56 (by decide) ?_
          refine v_callV_r0 hC lk_X6_96 dX6_addTest_57 (c_X6_fails hl0 hQ 3) (by decide) (by decide) hQ.k30 rfl rfl rfl rfl (Nat.le_of_ble_eq_true rfl) (by omega) (by omega) ?_
          refine v_iret hC hM dX6_addTest_60 (by omega) (by omega) ?_
          exact .inl ⟨3, by simp [k6_addTest, gM, gU, gS, h_f, h_s, h_o, h_t, h_v, c_52], rfl, rfl⟩

set_option maxHeartbeats 4000000 in
set_option maxRecDepth 100000 in
theorem c_X6_dropTest {l : Launch} (hl0 : l.stackTraces = false) {G : GT} {ok : KF} {ad : AD} {σ : SG} (hQ : OKM ok) (hB : BD σ) (t : Int32) {K : List (List Nat)} {e : Nat} (hArr : Arr G ok ad σ K e) (hK : K.length ≤ 3100) (he : e ≤ 4700) : Ct l G 3 yX6_dropTest cX6_dropTest 4 (some .int) [.ref (ad 30 0 0), .int t] ok ad σ (mVc G e (k6_dropTest (th σ 0) t) ok ad (th σ 0)) (NX) 0 0 := by
  refine Ct.mk (by decide +kernel) hl0 (Nat.le_of_ble_eq_true rfl) (fun X hX hC hM => ?_)
  subst hX
  have hArr : Arr G ok ad (th σ 0) K e := hArr.of rfl rfl rfl
  refine v_aload_n hC dX6_dropTest_0 rfl ?_
  refine v_iconst (v := nI 0) hC dX6_dropTest_1 (by decide) ?_
  refine pf_X6_1 hC dX6_dropTest_2 hQ ?_
  show V X G _ _ ok ad (th σ 0) _ _ _
  have hB : BD (th σ 0) := th_BD hB (by decide)
  have h0 : th σ 0 30 0 0 0 = 0 := up_same _ _ _ _ _ _
  generalize th σ 0 = σ at *
  have hn13 : σ 30 0 0 1 < 13 := hB 30 0 0 1 rfl
  refine v_iload_n hC dX6_dropTest_5 rfl ?_
  refine v_iconst (v := nI 0) hC dX6_dropTest_6 (by decide) ?_
  refine v_aload_n hC dX6_dropTest_7 rfl ?_
  refine gf_X6_150 hC dX6_dropTest_8 hQ ?_
  refine v_iconst (v := nI 1) hC dX6_dropTest_11 (by decide) ?_
  refine v_isub hC dX6_dropTest_12 ?_
  rw [dm_sub1 (by omega)]
  refine v_callS hC lk_X6_7 dX6_dropTest_13 (c_X6_isBetween hl0 (x := t) (n := σ 30 0 0 1) (by omega)) (by decide) (by decide) rfl rfl (Nat.le_of_ble_eq_true rfl) (by omega) (by omega) (fun v μ h => ?_) (fun _ _ h => h.elim)
  rcases h with ⟨h_t, rfl, rfl⟩ | ⟨t, h_t, rfl, b_t, rfl, rfl⟩
  · dsimp only
    refine v_if_eqN (tgt := 28) hC dX6_dropTest_16 (by decide) (by decide) (fun c_16 => ?_) (fun c_16 => absurd c_16 (by decide))
    refine v_aload_n hC dX6_dropTest_28 rfl ?_
    refine v_iconst (v := nI 1) hC dX6_dropTest_29 (by decide) ?_
    refine v_callV_r0 hC lk_X6_96 dX6_dropTest_30 (c_X6_fails hl0 hQ 1) (by decide) (by decide) hQ.k30 rfl rfl rfl rfl (Nat.le_of_ble_eq_true rfl) (by omega) (by omega) ?_
    refine v_iret hC hM dX6_dropTest_33 (by omega) (by omega) ?_
    exact .inl ⟨1, by simp [k6_dropTest, gM, gU, gS, h_t], rfl, rfl⟩
  · dsimp only
    refine v_if_eqN (tgt := 28) hC dX6_dropTest_16 (by decide) (by decide) (fun c_16 => absurd c_16 (by decide)) (fun c_16 => ?_)
    refine v_aload_n hC dX6_dropTest_19 rfl ?_
    refine gf_X6_30 hC dX6_dropTest_20 hQ ?_
    refine v_iload_n hC dX6_dropTest_23 rfl ?_
    refine al_35 hC dX6_dropTest_24 hQ (by first | omega | exact hB _ _ _ _ rfl | exact hB.i _ _ _ _ rfl | assumption | exact b2n_31 _) ?_
    refine v_if_eqN (tgt := 34) hC dX6_dropTest_25 (by decide) (by first | omega | exact hB _ _ _ _ rfl | exact hB.i _ _ _ _ rfl | assumption | exact b2n_31 _) (fun c_25 => ?_) (fun c_25 => ?_)
    · refine v_aload_n hC dX6_dropTest_34 rfl ?_
      refine gf_X6_30 hC dX6_dropTest_35 hQ ?_
      refine v_iload_n hC dX6_dropTest_38 rfl ?_
      refine v_iconst (v := nI 1) hC dX6_dropTest_39 (by decide) ?_
      refine as_35 hC dX6_dropTest_40 hQ (by omega) (by decide) ?_
      refine v_aload_n hC dX6_dropTest_41 rfl ?_
      refine gf_X6_85 hC dX6_dropTest_42 hQ ?_
      have hBm : BD (up σ 35 0 0 t 1) := BD.put hB (by show 1 < 2; decide)
      refine v_callV hC lk_X6_217 dX6_dropTest_45 (c_alist_clear (σ := (up σ 35 0 0 t 1)) hl0 hQ hBm (hArr.of rfl rfl rfl) hK he) (by decide) (by decide) hQ.k54 rfl rfl rfl rfl (Nat.le_of_ble_eq_true rfl) (by omega) (by omega) (fun v μ h => ?_) (fun _ _ h => h.elim)
      obtain ⟨rfl, τ', rfl, g1, g2, g3, g4⟩ := h
      dsimp only
      refine v_iconst (v := nI 0) hC dX6_dropTest_48 (by decide) ?_
      refine v_istore_n hC dX6_dropTest_49 (by decide) ?_
      refine v_iconst (v := nI 0) hC dX6_dropTest_50 (by decide) ?_
      refine v_istore_n hC dX6_dropTest_51 (by decide) ?_
      have key : ∀ q, q ≤ σ 30 0 0 1 → V X G 0 0 ok ad (mxS (up σ 35 0 0 t 1) τ') [(0, .ref (ad 30 0 0)), (2, iv (cnt (fun q => decide ((up σ 35 0 0 t 1) 35 0 0 q = 0)) q)), (3, iv q)] 52 [] := by
        refine down (σ 30 0 0 1) ?_ ?_
        · refine v_iload_n hC dX6_dropTest_52 rfl ?_
          refine v_aload_n hC dX6_dropTest_53 rfl ?_
          refine gf_X6_150 hC dX6_dropTest_54 hQ ?_
          rw [show mxS (up σ 35 0 0 t 1) τ' 30 0 0 1 = σ 30 0 0 1 from rfl]
          refine v_icmp_geN (tgt := 83) hC dX6_dropTest_57 (by decide) (by first | omega | exact hB _ _ _ _ rfl | exact hB.i _ _ _ _ rfl | assumption | exact b2n_31 _) (by first | omega | exact hB _ _ _ _ rfl | exact hB.i _ _ _ _ rfl | assumption | exact b2n_31 _) (fun c_57 => ?_) (fun c_57 => ?_)
          · refine v_iload_n hC dX6_dropTest_83 rfl ?_
            refine v_iret hC hM dX6_dropTest_84 (by omega) (by omega) ?_
            exact .inr ⟨_, _, τ', by simp [k6_dropTest, gM, h_t, c_25], rfl, rfl, g1, g2, g3, g4⟩
          · exact absurd c_57 (by omega)
        · intro q hp ih 
          have hb2 : (up σ 35 0 0 t 1) 35 0 0 q < 2 := hBm 35 0 0 q rfl
          refine v_iload_n hC dX6_dropTest_52 rfl ?_
          refine v_aload_n hC dX6_dropTest_53 rfl ?_
          refine gf_X6_150 hC dX6_dropTest_54 hQ ?_
          rw [show mxS (up σ 35 0 0 t 1) τ' 30 0 0 1 = σ 30 0 0 1 from rfl]
          refine v_icmp_geN (tgt := 83) hC dX6_dropTest_57 (by decide) (by first | omega | exact hB _ _ _ _ rfl | exact hB.i _ _ _ _ rfl | assumption | exact b2n_31 _) (by first | omega | exact hB _ _ _ _ rfl | exact hB.i _ _ _ _ rfl | assumption | exact b2n_31 _) (fun c_57 => ?_) (fun c_57 => ?_)
          · exact absurd c_57 (by omega)
          · refine v_iload_n hC dX6_dropTest_60 rfl ?_
            refine v_aload_n hC dX6_dropTest_61 rfl ?_
            refine gf_X6_30 hC dX6_dropTest_62 hQ ?_
            refine v_iload_n hC dX6_dropTest_65 rfl ?_
            refine al_35 hC dX6_dropTest_66 hQ (by omega) ?_
            rw [show mxS (up σ 35 0 0 t 1) τ' 35 0 0 q = (up σ 35 0 0 t 1) 35 0 0 q from rfl]
            refine v_if_eqN (tgt := 74) hC dX6_dropTest_67 (by decide) (by first | omega | exact hB _ _ _ _ rfl | exact hB.i _ _ _ _ rfl | assumption | exact b2n_31 _) (fun c_67 => ?_) (fun c_67 => ?_)
            · refine v_iconst (v := nI 1) hC dX6_dropTest_74 (by decide) ?_
              refine v_iaddN hC dX6_dropTest_75 ?_
              rw [show cnt (fun q => decide ((up σ 35 0 0 t 1) 35 0 0 q = 0)) q + 1 = cnt (fun q => decide ((up σ 35 0 0 t 1) 35 0 0 q = 0)) (q + 1) from by
                show _ = cnt (fun q => decide ((up σ 35 0 0 t 1) 35 0 0 q = 0)) q + b2n (decide ((up σ 35 0 0 t 1) 35 0 0 q = 0))
                rw [decide_eq_true c_67]
                rfl]
              refine v_istore_n hC dX6_dropTest_76 (by decide) ?_
              refine v_iincN hC dX6_dropTest_77 rfl (by decide) ?_
              refine v_goto (tgt := 52) hC dX6_dropTest_80 (by decide) ?_
              exact v_sub rfl ih
            · refine v_iconst (v := nI 0) hC dX6_dropTest_70 (by decide) ?_
              refine v_goto (tgt := 75) hC dX6_dropTest_71 (by decide) ?_
              refine v_iaddN hC dX6_dropTest_75 ?_
              rw [show cnt (fun q => decide ((up σ 35 0 0 t 1) 35 0 0 q = 0)) q + 0 = cnt (fun q => decide ((up σ 35 0 0 t 1) 35 0 0 q = 0)) (q + 1) from by
                show _ = cnt (fun q => decide ((up σ 35 0 0 t 1) 35 0 0 q = 0)) q + b2n (decide ((up σ 35 0 0 t 1) 35 0 0 q = 0))
                rw [decide_eq_false c_67]
                rfl]
              refine v_istore_n hC dX6_dropTest_76 (by decide) ?_
              refine v_iincN hC dX6_dropTest_77 rfl (by decide) ?_
              refine v_goto (tgt := 52) hC dX6_dropTest_80 (by decide) ?_
              exact v_sub rfl ih
      exact v_sub rfl (key 0 (Nat.zero_le _))
    · refine v_aload_n hC dX6_dropTest_28 rfl ?_
      refine v_iconst (v := nI 1) hC dX6_dropTest_29 (by decide) ?_
      refine v_callV_r0 hC lk_X6_96 dX6_dropTest_30 (c_X6_fails hl0 hQ 1) (by decide) (by decide) hQ.k30 rfl rfl rfl rfl (Nat.le_of_ble_eq_true rfl) (by omega) (by omega) ?_
      refine v_iret hC hM dX6_dropTest_33 (by omega) (by omega) ?_
      exact .inl ⟨1, by simp [k6_dropTest, gM, gU, gS, h_t, c_25], rfl, rfl⟩

