theorem trs_t {σ : SG} {f : Nat} {b : List Nat} {A : AS} (h : (sbl σ (b.foldl (fun v c => layv σ c v) (aT A)) 4 (aK A)).1 = true) : trsA σ (f + 1) b A = (b.length, b.foldl (mrgA σ) (setK A (sbl σ (b.foldl (fun v c => layv σ c v) (aT A)) 4 (aK A)).2.1), (sbl σ (b.foldl (fun v c => layv σ c v) (aT A)) 4 (aK A)).2.2) := by
  unfold trsA
  dsimp only
  rw [if_pos h]
theorem trs_1 {σ : SG} {f : Nat} {b : List Nat} {A : AS} (h : (sbl σ (b.foldl (fun v c => layv σ c v) (aT A)) 4 (aK A)).1 ≠ true) (hl : b.length ≤ 1) : trsA σ (f + 1) b A = (0, falA (setK A (sbl σ (b.foldl (fun v c => layv σ c v) (aT A)) 4 (aK A)).2.1) (b.headD 0), (sbl σ (b.foldl (fun v c => layv σ c v) (aT A)) 4 (aK A)).2.2) := by
  unfold trsA
  dsimp only
  rw [if_neg h, if_pos hl]
theorem trs_h {σ : SG} {f : Nat} {b : List Nat} {A : AS} (h : (sbl σ (b.foldl (fun v c => layv σ c v) (aT A)) 4 (aK A)).1 ≠ true) (hl : ¬ b.length ≤ 1) : trsA σ (f + 1) b A = ((trsA σ f (b.take (b.length / 2)) (setK A (sbl σ (b.foldl (fun v c => layv σ c v) (aT A)) 4 (aK A)).2.1)).1 + (trsA σ f (b.drop (b.length / 2)) (trsA σ f (b.take (b.length / 2)) (setK A (sbl σ (b.foldl (fun v c => layv σ c v) (aT A)) 4 (aK A)).2.1)).2.1).1, (trsA σ f (b.drop (b.length / 2)) (trsA σ f (b.take (b.length / 2)) (setK A (sbl σ (b.foldl (fun v c => layv σ c v) (aT A)) 4 (aK A)).2.1)).2.1).2.1, (sbl σ (b.foldl (fun v c => layv σ c v) (aT A)) 4 (aK A)).2.2 + (trsA σ f (b.take (b.length / 2)) (setK A (sbl σ (b.foldl (fun v c => layv σ c v) (aT A)) 4 (aK A)).2.1)).2.2 + (trsA σ f (b.drop (b.length / 2)) (trsA σ f (b.take (b.length / 2)) (setK A (sbl σ (b.foldl (fun v c => layv σ c v) (aT A)) 4 (aK A)).2.1)).2.1).2.2) := by
  rw [trsA]
  dsimp only
  rw [if_neg h, if_neg hl]
theorem mgf_mem {ok : KF} {ad : AD} {σ0 σ : SG} {A : AS} {a n : Nat} (h : TS ok ad σ0 σ A) (hb : BI σ0 A (bt σ a n)) {m : Nat} (hm : m < n) : σ 14 0 0 (a + m) ∈ aQ ((bt σ a m).foldl (mrgA σ0) A) := by
  have hsub : BI σ0 A (bt σ a m) := hb.sub (by rw [← bt_take σ a (show m ≤ n by omega)]; exact List.take_sublist _ _)
  have hmem : σ 14 0 0 (a + m) ∈ bt σ a n := bt_mem (by omega)
  have hnm : σ 14 0 0 (a + m) ∉ bt σ a m := fun q => by
    have h3 := hb.1
    rw [show n = (m + 1) + (n - (m + 1)) by omega, bt_app, bt_s] at h3
    have h4 := (List.nodup_append.mp (List.nodup_append.mp h3).1).2.2
    exact h4 _ q _ (List.mem_singleton.mpr rfl) rfl
  exact (fold_inv h.2.2.2.2.2 hsub).2 _ (hb.2.1 _ hmem) hnm (fun x hx => hb.2.2 _ hmem x (by
    rw [← bt_take σ a (show m ≤ n by omega)] at hx
    exact (List.take_sublist _ _).subset hx) (fun q => hnm (by rw [q]; exact hx)))
/-- the contract of a try whose batch may be halved f times -/
def TrC (l : Launch) (G : GT) (σ0 : SG) (f : Nat) : Prop := ∀ {ok : KF} {ad : AD} {σ : SG} {A : AS} {a b : Nat}, OKC ok → TS ok ad σ0 σ A → BI σ0 A (bt σ a (b - a)) → a < b → b ≤ 4 → b - a ≤ 2 ^ f → σ 16 0 0 1 + (8 * (b - a) - 4) ≤ 3072 → σ 16 0 0 2 + (8 * (b - a) - 4) ≤ 3994 → σ 16 0 0 3 + (8 * (b - a) - 4) ≤ 99994 → Ct l G (6 + 2 * f) yX5_tryTogether cX5_tryTogether 5 (some .int) [.ref (ad 0 0 0), iv a, iv b, iv (2 - f)] ok ad σ (TP ok ad σ0 σ A (trsA σ0 (f + 1) (bt σ a (b - a)) A) (8 * (b - a) - 4)) NX (16 * (b - a) - 8) (216 * (b - a) - 108)

set_option maxHeartbeats 4000000 in
set_option maxRecDepth 100000 in
theorem c_X5_tryHalves {l : Launch} (hl0 : l.stackTraces = false) {G : GT} {ok : KF} {ad : AD} {σ0 σ : SG} {A : AS} {f a b c : Nat} (ih : TrC l G σ0 f) (hf : f ≤ 1) (hO : OKC ok) (hT : TS ok ad σ0 σ A) (hb : BI σ0 A (bt σ a (b - a))) (hab : a + 1 < b) (hb4 : b ≤ 4) (hsz : b - a ≤ 2 ^ (f + 1)) (hc : c = a + (b - a) / 2) (h1 : σ 16 0 0 1 + (8 * (b - a) - 8) ≤ 3072) (h2 : σ 16 0 0 2 + (8 * (b - a) - 8) ≤ 3994) (h3 : σ 16 0 0 3 + (8 * (b - a) - 8) ≤ 99994) :
    Ct l G (7 + 2 * f) yX5_tryHalves cX5_tryHalves 6 (some .int) [.ref (ad 0 0 0), iv a, iv b, iv (2 - f)] ok ad σ (TP ok ad σ0 σ A ((trsA σ0 (f + 1) (bt σ a (c - a)) A).1 + (trsA σ0 (f + 1) (bt σ c (b - c)) (trsA σ0 (f + 1) (bt σ a (c - a)) A).2.1).1, (trsA σ0 (f + 1) (bt σ c (b - c)) (trsA σ0 (f + 1) (bt σ a (c - a)) A).2.1).2.1, (trsA σ0 (f + 1) (bt σ a (c - a)) A).2.2 + (trsA σ0 (f + 1) (bt σ c (b - c)) (trsA σ0 (f + 1) (bt σ a (c - a)) A).2.1).2.2) (8 * (b - a) - 8)) NX (16 * (b - a) - 16) (216 * (b - a) - 216) := by
  refine Ct.mk (by decide +kernel) hl0 (Nat.le_of_ble_eq_true rfl) (fun X hX hC hM => ?_)
  subst hX
  have hp2 : 2 ^ (f + 1) = 2 * 2 ^ f := by rw [Nat.pow_succ]; omega
  have hp1 : 1 ≤ 2 ^ f := Nat.one_le_two_pow
  have hsplit : bt σ a (b - a) = bt σ a (c - a) ++ bt σ c (b - c) := by
    have := bt_app σ a (c - a) (b - c)
    rw [show c - a + (b - c) = b - a by omega, show a + (c - a) = c by omega] at this
    exact this
  have hb1 : BI σ0 A (bt σ a (c - a)) := hb.sub (by rw [hsplit]; exact List.sublist_append_left _ _)
  refine v_iload_n hC dX5_tryHalves_0 rfl ?_
  refine v_iconst (v := nI 2) hC dX5_tryHalves_1 (by decide) ?_
  refine v_icmp_leN (tgt := 7) hC dX5_tryHalves_2 (by decide) (by first | omega | exact hB _ _ _ _ rfl | exact hB.i _ _ _ _ rfl | assumption | exact b2n_31 _) (by first | omega | exact hB _ _ _ _ rfl | exact hB.i _ _ _ _ rfl | assumption | exact b2n_31 _) (fun c_2 => ?_) (fun c_2 => ?_)
  · refine v_iload_n hC dX5_tryHalves_7 rfl ?_
    refine v_iload_n hC dX5_tryHalves_8 rfl ?_
    refine v_iload_n hC dX5_tryHalves_9 rfl ?_
    refine v_isubN hC dX5_tryHalves_10 (by first | omega | exact hB _ _ _ _ rfl | exact hB.i _ _ _ _ rfl | assumption | exact b2n_31 _) ?_
    refine v_iconst (v := nI 2) hC dX5_tryHalves_11 (by decide) ?_
    refine v_idivN hC dX5_tryHalves_12 (by first | omega | exact hB _ _ _ _ rfl | exact hB.i _ _ _ _ rfl | assumption | exact b2n_31 _) (by decide) (by decide) ?_
    refine v_iaddN hC dX5_tryHalves_13 ?_
    rw [← hc]
    refine v_istore hC dX5_tryHalves_14 (by decide) ?_
    refine v_aload_n hC dX5_tryHalves_16 rfl ?_
    refine v_iload_n hC dX5_tryHalves_17 rfl ?_
    refine v_iload hC dX5_tryHalves_18 rfl ?_
    refine v_iload_n hC dX5_tryHalves_20 rfl ?_
    refine v_callV hC lk_X5_180 dX5_tryHalves_21 (ih (a := a) (b := c) hO hT hb1 (by omega) (by omega) (by omega) (by omega) (by omega) (by omega)) (by omega) (by decide) hO.k0 rfl rfl rfl rfl (Nat.le_of_ble_eq_true rfl) (by omega) (by omega) (fun v μ h => ?_) (fun _ _ h => h.elim)
    obtain ⟨nk, na, σ1, rfl, rfl, hT1, h14, hCT⟩ := h
    dsimp only
    generalize hr1 : trsA σ0 (f + 1) (bt σ a (c - a)) A = r1 at *
    obtain ⟨a1, a2, a3, a4, a5, a6⟩ := id hCT
    have hI := trs_inv (f + 1) hT.2.2.2.2.2 hb1 (fun q => by
      have := congrArg List.length q
      rw [bt_len, List.length_nil] at this
      omega)
    rw [hr1] at hI
    have hdis : ∀ x ∈ bt σ c (b - c), x ∉ bt σ a (c - a) := fun x hx hx2 => by
      have h3 := hb.1
      rw [hsplit, List.nodup_append] at h3
      exact h3.2.2 x hx2 x hx rfl
    have hsr : (bt σ c (b - c)).Sublist (bt σ a (b - a)) := by rw [hsplit]; exact List.sublist_append_right _ _
    have hsl : (bt σ a (c - a)).Sublist (bt σ a (b - a)) := by rw [hsplit]; exact List.sublist_append_left _ _
    have hb2 : BI σ0 r1.2.1 (bt σ1 c (b - c)) := by
      rw [bt_14 h14]
      exact ⟨hsr.nodup hb.1, fun x hx => hI.2 x (hb.2.1 x (hsr.subset hx)) (hdis x hx) (fun y hy => hb.2.2 x (hsr.subset hx) y (hsl.subset hy) (fun q => hdis x hx (by rw [q]; exact hy))), fun x hx y hy => hb.2.2 x (hsr.subset hx) y (hsr.subset hy)⟩
    refine v_istore hC dX5_tryHalves_24 (by decide) ?_
    refine v_iload hC dX5_tryHalves_26 rfl ?_
    refine v_aload_n hC dX5_tryHalves_28 rfl ?_
    refine v_iload hC dX5_tryHalves_29 rfl ?_
    refine v_iload_n hC dX5_tryHalves_31 rfl ?_
    refine v_iload_n hC dX5_tryHalves_32 rfl ?_
    refine v_callV hC lk_X5_180 dX5_tryHalves_33 (ih (a := c) (b := b) (ok := mixK ok nk) (ad := mixA ad na) hO.mix hT1 hb2 (by omega) (by omega) (by omega) (by omega) (by omega) (by omega)) (by omega) (by decide) (hO.mix (nk := nk)).k0 rfl rfl rfl rfl (Nat.le_of_ble_eq_true rfl) (by omega) (by omega) (fun v μ h => ?_) (fun _ _ h => h.elim)
    obtain ⟨nk2, na2, σ2, rfl, rfl, hT2, h142, hCT2⟩ := h
    dsimp only
    rw [bt_14 h14] at hT2 hCT2 ⊢
    refine v_iaddN hC dX5_tryHalves_36 ?_
    rw [mixK_mixK, mixA_mixA] at hT2 ⊢
    refine v_iret hC hM dX5_tryHalves_37 (by omega) (by omega) ?_
    exact ⟨nk2, na2, σ2, rfl, rfl, hT2, h142.trans h14, (hCT.trans hCT2).wide (by omega)⟩
  · exact absurd c_2 (by omega)

set_option maxHeartbeats 4000000 in
set_option maxRecDepth 100000 in
theorem c_X5_try {l : Launch} (hl0 : l.stackTraces = false) {G : GT} {σ0 : SG} (hB0 : BD σ0) {f : Nat} (hf : f ≤ 2) (ihH : ∀ f', f = f' + 1 → TrC l G σ0 f') : TrC l G σ0 f := by
  intro ok ad σ A a b hO hT hb hab hb4 hsz h1 h2 h3
  have hB := hT.1
  refine Ct.mk (by decide +kernel) hl0 (Nat.le_of_ble_eq_true rfl) (fun X hX hC hM => ?_)
  subst hX
  refine v_aload_n hC dX5_tryTogether_0 rfl ?_
  refine v_iload_n hC dX5_tryTogether_1 rfl ?_
  refine v_iload_n hC dX5_tryTogether_2 rfl ?_
  refine v_callV hC lk_X5_296 dX5_tryTogether_3 (c_X5_isGoodWithBatch hl0 hO hB (K := aK A) hT.2.2.2.1 (VK_SF hT.2.1 hT.2.2.2.2.1) (by omega) (by omega) (by omega) (a := a) (b := b) (by omega) hb4) (by omega) (by decide) hO.k0 rfl rfl rfl rfl (Nat.le_of_ble_eq_true rfl) (by omega) (by omega) (fun v μ h => ?_) (fun _ _ h => h.elim)
  obtain ⟨rfl, nk, na, τ, rfl, g1, g2, g3, g4, g5, g6, g7, g8, g9⟩ := h
  dsimp only
  have k16 : ∀ x, lyl σ a (b - a) 16 0 0 x = σ 16 0 0 x := fun x => lyl_k (by decide) _
  rw [sbl_bt hT hB0] at *
  rw [k16] at g6 g7 g8
  have hT1 := TS_build hT g1 g2 g3 g4
  have hCT : CT σ (mixS (lyl σ a (b - a)) τ) (aK A) (sbl σ0 ((bt σ a (b - a)).foldl (fun v c => layv σ0 c v) (aT A)) 4 (aK A)).2.1 (sbl σ0 ((bt σ a (b - a)).foldl (fun v c => layv σ0 c v) (aT A)) 4 (aK A)).2.2 4 := ⟨g5.1, g5.2, g6, g7, g8, g9⟩
  have h14 : mixS (lyl σ a (b - a)) τ 14 = σ 14 := lyl_kf (by decide) _
  generalize mixS (lyl σ a (b - a)) τ = σ1 at *
  have hB := hT1.1
  have hO1 : OKC (mixK ok nk) := hO.mix
  have hb1 : BI σ0 (setK A (sbl σ0 ((bt σ a (b - a)).foldl (fun v c => layv σ0 c v) (aT A)) 4 (aK A)).2.1) (bt σ1 a (b - a)) := by
    rw [bt_14 h14]
    exact hb
  have hlen := bt_len σ a (b - a)
  refine v_if_eqN (tgt := 39) hC dX5_tryTogether_6 (by decide) (by first | omega | exact hB _ _ _ _ rfl | exact hB.i _ _ _ _ rfl | assumption | exact b2n_31 _) (fun c_6 => ?_) (fun c_6 => ?_)
  · have hr : (sbl σ0 ((bt σ a (b - a)).foldl (fun v c => layv σ0 c v) (aT A)) 4 (aK A)).1 ≠ true := fun q => by rw [q] at c_6; cases c_6
    refine v_iload_n hC dX5_tryTogether_39 rfl ?_
    refine v_iload_n hC dX5_tryTogether_40 rfl ?_
    refine v_isubN hC dX5_tryTogether_41 (by first | omega | exact hB _ _ _ _ rfl | exact hB.i _ _ _ _ rfl | assumption | exact b2n_31 _) ?_
    refine v_iconst (v := nI 1) hC dX5_tryTogether_42 (by decide) ?_
    refine v_icmp_leN (tgt := 56) hC dX5_tryTogether_43 (by decide) (by first | omega | exact hB _ _ _ _ rfl | exact hB.i _ _ _ _ rfl | assumption | exact b2n_31 _) (by first | omega | exact hB _ _ _ _ rfl | exact hB.i _ _ _ _ rfl | assumption | exact b2n_31 _) (fun c_43 => ?_) (fun c_43 => ?_)
    · have hq : σ1 14 0 0 a ∈ aQ (setK A (sbl σ0 ((bt σ a (b - a)).foldl (fun v c => layv σ0 c v) (aT A)) 4 (aK A)).2.1) := hb1.2.1 _ (bt_mem (a := a) (k := 0) (by omega))
      have hi := TS_i hB0 hT1 hq
      refine v_aload_n hC dX5_tryTogether_56 rfl ?_
      refine v_aload_n hC dX5_tryTogether_57 rfl ?_
      refine gf_X5_39 hC dX5_tryTogether_58 hO1 ?_
      refine v_iload_n hC dX5_tryTogether_61 rfl ?_
      refine al_14 hC dX5_tryTogether_62 hO1 (by first | omega | exact hB _ _ _ _ rfl | exact hB.i _ _ _ _ rfl | assumption | exact b2n_31 _) ?_
      refine v_callV_v0 hC lk_X5_164 dX5_tryTogether_63 (c_X5_reopen hl0 hO1 hB hi.1) (by omega) (by decide) hO1.k0 rfl rfl rfl rfl (Nat.le_of_ble_eq_true rfl) (by omega) (by omega) ?_
      refine v_aload_n hC dX5_tryTogether_66 rfl ?_
      refine gf_X5_25 hC dX5_tryTogether_67 hO1 ?_
      refine v_aload_n hC dX5_tryTogether_70 rfl ?_
      refine gf_X5_39 hC dX5_tryTogether_71 hO1 ?_
      refine v_iload_n hC dX5_tryTogether_74 rfl ?_
      refine al_14 hC dX5_tryTogether_75 hO1 (by first | omega | exact hB _ _ _ _ rfl | exact hB.i _ _ _ _ rfl | assumption | exact b2n_31 _) ?_
      rw [show rpn σ1 (σ1 14 0 0 a) 14 0 0 a = σ1 14 0 0 a from rpn_k (by decide) (by decide) (by omega)]
      refine al_5 hC dX5_tryTogether_76 hO1 hi.1 ?_
      refine v_iconst (v := nI 1) hC dX5_tryTogether_77 (by decide) ?_
      refine pf_X5_184 hC dX5_tryTogether_78 hO1 hi.1 (by decide) ?_
      refine v_iconst (v := nI 0) hC dX5_tryTogether_81 (by decide) ?_
      refine v_iret hC hM dX5_tryTogether_82 (by omega) (by omega) ?_
      rw [trs_1 hr (by omega)]
      have hTf := TS_fl hT1 hq
      have e0 : (bt σ a (b - a)).headD 0 = σ1 14 0 0 a := by
        rw [show b - a = 1 by omega, h14]
        rfl
      rw [e0]
      refine ⟨nk, na, flS σ1 (σ1 14 0 0 a), rfl, rfl, hTf, ?_, ?_⟩
      · rw [← h14]
        funext i j x
        unfold flS
        rw [up_k (by decide)]
        exact rpn_k (by decide) (by decide) (by omega)
      · refine CT.wide (B := 4 + 0) (hCT.trans (t' := 0) ?_) (by omega)
        refine CT.rfl' (fun x => ?_)
        unfold flS
        rw [up_k (by decide)]
        exact rpn_k (by decide) (by decide) (by omega)
    · refine v_aload_n hC dX5_tryTogether_46 rfl ?_
      refine v_iload_n hC dX5_tryTogether_47 rfl ?_
      refine v_iload_n hC dX5_tryTogether_48 rfl ?_
      refine v_iload_n hC dX5_tryTogether_49 rfl ?_
      refine v_iconst (v := nI 1) hC dX5_tryTogether_50 (by decide) ?_
      refine v_iaddN hC dX5_tryTogether_51 ?_
      cases f with
      | zero => exact absurd hsz (by rw [Nat.pow_zero]; omega)
      | succ f =>
        have hd : 2 - (f + 1) + 1 = 2 - f := by omega
        rw [hd]
        refine v_callV hC lk_X5_303 dX5_tryTogether_52 (c_X5_tryHalves (c := a + (b - a) / 2) hl0 (ihH f rfl) (by omega) hO1 hT1 hb1 (by omega) hb4 hsz rfl (by have := hCT.2.2.1; have := hCT.2.1; omega) (by have := hCT.2.2.2.1; have := hCT.2.1; omega) (by have := hCT.2.2.2.2.1; have := hCT.2.2.2.2.2; omega)) (by omega) (by decide) hO1.k0 rfl rfl rfl rfl (Nat.le_of_ble_eq_true rfl) (by omega) (by omega) (fun v μ h => ?_) (fun _ _ h => h.elim)
        obtain ⟨nk2, na2, σ2, rfl, rfl, hT2, h142, hCT2⟩ := h
        dsimp only
        rw [bt_14 h14, bt_14 h14] at hT2 hCT2 ⊢
        rw [mixK_mixK, mixA_mixA] at hT2 ⊢
        refine v_iret hC hM dX5_tryTogether_55 (by omega) (by omega) ?_
        have hck : (b - a) / 2 ≤ b - a := Nat.div_le_self _ _
        rw [trs_h hr (by omega), hlen, bt_take σ a hck, bt_drop σ a hck]
        rw [show a + (b - a) / 2 - a = (b - a) / 2 by omega, show b - (a + (b - a) / 2) = b - a - (b - a) / 2 by omega] at *
        refine ⟨nk2, na2, σ2, rfl, rfl, hT2, h142.trans h14, ?_⟩
        have := (hCT.trans hCT2).wide (B' := 8 * (b - a) - 4) (by omega)
        rw [← Nat.add_assoc] at this
        exact this
  · refine v_iload_n hC dX5_tryTogether_9 rfl ?_
    refine v_istore hC dX5_tryTogether_10 (by decide) ?_
    have hr : (sbl σ0 ((bt σ a (b - a)).foldl (fun v c => layv σ0 c v) (aT A)) 4 (aK A)).1 = true := b2n_1 c_6
    have key : ∀ p, p ≤ b - a → V X G (0 + 8) (0 + 108) (mixK ok nk) (mixA ad na) (mgf σ1 a p) [(4, iv (a + p)), (0, .ref (ad 0 0 0)), (1, iv a), (2, iv b), (3, iv (2 - f))] 12 [] := by
      refine down (b - a) ?_ ?_
      · have hTm := TS_mgf hB0 hT1 hb1 (b - a) (Nat.le_refl _)
        refine v_iload hC dX5_tryTogether_12 rfl ?_
        refine v_iload_n hC dX5_tryTogether_14 rfl ?_
        refine v_icmp_geN (tgt := 35) hC dX5_tryTogether_15 (by decide) (by first | omega | exact hB _ _ _ _ rfl | exact hB.i _ _ _ _ rfl | assumption | exact b2n_31 _) (by first | omega | exact hB _ _ _ _ rfl | exact hB.i _ _ _ _ rfl | assumption | exact b2n_31 _) (fun c_15 => ?_) (fun c_15 => ?_)
        · refine v_iload_n hC dX5_tryTogether_35 rfl ?_
          refine v_iload_n hC dX5_tryTogether_36 rfl ?_
          refine v_isubN hC dX5_tryTogether_37 (by first | omega | exact hB _ _ _ _ rfl | exact hB.i _ _ _ _ rfl | assumption | exact b2n_31 _) ?_
          refine v_iret hC hM dX5_tryTogether_38 (by omega) (by omega) ?_
          rw [bt_14 h14] at hTm
          rw [trs_t hr]
          refine ⟨nk, na, mgf σ1 a (b - a), ?_, rfl, hTm, (mgf_14 σ1 a (b - a)).trans h14, ?_⟩
          · rw [hlen]
          · refine CT.wide (B := 4 + 0) (hCT.trans (t' := 0) ?_) (by omega)
            rw [show aK (List.foldl (mrgA σ0) _ _) = _ from fold_aK _ _]
            exact CT.rfl' (fun x => mgf_16 σ1 a (b - a) x)
        · exact absurd c_15 (by omega)
      · intro p hp ih 
        have hTm := TS_mgf hB0 hT1 hb1 p (by omega)
        have hq := mgf_mem hT1 hb1 hp
        have hi := TS_i hB0 hTm hq
        have hB := hTm.1
        refine v_iload hC dX5_tryTogether_12 rfl ?_
        refine v_iload_n hC dX5_tryTogether_14 rfl ?_
        refine v_icmp_geN (tgt := 35) hC dX5_tryTogether_15 (by decide) (by first | omega | exact hB _ _ _ _ rfl | exact hB.i _ _ _ _ rfl | assumption | exact b2n_31 _) (by first | omega | exact hB _ _ _ _ rfl | exact hB.i _ _ _ _ rfl | assumption | exact b2n_31 _) (fun c_15 => ?_) (fun c_15 => ?_)
        · exact absurd c_15 (by omega)
        · refine v_aload_n hC dX5_tryTogether_18 rfl ?_
          refine v_aload_n hC dX5_tryTogether_19 rfl ?_
          refine gf_X5_39 hC dX5_tryTogether_20 hO1 ?_
          refine v_iload hC dX5_tryTogether_23 rfl ?_
          refine al_14 hC dX5_tryTogether_25 hO1 (by first | omega | exact hB _ _ _ _ rfl | exact hB.i _ _ _ _ rfl | assumption | exact b2n_31 _) ?_
          rw [mgf_14]
          refine v_callV_v0 hC lk_X5_300 dX5_tryTogether_26 (c_X5_merge hl0 hO1 hB (n := σ1 14 0 0 (a + p)) hi.1 hi.2) (by omega) (by decide) hO1.k0 rfl rfl rfl rfl (Nat.le_of_ble_eq_true rfl) (by omega) (by omega) ?_
          refine v_iincN hC dX5_tryTogether_29 rfl (by decide) ?_
          refine v_goto (tgt := 12) hC dX5_tryTogether_32 (by decide) ?_
          exact v_sub rfl ih
    exact v_sub rfl (key 0 (Nat.zero_le _))

theorem c_X5_tries {l : Launch} (hl0 : l.stackTraces = false) {G : GT} {σ0 : SG} (hB0 : BD σ0) : ∀ f, f ≤ 2 → TrC l G σ0 f
  | 0, hf => c_X5_try hl0 hB0 hf (fun _ h => by cases h)
  | f + 1, hf => c_X5_try hl0 hB0 hf (fun f' h => by
    have e : f = f' := Nat.succ.inj h
    subst e
    exact @c_X5_tries l hl0 G σ0 hB0 f (by omega))
