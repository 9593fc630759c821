/-- the contract of a try in the model -/
def TrM (l : Launch) (G : GT) (s : SG) (f : Nat) : Prop := ∀ {ok : KF} {ad : AD} {τ : SG} {A : AS} {e : Nat} {L : Nat → Nat} {a b : Nat}, OKM ok → ¬ ok 62 0 0 → ok 57 0 0 → τ 57 0 0 = L → TM G ok ad s τ A e → BI s A (bt (lk L) a (b - a)) → a < b → b ≤ 4 → b - a ≤ 2 ^ f → (aK A).length + (8 * (b - a) - 4) ≤ 3072 → e ≤ 4700 → τ 30 0 0 5 + (8 * (b - a) - 4) ≤ 3994 → τ 30 0 0 6 + (8 * (b - a) - 4) ≤ 99994 → Ct l G (9 + f) yX6_tries cX6_tries 8 (some .int) [.ref (ad 30 0 0), .ref (ad 57 0 0), iv a, iv b] ok ad τ (TPM G ok ad s τ A e (trsA s (f + 1) (bt (lk L) a (b - a)) A) (8 * (b - a) - 4)) NX (26 * (b - a) - 13) (368 * (b - a) - 184 + 4 * (capN ((aK (trsA s (f + 1) (bt (lk L) a (b - a)) A).2.1).length - (aK A).length) (aK A).length e - e))

theorem or_1 {a : Nat} (h : a < 2) : a ||| 1 = 1 := by
  rcases (show a = 0 ∨ a = 1 by omega) with rfl | rfl <;> rfl
set_option maxHeartbeats 16000000 in
set_option maxRecDepth 100000 in
theorem c_X6_try {l : Launch} (hl0 : l.stackTraces = false) {G : GT} {s : SG} (hBs : BD s) {f : Nat} (hf : f ≤ 2) (ihH : ∀ f', f = f' + 1 → TrM l G s f') : TrM l G s f := by
  intro ok ad τ A e L a b hQ n62 hk57 hL hT hb hab hb4 hsz hK he h5 h6
  obtain ⟨hB, hS, hR, hArr, hKM, hA, hQm⟩ := id hT
  have hn17 : s 0 0 0 0 < 17 := hBs 0 0 0 0 rfl
  refine Ct.mk (by decide +kernel) hl0 (by first | exact Nat.le_of_ble_eq_true rfl | omega) (fun X hX hC hM => ?_)
  subst hX
  refine v_bipush (v := nI 64) hC dX6_tries_0 (by decide) ?_
  refine v_newa (atype := .int) (ty := .int) (N := 64) (a0 := (64, .inl fun x => nI ((fun _ => 0) x))) (σ1 := upr τ 62 0 0 (fun _ => 0)) 0 62 0 0 hC dX6_tries_2 rfl ar_I rfl rfl (by omega) (by decide) (by omega) (by omega) n62 (fun a k' i' j' _ s => enck_dyn (.inr (.inr (.inr (by decide)))) k' i' j' s) (fun _ _ _ h => upr_off _ _ h) (fun a => by rw [upr_row]; rfl) rfl (fun z => ?_)
  have hQ1 : OKM (okA ok 62 0 0) := fun k i j h => .inl (hQ k i j h)
  have hk62 : (okA ok 62 0 0) 62 0 0 := .inr ⟨rfl, rfl, rfl⟩
  have hk571 : (okA ok 62 0 0) 57 0 0 := .inl hk57
  rw [← cpv_0]
  refine v_stk (st' := [.ref ((adA ad 62 0 0 z) 62 0 0)]) (congrArg (fun z => [Value.ref z]) (adA_self _ _ _ _ _)) ?_
  refine v_astore hC dX6_tries_4 (by decide) ?_
  refine v_iconst (v := nI 0) hC dX6_tries_6 (by decide) ?_
  refine v_istore hC dX6_tries_7 (by decide) ?_
  have key : ∀ p, p ≤ 64 → V X G (0 + 1) (0 + 64) (okA ok 62 0 0) (adA ad 62 0 0 z) (cpv τ p) [(0, .ref (ad 30 0 0)), (1, .ref (ad 57 0 0)), (2, iv a), (3, iv b), (4, .ref ((adA ad 62 0 0 z) 62 0 0)), (5, iv p)] 9 [] := by
    refine down (64) ?_ ?_
    · have hBp := cpv_BD hB 64
      refine v_iload hC dX6_tries_9 rfl ?_
      refine v_bipush (v := nI 64) hC dX6_tries_11 (by decide) ?_
      refine v_icmp_geN (tgt := 34) hC dX6_tries_13 (by decide) (by first | omega | exact hB.i _ _ _ _ rfl | assumption | exact b2n_31 _ | decide) (by first | omega | exact hB.i _ _ _ _ rfl | assumption | exact b2n_31 _ | decide) (fun c_13 => ?_) (fun c_13 => ?_)
      · refine v_iload_n hC dX6_tries_34 rfl ?_
        refine v_istore hC dX6_tries_35 (by decide) ?_
        have key2 : ∀ n, n ≤ (b - a) → V X G (0 + 1) (0 + 64) (okA ok 62 0 0) (adA ad 62 0 0 z) (lyM τ L a n) [(0, .ref (ad 30 0 0)), (1, .ref (ad 57 0 0)), (2, iv a), (3, iv b), (4, .ref ((adA ad 62 0 0 z) 62 0 0)), (5, iv (a + n))] 37 [] := by
          refine down ((b - a)) ?_ ?_
          · have hBn := lyM_BD hB L a (b - a)
            refine v_iload hC dX6_tries_37 rfl ?_
            refine v_iload_n hC dX6_tries_39 rfl ?_
            refine v_icmp_geN (tgt := 59) hC dX6_tries_40 (by decide) (by first | omega | exact hB.i _ _ _ _ rfl | assumption | exact b2n_31 _ | decide) (by first | omega | exact hB.i _ _ _ _ rfl | assumption | exact b2n_31 _ | decide) (fun c_40 => ?_) (fun c_40 => ?_)
            · refine v_aload_n hC dX6_tries_59 rfl ?_
              refine v_aload hC dX6_tries_60 rfl ?_
              have hArr1 : Arr G (okA ok 62 0 0) (adA ad 62 0 0 z) (lyM τ L a (b - a)) (aK A) e := Arr.addk (fun i j x => lyM_off (fun q => absurd q.1 (by decide)) _) (fun i j x => lyM_off (fun q => absurd q.1 (by decide)) _) (fun i j x => lyM_off (fun q => absurd q.1 (by decide)) _) hArr
              have h305 : ∀ x, lyM τ L a (b - a) 30 0 0 x = τ 30 0 0 x := fun x => lyM_off (by decide) _
              have hKM1 : KM (okA ok 62 0 0) (lyM τ L a (b - a) 30 0 0 5) e := by rw [h305]; exact hKM.addk
              have hmb : msbl (lyM τ L a (b - a)) (lyM τ L a (b - a) 62 0 0) 4 (aK A) = sbl s ((bt (lk L) a (b - a)).foldl (fun v c => layv s c v) (aT A)) 4 (aK A) := by
                rw [(lyM_SM hS L a (b - a)).Msbl]
                refine sbl_v hBs (fun x hx => ?_) 4 _
                rw [lyM_v hS (b - a) (fun c hc => (hA.2.2.1 c (hb.2.1 c hc)).1) x hx]
                exact fold_v hR.2.2.2.2.2 _ x hx
              have hlen := trs_len (s := s) f (bt (lk L) a (b - a)) A
              have hsl := sbl_len s ((bt (lk L) a (b - a)).foldl (fun v c => layv s c v) (aT A)) 4 (aK A)
              have hcu := capN_up (e := e) hsl hlen rfl
              refine v_callV hC lk_X6_204 dX6_tries_62 (c_X6_isBuilt (ok := (okA ok 62 0 0)) (ad := (adA ad 62 0 0 z)) (σ := lyM τ L a (b - a)) hl0 hQ1 hBn hk62 hArr1 hKM1 (by omega) he (by rw [h305]; omega) (by rw [h305]; omega)) (by omega) (by decide) hQ1.k30 rfl rfl rfl rfl (Nat.le_of_ble_eq_true rfl) ?_ ?_ (fun v μ h => ?_) (fun _ _ h => h.elim)
              · omega
              · rw [hmb]
                omega
              rw [hmb] at h ⊢
              obtain ⟨rfl, nk, na, τ1, rfl, f1, f2, f3, f5, f6, f7, f8⟩ := h
              dsimp only
              rw [mxK_okA rfl, mxA_adA rfl]
              have n62b : ¬ mxK ok nk 62 0 0 := n62
              refine v_forget (σ := mxS τ τ1) n62b (.inr (.inr (.inr (by decide)))) (fun k i j q => mx_ly (by rintro ⟨rfl, rfl, rfl⟩; exact n62 q)) ?_
              have hr_t := @trs_t s f (bt (lk L) a (b - a)) A
              have hr_1 := @trs_1 s f (bt (lk L) a (b - a)) A
              have hr_h := @trs_h s f (bt (lk L) a (b - a)) A
              rw [bt_len] at hr_1 hr_h
              generalize hr : sbl s ((bt (lk L) a (b - a)).foldl (fun v c => layv s c v) (aT A)) 4 (aK A) = r at *
              rw [h305] at f6 f7
              have hT2 : TM G (mxK ok nk) (mxA ad na) s (mxS τ τ1) (setK A r.2.1) (capN (r.2.1.length - (aK A).length) (aK A).length e) := ⟨hB.mx f1, hS.mw (MW_mx τ τ1), RM_mx hR τ1 _, f2, f3.weak (fun k i j q => mxK_sub q), hA, hQm⟩
              have hCT : CTm τ (mxS τ τ1) (aK A) r.2.1 r.2.2 4 := ⟨f5.1, f5.2, f6, f7, f8⟩
              have hMW : MW τ (mxS τ τ1) := MW_mx τ τ1
              have hL2 : mxS τ τ1 57 0 0 = L := hL
              have hk572 : mxK ok nk 57 0 0 := hk57
              have hQ2 : OKM (mxK ok nk) := hQ.mx
              clear f1 f2 f3 f5 f6 f7 hQ1 hk62 hk571 hArr1 hKM1 h305 hmb
              generalize mxS τ τ1 = τ2 at *
              obtain ⟨e1, he1⟩ : ∃ e1, e1 = capN (r.2.1.length - (aK A).length) (aK A).length e := ⟨_, rfl⟩
              rw [← he1] at hT2 hcu ⊢
              obtain ⟨hB2, hS2, hR2, hArr2, hKM2, hA2, hQm2⟩ := id hT2
              have hLi : ∀ k, k < b - a → L (a + k) ∈ aQ A ∧ L (a + k) < s 0 0 0 0 := fun k hk => by
                have h1 := hb.2.1 _ (bt_mem (σ := lk L) (a := a) (n := b - a) (k := k) hk)
                exact ⟨h1, (hA.2.2.1 _ h1).1⟩
              have hLa := hLi 0 (by omega)
              rw [Nat.add_zero] at hLa
              refine v_istore hC dX6_tries_65 (by decide) ?_
              refine v_iload_n hC dX6_tries_67 rfl ?_
              refine v_iload_n hC dX6_tries_68 rfl ?_
              refine v_isubN hC dX6_tries_69 (by first | omega | exact hB2.i _ _ _ _ rfl | assumption | exact b2n_31 _ | decide) ?_
              refine v_iconst (v := nI 1) hC dX6_tries_70 (by decide) ?_
              refine v_icmp_neN (tgt := 95) hC dX6_tries_71 (by decide) (by first | omega | exact hB2.i _ _ _ _ rfl | assumption | exact b2n_31 _ | decide) (by first | omega | exact hB2.i _ _ _ _ rfl | assumption | exact b2n_31 _ | decide) (fun c_71 => ?_) (fun c_71 => ?_)
              · refine v_iload hC dX6_tries_95 rfl ?_
                refine v_if_eqN (tgt := 127) hC dX6_tries_97 (by decide) (b2n_31 _) (fun c_97 => ?_) (fun c_97 => ?_)
                · have hg : ¬ r.1 = true := by rw [b2n_0 c_97]; decide
                  refine v_iload_n hC dX6_tries_127 rfl ?_
                  refine v_iload_n hC dX6_tries_128 rfl ?_
                  refine v_isubN hC dX6_tries_129 (by first | omega | exact hB2.i _ _ _ _ rfl | assumption | exact b2n_31 _ | decide) ?_
                  refine v_iconst (v := nI 1) hC dX6_tries_130 (by decide) ?_
                  refine v_icmp_neN (tgt := 153) hC dX6_tries_131 (by decide) (by omega) (by omega) (fun _ => ?_) (fun z => absurd z c_71)
                  refine v_iload_n hC dX6_tries_153 rfl ?_
                  refine v_iload_n hC dX6_tries_154 rfl ?_
                  refine v_iload_n hC dX6_tries_155 rfl ?_
                  refine v_isubN hC dX6_tries_156 (by first | omega | exact hB2.i _ _ _ _ rfl | assumption | exact b2n_31 _ | decide) ?_
                  refine v_iconst (v := nI 2) hC dX6_tries_157 (by decide) ?_
                  refine v_idivN hC dX6_tries_158 (by first | omega | exact hB2.i _ _ _ _ rfl | assumption | exact b2n_31 _ | decide) (by decide) (by decide) ?_
                  refine v_iaddN hC dX6_tries_159 ?_
                  have ht := hr_h hg (by omega)
                  obtain ⟨f', rfl⟩ : ∃ f', f = f' + 1 := ⟨f - 1, by
                    have : f ≠ 0 := fun q => by rw [q] at hsz; omega
                    omega⟩
                  have ih : TrM (xl X) G s f' := @ihH f' rfl
                  obtain ⟨c, hc⟩ : ∃ c, c = a + (b - a) / 2 := ⟨_, rfl⟩
                  have hp2 : 2 ^ (f' + 1) = 2 * 2 ^ f' := by rw [Nat.pow_succ]; omega
                  have hp1 : 1 ≤ 2 ^ f' := Nat.one_le_two_pow
                  have hsplit : bt (lk L) a (b - a) = bt (lk L) a (c - a) ++ bt (lk L) c (b - c) := by
                    have := bt_app (lk L) a (c - a) (b - c)
                    rw [show c - a + (b - c) = b - a by omega, show a + (c - a) = c by omega] at this
                    exact this
                  have hb1 : BI s (setK A r.2.1) (bt (lk L) a (c - a)) := BI.sub (b := bt (lk L) a (b - a)) hb (by rw [hsplit]; exact List.sublist_append_left _ _)
                  rw [show (b - a) / 2 = c - a by omega, bt_take (lk L) a (by omega), bt_drop (lk L) a (by omega), show a + (c - a) = c by omega, show b - a - (c - a) = b - c by omega] at ht
                  rw [ht] at hlen
                  have hK3 : (aK (setK A r.2.1)).length = r.2.1.length := rfl
                  have hct0 : capN ((aK (trsA s (f' + 1 + 1) (bt (lk L) a (b - a)) A).2.1).length - (aK A).length) (aK A).length e = capN ((aK (trsA s (f' + 1) (bt (lk L) c (b - c)) (trsA s (f' + 1) (bt (lk L) a (c - a)) (setK A r.2.1)).2.1).2.1).length - (aK A).length) (aK A).length e := by rw [ht]
                  have he14 : e1 ≤ 4700 := by rw [he1]; exact capN_max _ _ _ he (by have := hCT.2.1; omega)
                  obtain ⟨d1, d2, d3, d4, d5⟩ := id hCT
                  rw [← hc]
                  refine v_istore hC dX6_tries_160 (by decide) ?_
                  refine v_aload_n hC dX6_tries_162 rfl ?_
                  refine v_aload_n hC dX6_tries_163 rfl ?_
                  refine v_iload_n hC dX6_tries_164 rfl ?_
                  refine v_iload hC dX6_tries_165 rfl ?_
                  have hm1 := trs_mono (s := s) (f' + 1) (bt (lk L) a (c - a)) (setK A r.2.1)
                  have hm2 := trs_mono (s := s) (f' + 1) (bt (lk L) c (b - c)) (trsA s (f' + 1) (bt (lk L) a (c - a)) (setK A r.2.1)).2.1
                  have hcu1 := capN_up (e := e1) (K0 := r.2.1.length) (K1 := (aK (trsA s (f' + 1) (bt (lk L) a (c - a)) (setK A r.2.1)).2.1).length) hm1 hm2 rfl
                  have hct1 := capN_tr (e := e) (a := (aK A).length) (b := r.2.1.length) (c := (aK (trsA s (f' + 1) (bt (lk L) c (b - c)) (trsA s (f' + 1) (bt (lk L) a (c - a)) (setK A r.2.1)).2.1).2.1).length) d1 (Nat.le_trans hm1 hm2)
                  rw [← he1] at hct1
                  have hee1 : e ≤ e1 := by rw [he1]; exact capN_le _ _ _
                  refine v_callV hC lk_X6_210 dX6_tries_167 (ih (ok := mxK ok nk) (ad := mxA ad na) (L := L) (a := a) (b := c) hQ2 n62b hk572 hL2 hT2 hb1 (by omega) (by omega) (by omega) (by show r.2.1.length + _ ≤ _; omega) he14 (by omega) (by omega)) (by omega) (by decide) hQ2.k30 rfl rfl rfl rfl (Nat.le_of_ble_eq_true rfl) (by omega) (by rw [hK3]; omega) (fun v μ h => ?_) (fun _ _ h => h.elim)
                  obtain ⟨nk2, na2, τ3, rfl, rfl, hT3, hF3, hCT3⟩ := h
                  dsimp only
                  have hI := trs_inv (f' + 1) hA2 hb1 (fun q => by
                    have := congrArg List.length q
                    rw [bt_len, List.length_nil] at this
                    omega)
                  generalize hr1 : trsA s (f' + 1) (bt (lk L) a (c - a)) (setK A r.2.1) = r1 at *
                  have hdis : ∀ x ∈ bt (lk L) c (b - c), x ∉ bt (lk L) a (c - a) := fun x hx hx2 => by
                    have h3 := hb.1
                    rw [hsplit, List.nodup_append] at h3
                    exact h3.2.2 x hx2 x hx rfl
                  have hsr : (bt (lk L) c (b - c)).Sublist (bt (lk L) a (b - a)) := by rw [hsplit]; exact List.sublist_append_right _ _
                  have hsl2 : (bt (lk L) a (c - a)).Sublist (bt (lk L) a (b - a)) := by rw [hsplit]; exact List.sublist_append_left _ _
                  have hb2 : BI s r1.2.1 (bt (lk L) c (b - c)) :=
                    ⟨hsr.nodup hb.1, fun x hx => hI.2 x (hb.2.1 x (hsr.subset hx)) (hdis x hx) (fun y hy => hb.2.2 x (hsr.subset hx) y (hsl2.subset hy) (fun q => hdis x hx (by rw [q]; exact hy))), fun x hx y hy => hb.2.2 x (hsr.subset hx) y (hsr.subset hy)⟩
                  obtain ⟨g1, g2, g3, g4, g5⟩ := id hCT3
                  rw [hK3] at hT3 g1 g2 g3 ⊢
                  have hL3 : τ3 57 0 0 = L := by
                    rw [← hL2]
                    funext x
                    exact hF3 57 0 0 x rfl
                  rw [mxK_mxK, mxA_mxA] at hT3 ⊢
                  have hQ3 : OKM (mxK ok nk2) := hQ.mx
                  refine v_istore hC dX6_tries_170 (by decide) ?_
                  refine v_iload hC dX6_tries_172 rfl ?_
                  refine v_aload_n hC dX6_tries_174 rfl ?_
                  refine v_aload_n hC dX6_tries_175 rfl ?_
                  refine v_iload hC dX6_tries_176 rfl ?_
                  refine v_iload_n hC dX6_tries_178 rfl ?_
                  obtain ⟨e2, he2⟩ : ∃ e2, e2 = capN ((aK r1.2.1).length - r.2.1.length) r.2.1.length e1 := ⟨_, rfl⟩
                  rw [← he2] at hT3 hcu1 ⊢
                  have he24 : e2 ≤ 4700 := by rw [he2]; exact capN_max _ _ _ he14 (by omega)
                  have hee2 : e1 ≤ e2 := by rw [he2]; exact capN_le _ _ _
                  have hct2 := capN_tr (e := e1) (a := r.2.1.length) (b := (aK r1.2.1).length) (c := (aK (trsA s (f' + 1) (bt (lk L) c (b - c)) r1.2.1).2.1).length) g1 hm2
                  rw [← he2, hct1] at hct2
                  refine v_callV hC lk_X6_210 dX6_tries_179 (ih (ok := mxK ok nk2) (ad := mxA ad na2) (L := L) (a := c) (b := b) (A := r1.2.1) hQ3 n62b hk57 hL3 hT3 hb2 (by omega) (by omega) (by omega) (by omega) he24 (by omega) (by omega)) (by omega) (by decide) hQ3.k30 rfl rfl rfl rfl (Nat.le_of_ble_eq_true rfl) (by omega) (by omega) (fun v μ h => ?_) (fun _ _ h => h.elim)
                  obtain ⟨nk4, na4, τ4, rfl, rfl, hT4, hF4, hCT4⟩ := h
                  dsimp only
                  rw [mxK_mxK, mxA_mxA, hct2] at hT4
                  rw [mxK_mxK, mxA_mxA]
                  refine v_iaddN hC dX6_tries_182 ?_
                  refine v_iret hC hM dX6_tries_183 (by omega) (by omega) ?_
                  rw [ht]
                  exact ⟨nk4, na4, τ4, rfl, rfl, hT4, (hMW.trans hF3).trans hF4, ((hCT.trans hCT3).trans hCT4).wide (by omega)⟩
                · have hg : r.1 = true := b2n_1 c_97
                  refine v_iload_n hC dX6_tries_100 rfl ?_
                  refine v_istore hC dX6_tries_101 (by decide) ?_
                  have key3 : ∀ n, n ≤ (b - a) → ∀ τ3, TM G (mxK ok nk) (mxA ad na) s τ3 ((bt (lk L) a n).foldl (mrgA s) (setK A r.2.1)) e1 → MF τ2 τ3 → V X G (0 + 1 + 12) (0 + 64 + (120 + 4 * (e1 - e))) (mxK ok nk) (mxA ad na) τ3 [(0, .ref (ad 30 0 0)), (1, .ref (ad 57 0 0)), (2, iv a), (3, iv b), (6, iv (a + n))] 103 [] := by
                    refine down ((b - a)) ?_ ?_
                    · intro τ3 hT3 hF3
                      refine v_iload hC dX6_tries_103 rfl ?_
                      refine v_iload_n hC dX6_tries_105 rfl ?_
                      refine v_icmp_geN (tgt := 123) hC dX6_tries_106 (by decide) (by first | omega | exact hB2.i _ _ _ _ rfl | assumption | exact b2n_31 _ | decide) (by first | omega | exact hB2.i _ _ _ _ rfl | assumption | exact b2n_31 _ | decide) (fun c_106 => ?_) (fun c_106 => ?_)
                      · refine v_iload_n hC dX6_tries_123 rfl ?_
                        refine v_iload_n hC dX6_tries_124 rfl ?_
                        refine v_isubN hC dX6_tries_125 (by first | omega | exact hB2.i _ _ _ _ rfl | assumption | exact b2n_31 _ | decide) ?_
                        refine v_iret hC hM dX6_tries_126 (by omega) (by omega) ?_
                        have ht := hr_t hg
                        rw [ht] at *
                        have hk2 : aK ((bt (lk L) a (b - a)).foldl (mrgA s) (setK A r.2.1)) = r.2.1 := fold_aK _ _
                        refine ⟨nk, na, τ3, by rw [bt_len], rfl, ?_, hMW.trans hF3.mw, ?_⟩
                        · show TM _ _ _ _ _ _ (capN ((aK ((bt (lk L) a (b - a)).foldl (mrgA s) (setK A r.2.1))).length - _) _ _)
                          rw [hk2, ← he1]
                          exact hT3
                        · show CTm _ _ _ (aK ((bt (lk L) a (b - a)).foldl (mrgA s) (setK A r.2.1))) _ _
                          rw [hk2]
                          exact (hCT.trans (CTm.same (hF3 30 0 0 5 rfl) (hF3 30 0 0 6 rfl))).wide (by omega)
                      · exact absurd c_106 (by omega)
                    · intro n hn ih τ3 hT3 hF3
                      have hmem : L (a + n) ∈ aQ ((bt (lk L) a n).foldl (mrgA s) (setK A r.2.1)) := fold_mem (l2 := bt (lk L) (a + (n + 1)) (b - a - (n + 1))) hA2 (by
                        have h1 : BI s (setK A r.2.1) (bt (lk L) a (b - a)) := hb
                        rw [show b - a = (n + 1) + (b - a - (n + 1)) by omega, bt_app, bt_s, List.append_assoc] at h1
                        exact h1)
                      refine v_iload hC dX6_tries_103 rfl ?_
                      refine v_iload_n hC dX6_tries_105 rfl ?_
                      refine v_icmp_geN (tgt := 123) hC dX6_tries_106 (by decide) (by first | omega | exact hB2.i _ _ _ _ rfl | assumption | exact b2n_31 _ | decide) (by first | omega | exact hB2.i _ _ _ _ rfl | assumption | exact b2n_31 _ | decide) (fun c_106 => ?_) (fun c_106 => ?_)
                      · exact absurd c_106 (by omega)
                      · refine v_aload_n hC dX6_tries_109 rfl ?_
                        refine v_aload_n hC dX6_tries_110 rfl ?_
                        refine v_iload hC dX6_tries_111 rfl ?_
                        refine al_57 (ad := mxA ad na) hC dX6_tries_113 hk572 (by omega) ?_
                        rw [show τ3 57 0 0 (a + n) = L (a + n) by rw [hF3 57 0 0 _ rfl, hL2]]
                        refine v_callV hC lk_X6_207 dX6_tries_114 (c_X6_merges (ad := mxA ad na) hl0 hQ2 hBs hT3 hmem) (by omega) (by decide) hQ2.k30 rfl rfl rfl rfl (Nat.le_of_ble_eq_true rfl) (by omega) (by omega) (fun v μ h => ?_) (fun _ _ h => h.elim)
                        obtain ⟨rfl, τ4, rfl, hT4, hF4⟩ := h
                        dsimp only
                        refine v_iincN hC dX6_tries_117 rfl (by decide) ?_
                        refine v_goto (tgt := 103) hC dX6_tries_120 (by decide) ?_
                        rw [show a + (n + 1) = a + n + 1 by omega, bt_s, List.foldl_append] at ih
                        exact v_sub rfl (ih τ4 hT4 (hF3.trans hF4))
                  exact v_sub rfl (key3 0 (Nat.zero_le _) τ2 hT2 (MF.refl _))
              · refine v_aload_n hC dX6_tries_74 rfl ?_
                refine gf_X6_79 hC dX6_tries_75 hQ2 ?_
                refine v_aload_n hC dX6_tries_78 rfl ?_
                refine v_iload_n hC dX6_tries_79 rfl ?_
                refine al_57 (ad := mxA ad na) hC dX6_tries_80 hk572 (by omega) ?_
                rw [show τ2 57 0 0 a = L a from congrFun hL2 a]
                refine v_dup2 hC dX6_tries_81 rfl rfl ?_
                refine al_53 hC dX6_tries_82 hQ2 (by first | omega | exact hB2.i _ _ _ _ rfl | assumption | exact b2n_31 _ | decide) ?_
                refine v_iload hC dX6_tries_83 rfl ?_
                refine v_if_neN (tgt := 92) hC dX6_tries_85 (by decide) (by first | omega | exact hB2.i _ _ _ _ rfl | assumption | exact b2n_31 _ | decide) (fun c_85 => ?_) (fun c_85 => ?_)
                · refine v_iconst (v := nI 0) hC dX6_tries_92 (by decide) ?_
                  refine v_ior hC dX6_tries_93 ?_
                  rw [nI_or0 (hB2 53 0 0 (L a) rfl)]
                  refine as_53 (ad := mxA ad na) hC dX6_tries_94 hQ2 (by omega) (or_lt2 (hB2 53 0 0 (L a) rfl) (by decide)) ?_
                  rw [show τ2 53 0 0 (L a) ||| 0 = τ2 53 0 0 (L a) from Nat.or_zero _, up_id]
                  refine v_iload hC dX6_tries_95 rfl ?_
                  refine v_if_eqN (tgt := 127) hC dX6_tries_97 (by decide) (b2n_31 _) (fun z => absurd z c_85) (fun _ => ?_)
                  have hg : r.1 = true := b2n_1 c_85
                  refine v_iload_n hC dX6_tries_100 rfl ?_
                  refine v_istore hC dX6_tries_101 (by decide) ?_
                  have key3 : ∀ n, n ≤ (b - a) → ∀ τ3, TM G (mxK ok nk) (mxA ad na) s τ3 ((bt (lk L) a n).foldl (mrgA s) (setK A r.2.1)) e1 → MF τ2 τ3 → V X G (0 + 1 + 12) (0 + 64 + (120 + 4 * (e1 - e))) (mxK ok nk) (mxA ad na) τ3 [(0, .ref (ad 30 0 0)), (1, .ref (ad 57 0 0)), (2, iv a), (3, iv b), (6, iv (a + n))] 103 [] := by
                    refine down ((b - a)) ?_ ?_
                    · intro τ3 hT3 hF3
                      refine v_iload hC dX6_tries_103 rfl ?_
                      refine v_iload_n hC dX6_tries_105 rfl ?_
                      refine v_icmp_geN (tgt := 123) hC dX6_tries_106 (by decide) (by first | omega | exact hB2.i _ _ _ _ rfl | assumption | exact b2n_31 _ | decide) (by first | omega | exact hB2.i _ _ _ _ rfl | assumption | exact b2n_31 _ | decide) (fun c_106 => ?_) (fun c_106 => ?_)
                      · refine v_iload_n hC dX6_tries_123 rfl ?_
                        refine v_iload_n hC dX6_tries_124 rfl ?_
                        refine v_isubN hC dX6_tries_125 (by first | omega | exact hB2.i _ _ _ _ rfl | assumption | exact b2n_31 _ | decide) ?_
                        refine v_iret hC hM dX6_tries_126 (by omega) (by omega) ?_
                        have ht := hr_t hg
                        rw [ht] at *
                        have hk2 : aK ((bt (lk L) a (b - a)).foldl (mrgA s) (setK A r.2.1)) = r.2.1 := fold_aK _ _
                        refine ⟨nk, na, τ3, by rw [bt_len], rfl, ?_, hMW.trans hF3.mw, ?_⟩
                        · show TM _ _ _ _ _ _ (capN ((aK ((bt (lk L) a (b - a)).foldl (mrgA s) (setK A r.2.1))).length - _) _ _)
                          rw [hk2, ← he1]
                          exact hT3
                        · show CTm _ _ _ (aK ((bt (lk L) a (b - a)).foldl (mrgA s) (setK A r.2.1))) _ _
                          rw [hk2]
                          exact (hCT.trans (CTm.same (hF3 30 0 0 5 rfl) (hF3 30 0 0 6 rfl))).wide (by omega)
                      · exact absurd c_106 (by omega)
                    · intro n hn ih τ3 hT3 hF3
                      have hmem : L (a + n) ∈ aQ ((bt (lk L) a n).foldl (mrgA s) (setK A r.2.1)) := fold_mem (l2 := bt (lk L) (a + (n + 1)) (b - a - (n + 1))) hA2 (by
                        have h1 : BI s (setK A r.2.1) (bt (lk L) a (b - a)) := hb
                        rw [show b - a = (n + 1) + (b - a - (n + 1)) by omega, bt_app, bt_s, List.append_assoc] at h1
                        exact h1)
                      refine v_iload hC dX6_tries_103 rfl ?_
                      refine v_iload_n hC dX6_tries_105 rfl ?_
                      refine v_icmp_geN (tgt := 123) hC dX6_tries_106 (by decide) (by first | omega | exact hB2.i _ _ _ _ rfl | assumption | exact b2n_31 _ | decide) (by first | omega | exact hB2.i _ _ _ _ rfl | assumption | exact b2n_31 _ | decide) (fun c_106 => ?_) (fun c_106 => ?_)
                      · exact absurd c_106 (by omega)
                      · refine v_aload_n hC dX6_tries_109 rfl ?_
                        refine v_aload_n hC dX6_tries_110 rfl ?_
                        refine v_iload hC dX6_tries_111 rfl ?_
                        refine al_57 (ad := mxA ad na) hC dX6_tries_113 hk572 (by omega) ?_
                        rw [show τ3 57 0 0 (a + n) = L (a + n) by rw [hF3 57 0 0 _ rfl, hL2]]
                        refine v_callV hC lk_X6_207 dX6_tries_114 (c_X6_merges (ad := mxA ad na) hl0 hQ2 hBs hT3 hmem) (by omega) (by decide) hQ2.k30 rfl rfl rfl rfl (Nat.le_of_ble_eq_true rfl) (by omega) (by omega) (fun v μ h => ?_) (fun _ _ h => h.elim)
                        obtain ⟨rfl, τ4, rfl, hT4, hF4⟩ := h
                        dsimp only
                        refine v_iincN hC dX6_tries_117 rfl (by decide) ?_
                        refine v_goto (tgt := 103) hC dX6_tries_120 (by decide) ?_
                        rw [show a + (n + 1) = a + n + 1 by omega, bt_s, List.foldl_append] at ih
                        exact v_sub rfl (ih τ4 hT4 (hF3.trans hF4))
                  exact v_sub rfl (key3 0 (Nat.zero_le _) τ2 hT2 (MF.refl _))
                · refine v_iconst (v := nI 1) hC dX6_tries_88 (by decide) ?_
                  refine v_goto (tgt := 93) hC dX6_tries_89 (by decide) ?_
                  refine v_ior hC dX6_tries_93 ?_
                  rw [nI_or1 (hB2 53 0 0 (L a) rfl)]
                  refine as_53 (ad := mxA ad na) hC dX6_tries_94 hQ2 (by omega) (or_lt2 (hB2 53 0 0 (L a) rfl) (by decide)) ?_
                  rw [show τ2 53 0 0 (L a) ||| 1 = 1 from or_1 (hB2 53 0 0 (L a) rfl)]
                  refine v_iload hC dX6_tries_95 rfl ?_
                  refine v_if_eqN (tgt := 127) hC dX6_tries_97 (by decide) (b2n_31 _) (fun _ => ?_) (fun z => absurd c_85 z)
                  have hg : ¬ r.1 = true := by rw [b2n_0 c_85]; decide
                  refine v_iload_n hC dX6_tries_127 rfl ?_
                  refine v_iload_n hC dX6_tries_128 rfl ?_
                  refine v_isubN hC dX6_tries_129 (by first | omega | exact hB2.i _ _ _ _ rfl | assumption | exact b2n_31 _ | decide) ?_
                  refine v_iconst (v := nI 1) hC dX6_tries_130 (by decide) ?_
                  refine v_icmp_neN (tgt := 153) hC dX6_tries_131 (by decide) (by omega) (by omega) (fun z => absurd c_71 z) (fun _ => ?_)
                  refine v_aload_n hC dX6_tries_134 rfl ?_
                  refine v_aload_n hC dX6_tries_135 rfl ?_
                  refine v_iload_n hC dX6_tries_136 rfl ?_
                  refine al_57 (ad := mxA ad na) hC dX6_tries_137 hk572 (by omega) ?_
                  rw [show up τ2 53 0 0 (L a) 1 57 0 0 a = L a from congrFun hL2 a]
                  obtain ⟨k0, a1, a2, a3⟩ := lsM_at (show L a ∈ lsM τ2 0 by rw [hR2.2.2.2.1]; exact hLa.1)
                  have hTf := TM_fl hT2 hLa.1 a1 a2 a3
                  refine v_callV_v0 hC lk_X6_146 dX6_tries_138 (c_X6_leaves (ad := mxA ad na) (σ := up τ2 53 0 0 (L a) 1) hl0 hQ2 (BD.put hB2 (by show 1 < 2; decide)) (by omega) a1 a2 a3) (by omega) (by decide) hQ2.k30 rfl rfl rfl rfl (Nat.le_of_ble_eq_true rfl) (by omega) (by omega) ?_
                  rw [show up τ2 53 0 0 (L a) 1 30 0 0 3 = τ2 30 0 0 3 from rfl]
                  refine v_aload_n hC dX6_tries_141 rfl ?_
                  refine gf_X6_75 hC dX6_tries_142 hQ2 ?_
                  refine v_aload_n hC dX6_tries_145 rfl ?_
                  refine v_iload_n hC dX6_tries_146 rfl ?_
                  refine al_57 (ad := mxA ad na) hC dX6_tries_147 hk572 (by omega) ?_
                  rw [show lvs (up τ2 53 0 0 (L a) 1) k0 (τ2 30 0 0 3 - 1) 57 0 0 a = L a from congrFun hL2 a]
                  refine v_bipush (v := nI 111) hC dX6_tries_148 (by decide) ?_
                  refine as_52 hC dX6_tries_150 hQ2 (by first | omega | exact hB2.i _ _ _ _ rfl | assumption | exact b2n_31 _ | decide) (by first | omega | exact hB2.i _ _ _ _ rfl | assumption | exact b2n_31 _ | decide) ?_
                  refine v_iconst (v := nI 0) hC dX6_tries_151 (by decide) ?_
                  refine v_iret hC hM dX6_tries_152 (by omega) (by omega) ?_
                  have ht := hr_1 hg (by omega)
                  rw [ht] at *
                  have hbt : (bt (lk L) a (b - a)).headD 0 = L a := by rw [show b - a = 1 from c_71]; rfl
                  rw [hbt]
                  refine ⟨nk, na, _, rfl, rfl, ?_, hMW.trans hTf.2.mw, ?_⟩
                  · show TM _ _ _ _ _ _ (capN (r.2.1.length - _) _ _)
                    rw [← he1]
                    exact hTf.1
                  · exact (hCT.trans (CTm.same (hTf.2 30 0 0 5 rfl) (hTf.2 30 0 0 6 rfl))).wide (by omega)
            · exact absurd c_40 (by omega)
          · intro n hn ih 
            have hBn := lyM_BD hB L a n
            have hcn : L (a + n) < s 0 0 0 0 := (hA.2.2.1 _ (hb.2.1 _ (bt_mem (σ := lk L) (a := a) (n := b - a) (k := n) hn))).1
            refine v_iload hC dX6_tries_37 rfl ?_
            refine v_iload_n hC dX6_tries_39 rfl ?_
            refine v_icmp_geN (tgt := 59) hC dX6_tries_40 (by decide) (by first | omega | exact hB.i _ _ _ _ rfl | assumption | exact b2n_31 _ | decide) (by first | omega | exact hB.i _ _ _ _ rfl | assumption | exact b2n_31 _ | decide) (fun c_40 => ?_) (fun c_40 => ?_)
            · exact absurd c_40 (by omega)
            · refine v_aload_n hC dX6_tries_43 rfl ?_
              refine v_aload_n hC dX6_tries_44 rfl ?_
              refine v_iload hC dX6_tries_45 rfl ?_
              refine al_57 (ad := (adA ad 62 0 0 z)) hC dX6_tries_47 hk571 (by omega) ?_
              rw [show lyM τ L a n 57 0 0 (a + n) = L (a + n) by rw [lyM_off (by decide), hL]]
              refine v_aload hC dX6_tries_48 rfl ?_
              refine v_callV_v0 hC lk_X6_194 dX6_tries_50 (c_X6_lays_62 (ok := (okA ok 62 0 0)) (ad := (adA ad 62 0 0 z)) (i := 0) hl0 hQ1 hBn (by omega) hk62) (by omega) (by decide) hQ1.k30 rfl rfl rfl rfl (Nat.le_of_ble_eq_true rfl) (by omega) (by omega) ?_
              refine v_iincN hC dX6_tries_53 rfl (by decide) ?_
              refine v_goto (tgt := 37) hC dX6_tries_56 (by decide) ?_
              rw [show a + (n + 1) = a + n + 1 by omega] at ih
              exact v_sub rfl ih
        exact v_sub rfl (key2 0 (Nat.zero_le _))
      · exact absurd c_13 (by omega)
    · intro p hp ih 
      have hBp := cpv_BD hB p
      refine v_iload hC dX6_tries_9 rfl ?_
      refine v_bipush (v := nI 64) hC dX6_tries_11 (by decide) ?_
      refine v_icmp_geN (tgt := 34) hC dX6_tries_13 (by decide) (by first | omega | exact hB.i _ _ _ _ rfl | assumption | exact b2n_31 _ | decide) (by first | omega | exact hB.i _ _ _ _ rfl | assumption | exact b2n_31 _ | decide) (fun c_13 => ?_) (fun c_13 => ?_)
      · exact absurd c_13 (by omega)
      · refine v_aload hC dX6_tries_16 rfl ?_
        refine v_iload hC dX6_tries_18 rfl ?_
        refine v_aload_n hC dX6_tries_20 rfl ?_
        refine gf_X6_17 hC dX6_tries_21 hQ1 ?_
        refine v_iload hC dX6_tries_24 rfl ?_
        refine al_31 (ad := (adA ad 62 0 0 z)) hC dX6_tries_26 hQ1 (by omega) ?_
        rw [show cpv τ p 31 0 0 p = τ 31 0 0 p from rfl]
        refine as_62 (ad := (adA ad 62 0 0 z)) hC dX6_tries_27 hk62 hp ?_
        rw [cpv_s]
        refine v_iincN hC dX6_tries_28 rfl (by decide) ?_
        refine v_goto (tgt := 9) hC dX6_tries_31 (by decide) ?_
        exact v_sub rfl ih
  exact v_sub rfl (key 0 (Nat.zero_le _))
