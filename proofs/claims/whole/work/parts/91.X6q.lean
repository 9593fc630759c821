theorem sm_km {k x : Nat} (h : smB k x = true) : kM k x = false ∧ k ≠ 62 := by
  simp only [smB, Bool.or_eq_true, Bool.and_eq_true, beq_iff_eq] at h
  rcases h with ((((rfl | rfl) | rfl) | rfl) | rfl) | ⟨rfl, rfl | rfl⟩ <;> exact ⟨rfl, by decide⟩
theorem mf_km {k x : Nat} (h : mfB k x = true) : kM k x = false ∧ k ≠ 62 := by
  simp only [mfB, Bool.or_eq_true, Bool.and_eq_true, beq_iff_eq] at h
  rcases h with (((((rfl | rfl) | rfl) | rfl) | rfl) | rfl) | ⟨rfl, rfl | rfl⟩ <;> exact ⟨rfl, by decide⟩
set_option maxHeartbeats 16000000 in
set_option maxRecDepth 100000 in
theorem c_X6_revert {l : Launch} (hl0 : l.stackTraces = false) {G : GT} {ok : KF} {ad : AD} {s τ : SG} {A : AS} {e : Nat} (hQ : OKM ok) (hBs : BD s) (hT : TM G ok ad s τ A e) (n58 : ¬ ok 58 0 0) (n62 : ¬ ok 62 0 0) (he : e ≤ 4700) (h1 : (aK A).length + 4 ≤ 3072) (h2 : τ 30 0 0 5 + 4 ≤ 3994) (h3 : τ 30 0 0 6 + 4 ≤ 99994) (x : Int32) :
    Ct l G 9 yX6_revert cX6_revert 7 (some .int) [.ref (ad 30 0 0), .int x] ok ad τ (MRes G ok ad s τ A e (ro_revert s A x) 4) NX 14 (200 + 4 * (capN ((aK (ro_revert s A x).2.1).length - (aK A).length) (aK A).length e - e)) := by
  refine Ct.mk (by decide +kernel) hl0 (by first | exact Nat.le_of_ble_eq_true rfl | omega) (fun X hX hC hM => ?_)
  subst hX
  refine v_aload_n hC dX6_revert_0 rfl ?_
  refine v_iload_n hC dX6_revert_1 rfl ?_
  refine v_bipush (v := nI 109) hC dX6_revert_2 (by decide) ?_
  refine v_callV hC lk_X6_116 dX6_revert_4 (c_X6_isUnlike hl0 hQ hT.1 (x := x) (s := 109) (by decide)) (by decide) (by decide) hQ.k30 rfl rfl rfl rfl (Nat.le_of_ble_eq_true rfl) (by omega) (by omega) (fun v μ h => ?_) (fun _ _ h => h.elim)
  have hs2 : th τ 0 30 0 0 2 = s 0 0 0 0 := hT.2.1.1
  rcases h with ⟨h_c, rfl, rfl⟩ | ⟨c, h_c, rfl, b2_c, b_c, ⟨h_st, rfl, rfl⟩ | ⟨h_st, rfl, rfl⟩⟩
  · dsimp only
    refine v_if_eqN (tgt := 12) hC dX6_revert_7 (by decide) (by decide) (fun q => absurd q (by decide)) (fun _ => ?_)
    refine v_iconst (v := nI 0) hC dX6_revert_10 (by decide) ?_
    refine v_iret hC hM dX6_revert_11 (by omega) (by omega) ?_
    exact MRes.code hT (E := eNSE) (by unfold ro_revert; rw [← hs2, h_c]) (by decide) (by decide)
  · dsimp only
    refine v_if_eqN (tgt := 12) hC dX6_revert_7 (by decide) (by decide) (fun q => absurd q (by decide)) (fun _ => ?_)
    refine v_iconst (v := nI 0) hC dX6_revert_10 (by decide) ?_
    refine v_iret hC hM dX6_revert_11 (by omega) (by omega) ?_
    exact MRes.code hT (E := eISE) (by unfold ro_revert; rw [← hs2, h_c]; exact if_pos (fun q => h_st ((hT.2.2.1.1 c (by rw [← hs2]; exact b_c)).trans q))) (by decide) (by decide)
  dsimp only
  refine v_if_eqN (tgt := 12) hC dX6_revert_7 (by decide) (by decide) (fun _ => ?_) (fun q => absurd rfl q)
  have hcn : c < s 0 0 0 0 := by rw [← hs2]; exact b_c
  obtain ⟨τ0, hτ0⟩ : ∃ τ0, τ0 = th τ 0 := ⟨_, rfl⟩
  have hT0 : TM G ok ad s τ0 A e := by rw [hτ0]; exact TM_th hT (by decide)
  have hN0 : NW τ τ0 := by rw [hτ0]; exact ((DY.refl τ).Up rfl).nw
  have hz0 : τ0 30 0 0 0 = 0 := by rw [hτ0]; exact up_same _ _ _ _ _ _
  have c5 : τ0 30 0 0 5 = τ 30 0 0 5 := by rw [hτ0]; rfl
  have c6 : τ0 30 0 0 6 = τ 30 0 0 6 := by rw [hτ0]; rfl
  have hst0 : τ0 52 0 0 c = 109 := by rw [hτ0]; exact h_st
  rw [← hτ0]
  clear hτ0
  have hB0 := hT0.1
  have hmr : aS A c = 109 := (hT0.2.2.1.1 c hcn).symm.trans hst0
  have hm := TM_m1 hT0
  have hcm := hm.2.2 c (by rw [hT0.2.1.1]; exact hcn) hst0
  have hn17 : s 0 0 0 0 < 17 := hBs 0 0 0 0 rfl
  refine v_bipush (v := nI 16) hC dX6_revert_12 (by decide) ?_
  refine v_newa (atype := .boolean) (ty := .boolean) (N := 16) (a0 := (16, .inl fun x => nI ((fun _ => 0) x))) (σ1 := upr τ0 58 0 0 (fun _ => 0)) 1 58 0 0 hC dX6_revert_14 rfl ar_Z rfl rfl (by omega) (by decide) (by omega) (by omega) n58 (fun a k' i' j' _ s => enck_dyn (.inr (.inr (.inr (by decide)))) k' i' j' s) (fun _ _ _ h => upr_off _ _ h) (fun a => by rw [upr_row]; rfl) rfl (fun z => ?_)
  have hQ1 : OKM (okA ok 58 0 0) := fun k i j h => .inl (hQ k i j h)
  have hk581 : (okA ok 58 0 0) 58 0 0 := .inr ⟨rfl, rfl, rfl⟩
  refine v_stk (st' := [.ref ((adA ad 58 0 0 z) 58 0 0)]) (congrArg (fun z => [Value.ref z]) (adA_self _ _ _ _ _)) ?_
  refine v_astore_n hC dX6_revert_16 (by decide) ?_
  refine v_aload_n hC dX6_revert_17 rfl ?_
  refine v_iload_n hC dX6_revert_18 rfl ?_
  refine v_aload_n hC dX6_revert_19 rfl ?_
  refine v_callV hC lk_X6_220 dX6_revert_20 (c_X6_marks (ok := (okA ok 58 0 0)) (ad := (adA ad 58 0 0 z)) hl0 hQ1 hBs hB0 hT0.2.1 hm.1 hm.2.1 hk581 hcm) (by decide) (by decide) hQ1.k30 rfl rfl rfl rfl (Nat.le_of_ble_eq_true rfl) (by omega) (by omega) (fun v μ h => ?_) (fun _ _ h => h.elim)
  obtain ⟨g, rfl, rfl, hg⟩ := h
  dsimp only
  have hlm : lsM τ0 1 = aM A := hT0.2.2.1.2.2.2.2.1
  rw [hlm] at hg hcm hm ⊢
  have hgm := (gnl_ok s c hm.1).2
  have hro : ro_revert s A (nI c) = if (sbl s (rvT s (gnl s c (aM A)) (aM A)) 4 (aK A)).1 = true then (.inr (gnl s c (aM A)).length, rvA s (gnl s c (aM A)) (setK A (sbl s (rvT s (gnl s c (aM A)) (aM A)) 4 (aK A)).2.1), (sbl s (rvT s (gnl s c (aM A)) (aM A)) 4 (aK A)).2.2) else (.inl eUOE, setK A (sbl s (rvT s (gnl s c (aM A)) (aM A)) 4 (aK A)).2.1, (sbl s (rvT s (gnl s c (aM A)) (aM A)) 4 (aK A)).2.2) := by
    rw [hs2] at h_c
    unfold ro_revert
    rw [h_c]
    exact if_neg (fun q => q hmr)
  generalize gnl s c (aM A) = gl at *
  have hB1 : BD (upr τ0 58 0 0 g) := BD.putr hB0 (fun x _ => lteq (hg x) (b2n_lt _))
  have hT1 : TM G ok ad s (upr τ0 58 0 0 g) A e := hT0.dy hB1 ((DY.refl τ0).Upr rfl)
  obtain ⟨M, hMd⟩ : ∃ M, M = τ0 51 0 0 := ⟨_, rfl⟩
  obtain ⟨mm, hmm⟩ : ∃ mm, mm = τ0 30 0 0 4 := ⟨_, rfl⟩
  have hml : (List.range mm).map M = aM A := by rw [← hlm, hMd, hmm]; rfl
  have hm17 : mm < 17 := by rw [hmm]; exact hB0 30 0 0 4 rfl
  have hMk : ∀ k, k < mm → M k < s 0 0 0 0 := fun k hk => hm.2.1 _ (by rw [← hml]; exact List.mem_map.mpr ⟨k, List.mem_range.mpr hk, rfl⟩)
  refine v_istore_n hC dX6_revert_23 (by decide) ?_
  refine v_bipush (v := nI 64) hC dX6_revert_24 (by decide) ?_
  refine v_newa (atype := .int) (ty := .int) (N := 64) (a0 := (64, .inl fun x => nI ((fun _ => 0) x))) (σ1 := upr (upr τ0 58 0 0 g) 62 0 0 (fun _ => 0)) 0 62 0 0 hC dX6_revert_26 rfl ar_I rfl rfl (by omega) (by decide) (by omega) (by omega) (fun q => q.elim n62 (fun z => absurd z.1 (by decide))) (fun a k' i' j' _ s => enck_dyn (.inr (.inr (.inr (by decide)))) k' i' j' s) (fun _ _ _ h => upr_off _ _ h) (fun a => by rw [upr_row]; rfl) rfl (fun y => ?_)
  have hQ2 : OKM (okA (okA ok 58 0 0) 62 0 0) := fun k i j h => .inl (hQ1 k i j h)
  have hk62 : (okA (okA ok 58 0 0) 62 0 0) 62 0 0 := .inr ⟨rfl, rfl, rfl⟩
  have hk58 : (okA (okA ok 58 0 0) 62 0 0) 58 0 0 := .inl hk581
  refine v_stk (st' := [.ref ((adA (adA ad 58 0 0 z) 62 0 0 y) 62 0 0)]) (congrArg (fun z => [Value.ref z]) (adA_self _ _ _ _ _)) ?_
  rw [show upr (upr τ0 58 0 0 g) 62 0 0 (fun _ => 0) = wvM (upr τ0 58 0 0 g) M g 0 from rfl]
  refine v_astore hC dX6_revert_28 (by decide) ?_
  refine v_iconst (v := nI 0) hC dX6_revert_30 (by decide) ?_
  refine v_istore hC dX6_revert_31 (by decide) ?_
  have key : ∀ k, k ≤ mm → V X G (0 + 1 + 1) (0 + 16 + 64) (okA (okA ok 58 0 0) 62 0 0) (adA (adA ad 58 0 0 z) 62 0 0 y) (wvM (upr τ0 58 0 0 g) M g k) [(0, .ref (ad 30 0 0)), (1, iv c), (2, .ref ((adA ad 58 0 0 z) 58 0 0)), (3, iv gl.length), (4, .ref ((adA (adA ad 58 0 0 z) 62 0 0 y) 62 0 0)), (5, iv k)] 33 [] := by
    refine down (mm) ?_ ?_
    · have hBw := wvM_BD hB1 M g mm
      refine v_iload hC dX6_revert_33 rfl ?_
      refine v_aload_n hC dX6_revert_35 rfl ?_
      refine gf_X6_198 (ad := (adA (adA ad 58 0 0 z) 62 0 0 y)) hC dX6_revert_36 hQ2 ?_
      rw [show wvM (upr τ0 58 0 0 g) M g mm 30 0 0 4 = mm from (wvM_off (by decide) _).trans hmm.symm]
      refine v_icmp_geN (tgt := 73) hC dX6_revert_39 (by decide) (by first | omega | exact hB1.i _ _ _ _ rfl | assumption | exact b2n_31 _ | decide) (by first | omega | exact hB1.i _ _ _ _ rfl | assumption | exact b2n_31 _ | decide) (fun c_39 => ?_) (fun c_39 => ?_)
      · refine v_aload_n hC dX6_revert_73 rfl ?_
        refine v_aload hC dX6_revert_74 rfl ?_
        have hArr1 : Arr G (okA (okA ok 58 0 0) 62 0 0) (adA (adA ad 58 0 0 z) 62 0 0 y) (wvM (upr τ0 58 0 0 g) M g mm) (aK A) e := Arr.addk (fun i j x => wvM_off (fun q => absurd q.1 (by decide)) _) (fun i j x => wvM_off (fun q => absurd q.1 (by decide)) _) (fun i j x => wvM_off (fun q => absurd q.1 (by decide)) _) (Arr.addk (fun _ _ _ => rfl) (fun _ _ _ => rfl) (fun _ _ _ => rfl) hT1.2.2.2.1)
        have h305 : ∀ x, (wvM (upr τ0 58 0 0 g) M g mm) 30 0 0 x = τ0 30 0 0 x := fun x => wvM_off (by decide) _
        have hKM1 : KM (okA (okA ok 58 0 0) 62 0 0) ((wvM (upr τ0 58 0 0 g) M g mm) 30 0 0 5) e := by rw [h305]; exact (hT0.2.2.2.2.1.addk).addk
        have hwv : ∀ x, x < 64 → (wvM (upr τ0 58 0 0 g) M g mm) 62 0 0 x = rvT s gl (aM A) x := fun x hx => by
          rw [wvM_v hT1.2.1 hg mm hMk x hx, hml]
          rfl
        have hmb : msbl (wvM (upr τ0 58 0 0 g) M g mm) ((wvM (upr τ0 58 0 0 g) M g mm) 62 0 0) 4 (aK A) = sbl s (rvT s gl (aM A)) 4 (aK A) := by
          rw [(wvM_SM hT1.2.1 M g mm).Msbl]
          exact sbl_v hBs hwv 4 _
        refine v_callV hC lk_X6_204 dX6_revert_76 (c_X6_isBuilt (ok := (okA (okA ok 58 0 0) 62 0 0)) (ad := (adA (adA ad 58 0 0 z) 62 0 0 y)) (σ := (wvM (upr τ0 58 0 0 g) M g mm)) hl0 hQ2 hBw hk62 hArr1 hKM1 (by omega) he (by rw [h305, c5]; omega) (by rw [h305, c6]; omega)) (by decide) (by decide) hQ2.k30 rfl rfl rfl rfl (Nat.le_of_ble_eq_true rfl) (by omega) ?_ (fun v μ h => ?_) (fun _ _ h => h.elim)
        · rw [hmb, hro]
          split
          · show _ ≤ 200 + 4 * (capN ((sbl s (rvT s gl (aM A)) 4 (aK A)).2.1.length - _) _ _ - _)
            omega
          · show _ ≤ 200 + 4 * (capN ((sbl s (rvT s gl (aM A)) 4 (aK A)).2.1.length - _) _ _ - _)
            omega
        rw [hmb] at h ⊢
        obtain ⟨rfl, nk, na, τ2, rfl, f1, f2, f3, f5, f6, f7, f8⟩ := h
        dsimp only
        rw [h305] at f6 f7
        obtain ⟨σx, hσx⟩ : ∃ σx, σx = mxS (wvM (upr τ0 58 0 0 g) M g mm) τ2 := ⟨_, rfl⟩
        have w5 : ∀ k i j x, kM k x = false → k ≠ 62 → σx k i j x = (upr τ0 58 0 0 g) k i j x := fun k i j x q1 q2 => by
          rw [hσx]
          show (bif kM k x then _ else _) = _
          rw [q1]
          exact wvM_off (fun q => q2 q.1) _
        have hx5 : σx 30 0 0 5 = τ 30 0 0 5 + ((sbl s (rvT s gl (aM A)) 4 (aK A)).2.1.length - (aK A).length) := by rw [hσx, ← c5]; exact f6
        have hx6 : σx 30 0 0 6 = τ 30 0 0 6 + (sbl s (rvT s gl (aM A)) 4 (aK A)).2.2 := by rw [hσx, ← c6]; exact f7
        have hTx : TM G (mxK (okA (okA ok 58 0 0) 62 0 0) nk) (mxA (adA (adA ad 58 0 0 z) 62 0 0 y) na) s σx (setK A (sbl s (rvT s gl (aM A)) 4 (aK A)).2.1) (capN ((sbl s (rvT s gl (aM A)) 4 (aK A)).2.1.length - (aK A).length) (aK A).length e) := by
          refine ⟨by rw [hσx]; exact f1, hT1.2.1.of (fun k i j x q => w5 k i j x (sm_km q).1 (sm_km q).2), hT1.2.2.1.mf (fun k i j x q => w5 k i j x (mf_km q).1 (mf_km q).2), by rw [hσx]; exact f2, by rw [hσx]; exact f3, hT1.2.2.2.2.2.1, hT1.2.2.2.2.2.2⟩
        have hBx : BD σx := hTx.1
        have hx62 : ∀ x, x < 64 → σx 62 0 0 x = rvT s gl (aM A) x := fun x hx => by rw [hσx, ← hwv x hx]; rfl
        have hx58 : ∀ x, σx 58 0 0 x = g x := fun x => (w5 58 0 0 x rfl (by decide)).trans (congrFun (upr_row _ _ _ _ _) _)
        have hx51 : ∀ x, σx 51 0 0 x = M x := fun x => (w5 51 0 0 x rfl (by decide)).trans (congrFun hMd.symm x)
        have hx4 : σx 30 0 0 4 = mm := (w5 30 0 0 4 rfl (by decide)).trans hmm.symm
        have hx0 : σx 30 0 0 0 = 0 := (w5 30 0 0 0 rfl (by decide)).trans hz0
        have hNx : NW τ σx := fun k i j x q => by
          obtain ⟨q1, q2⟩ := Bool.or_eq_false_iff.mp q
          obtain ⟨q3, q4⟩ := Bool.or_eq_false_iff.mp q1
          have n62 : k ≠ 62 := by rintro rfl; cases q2
          rw [w5 k i j x q4 n62, upr_k (by rintro rfl; cases q2)]
          exact hN0 k i j x q
        have hQx : OKM (mxK (okA (okA ok 58 0 0) 62 0 0) nk) := OKM.mx hQ2
        have hkx62 : (mxK (okA (okA ok 58 0 0) 62 0 0) nk) 62 0 0 := hk62
        have hkx58 : (mxK (okA (okA ok 58 0 0) 62 0 0) nk) 58 0 0 := hk58
        rw [← hσx]
        clear hσx f1 f2 f3 w5
        generalize hr : sbl s (rvT s gl (aM A)) 4 (aK A) = r at *
        have hcap : capN ((aK (ro_revert s A (nI c)).2.1).length - (aK A).length) (aK A).length e = capN (r.2.1.length - (aK A).length) (aK A).length e := by
          rw [hro]
          split <;> rfl
        have n58x : ¬ mxK ok nk 58 0 0 := n58
        have n62x : ¬ okA (mxK ok nk) 58 0 0 62 0 0 := fun q => q.elim n62 (fun z => absurd z.1 (by decide))
        have fin : ∀ {kc ks : Nat} {l : List (Nat × Value)} {pc : Nat} {st : List Value} (τ9 : SG), V X G kc ks (mxK ok nk) (mxA ad na) τ9 l pc st → V X G kc ks (mxK (okA (okA ok 58 0 0) 62 0 0) nk) (mxA (adA (adA ad 58 0 0 z) 62 0 0 y) na) τ9 l pc st := fun τ9 k => by
          rw [mxK_okA rfl, mxK_okA rfl, mxA_adA rfl, mxA_adA rfl]
          exact v_forget n62x (.inr (.inr (.inr (by decide)))) (fun _ _ _ _ => rfl) (v_forget n58x (.inr (.inr (.inr (by decide)))) (fun _ _ _ _ => rfl) k)
        have dl : ∀ {τ9 : SG} {A9 : AS} {e9 : Nat}, TM G (mxK (okA (okA ok 58 0 0) 62 0 0) nk) (mxA (adA (adA ad 58 0 0 z) 62 0 0 y) na) s τ9 A9 e9 → TM G (mxK ok nk) (mxA ad na) s τ9 A9 e9 := fun h => h.delk.delk
        refine v_if_neN (tgt := 88) hC dX6_revert_79 (by decide) (by first | omega | exact hB3.i _ _ _ _ rfl | assumption | exact b2n_31 _ | decide) (fun c_79 => ?_) (fun c_79 => ?_)
        · refine v_iconst (v := nI 0) hC dX6_revert_88 (by decide) ?_
          refine v_istore hC dX6_revert_89 (by decide) ?_
          refine v_iconst (v := nI 0) hC dX6_revert_91 (by decide) ?_
          refine v_istore hC dX6_revert_92 (by decide) ?_
          have key5 : ∀ k, k ≤ mm → ∀ left τ3, RvI σx τ3 M gl k left → V X G (0 + 1 + 1 + 12) (0 + 16 + 64 + (120 + 4 * (capN (r.2.1.length - (aK A).length) (aK A).length e - e))) (mxK (okA (okA ok 58 0 0) 62 0 0) nk) (mxA (adA (adA ad 58 0 0 z) 62 0 0 y) na) τ3 [(0, .ref (ad 30 0 0)), (1, iv c), (2, .ref ((adA ad 58 0 0 z) 58 0 0)), (3, iv gl.length), (4, .ref ((adA (adA ad 58 0 0 z) 62 0 0 y) 62 0 0)), (5, iv left), (6, iv k)] 94 [] := by
            refine down (mm) ?_ ?_
            · intro left τ3 hI
              have hB3 := hI.b
              have hle := hI.le
              refine v_iload hC dX6_revert_94 rfl ?_
              refine v_aload_n hC dX6_revert_96 rfl ?_
              refine gf_X6_198 (ad := (mxA (adA (adA ad 58 0 0 z) 62 0 0 y) na)) hC dX6_revert_97 hQx ?_
              rw [show τ3 30 0 0 4 = mm from (hI.f 30 0 0 4 (by decide) (by decide)).trans hx4]
              refine v_icmp_geN (tgt := 155) hC dX6_revert_100 (by decide) (by first | omega | exact hB3.i _ _ _ _ rfl | assumption | exact b2n_31 _ | decide) (by first | omega | exact hB3.i _ _ _ _ rfl | assumption | exact b2n_31 _ | decide) (fun c_100 => ?_) (fun c_100 => ?_)
              · refine v_aload_n hC dX6_revert_155 rfl ?_
                refine v_iload hC dX6_revert_156 rfl ?_
                refine pf_X6_198 (ad := (mxA (adA (adA ad 58 0 0 z) 62 0 0 y) na)) hC dX6_revert_158 hQx ?_
                rw [← hx4] at hI
                have hTr := TM_rv hTx hI hx51 hgm hx62
                obtain ⟨τ4, hτ4⟩ : ∃ τ4, τ4 = up τ3 30 0 0 4 left := ⟨_, rfl⟩
                rw [← hτ4] at hTr ⊢
                have hB4 : BD τ4 := by
                  rw [hτ4]
                  refine BD.put hB3 ?_
                  show left < 17
                  have := hI.le
                  rw [hx4] at this
                  omega
                clear hτ4
                refine v_iconst (v := nI 0) hC dX6_revert_161 (by decide) ?_
                refine v_istore hC dX6_revert_162 (by decide) ?_
                have key6 : ∀ p, p ≤ 64 → V X G (0 + 1 + 1 + 12) (0 + 16 + 64 + (120 + 4 * (capN (r.2.1.length - (aK A).length) (aK A).length e - e))) (mxK (okA (okA ok 58 0 0) 62 0 0) nk) (mxA (adA (adA ad 58 0 0 z) 62 0 0 y) na) (ctS τ4 p) [(0, .ref (ad 30 0 0)), (3, iv gl.length), (4, .ref ((adA (adA ad 58 0 0 z) 62 0 0 y) 62 0 0)), (6, iv p)] 164 [] := by
                  refine down (64) ?_ ?_
                  · refine v_iload hC dX6_revert_164 rfl ?_
                    refine v_bipush (v := nI 64) hC dX6_revert_166 (by decide) ?_
                    refine v_icmp_geN (tgt := 189) hC dX6_revert_168 (by decide) (by first | omega | exact hB3.i _ _ _ _ rfl | assumption | exact b2n_31 _ | decide) (by first | omega | exact hB3.i _ _ _ _ rfl | assumption | exact b2n_31 _ | decide) (fun c_168 => ?_) (fun c_168 => ?_)
                    · refine v_iload_n hC dX6_revert_189 rfl ?_
                      refine fin _ ?_
                      have hg1 : r.1 = true := b2n_1 c_79
                      have hro2 := hro.trans (if_pos hg1)
                      refine v_iret hC hM dX6_revert_190 (by omega) (by omega) ?_
                      rw [hro2]
                      have hF := hTr.2
                      exact ⟨nk, na, ctS τ4 64, rfl, dl hTr.1, hNx.trans hF.mw.nw, ⟨f5.1, f5.2, (hF 30 0 0 5 rfl).trans hx5, (hF 30 0 0 6 rfl).trans hx6, f8⟩, .inr ⟨_, rfl, rfl, (hF 30 0 0 0 rfl).trans hx0⟩⟩
                    · exact absurd c_168 (by omega)
                  · intro p hp ih 
                    refine v_iload hC dX6_revert_164 rfl ?_
                    refine v_bipush (v := nI 64) hC dX6_revert_166 (by decide) ?_
                    refine v_icmp_geN (tgt := 189) hC dX6_revert_168 (by decide) (by first | omega | exact hB3.i _ _ _ _ rfl | assumption | exact b2n_31 _ | decide) (by first | omega | exact hB3.i _ _ _ _ rfl | assumption | exact b2n_31 _ | decide) (fun c_168 => ?_) (fun c_168 => ?_)
                    · exact absurd c_168 (by omega)
                    · refine v_aload_n hC dX6_revert_171 rfl ?_
                      refine gf_X6_17 hC dX6_revert_172 hQx ?_
                      refine v_iload hC dX6_revert_175 rfl ?_
                      refine v_aload hC dX6_revert_177 rfl ?_
                      refine v_iload hC dX6_revert_179 rfl ?_
                      refine al_62 (i := 0) (ad := (mxA (adA (adA ad 58 0 0 z) 62 0 0 y) na)) hC dX6_revert_181 hkx62 (by omega) ?_
                      rw [show ctS τ4 p 62 0 0 p = τ4 62 0 0 p from rfl]
                      refine as_31 (ad := (mxA (adA (adA ad 58 0 0 z) 62 0 0 y) na)) hC dX6_revert_182 hQx (by omega) ?_
                      rw [ctS_s]
                      refine v_iincN hC dX6_revert_183 rfl (by decide) ?_
                      refine v_goto (tgt := 164) hC dX6_revert_186 (by decide) ?_
                      exact v_sub rfl ih
                have k00 := key6 0 (Nat.zero_le _)
                rw [ctS_0] at k00
                exact v_sub rfl k00
              · exact absurd c_100 (by omega)
            · intro k hp ih left τ3 hI
              have hB3 := hI.b
              have hle := hI.le
              have hkm := hMk k hp
              refine v_iload hC dX6_revert_94 rfl ?_
              refine v_aload_n hC dX6_revert_96 rfl ?_
              refine gf_X6_198 (ad := (mxA (adA (adA ad 58 0 0 z) 62 0 0 y) na)) hC dX6_revert_97 hQx ?_
              rw [show τ3 30 0 0 4 = mm from (hI.f 30 0 0 4 (by decide) (by decide)).trans hx4]
              refine v_icmp_geN (tgt := 155) hC dX6_revert_100 (by decide) (by first | omega | exact hB3.i _ _ _ _ rfl | assumption | exact b2n_31 _ | decide) (by first | omega | exact hB3.i _ _ _ _ rfl | assumption | exact b2n_31 _ | decide) (fun c_100 => ?_) (fun c_100 => ?_)
              · exact absurd c_100 (by omega)
              · refine v_aload_n hC dX6_revert_103 rfl ?_
                refine v_aload_n hC dX6_revert_104 rfl ?_
                refine gf_X6_72 hC dX6_revert_105 hQx ?_
                refine v_iload hC dX6_revert_108 rfl ?_
                refine al_51 (ad := (mxA (adA (adA ad 58 0 0 z) 62 0 0 y) na)) hC dX6_revert_110 hQx (by omega) ?_
                rw [show τ3 51 0 0 k = M k from hI.m k hle]
                refine al_58 (ad := (mxA (adA (adA ad 58 0 0 z) 62 0 0 y) na)) hC dX6_revert_111 hkx58 (by omega) ?_
                rw [show τ3 58 0 0 (M k) = b2n (decide (M k ∈ gl)) from ((hI.f 58 0 0 _ (by decide) (by decide)).trans (hx58 _)).trans (hg _)]
                refine v_if_eqN (tgt := 132) hC dX6_revert_112 (by decide) (by first | omega | exact hB3.i _ _ _ _ rfl | assumption | exact b2n_31 _ | decide) (fun c_112 => ?_) (fun c_112 => ?_)
                · refine v_aload_n hC dX6_revert_132 rfl ?_
                  refine gf_X6_72 hC dX6_revert_133 hQx ?_
                  refine v_iload hC dX6_revert_136 rfl ?_
                  refine v_aload_n hC dX6_revert_138 rfl ?_
                  refine gf_X6_72 hC dX6_revert_139 hQx ?_
                  refine v_iload hC dX6_revert_142 rfl ?_
                  refine al_51 (ad := (mxA (adA (adA ad 58 0 0 z) 62 0 0 y) na)) hC dX6_revert_144 hQx (by omega) ?_
                  rw [show τ3 51 0 0 k = M k from hI.m k hle]
                  refine as_51 (ad := (mxA (adA (adA ad 58 0 0 z) 62 0 0 y) na)) hC dX6_revert_145 hQx (by omega) ?_
                  refine v_iincN hC dX6_revert_146 rfl (by decide) ?_
                  refine v_iincN hC dX6_revert_149 rfl (by decide) ?_
                  refine v_goto (tgt := 94) hC dX6_revert_152 (by decide) ?_
                  exact v_sub rfl (ih (left + 1) _ (hI.stay (of_decide_eq_false (b2n_0 c_112)) (by omega)))
                · refine v_aload_n hC dX6_revert_115 rfl ?_
                  refine gf_X6_75 hC dX6_revert_116 hQx ?_
                  refine v_aload_n hC dX6_revert_119 rfl ?_
                  refine gf_X6_72 hC dX6_revert_120 hQx ?_
                  refine v_iload hC dX6_revert_123 rfl ?_
                  refine al_51 (ad := (mxA (adA (adA ad 58 0 0 z) 62 0 0 y) na)) hC dX6_revert_125 hQx (by omega) ?_
                  rw [show τ3 51 0 0 k = M k from hI.m k hle]
                  refine v_bipush (v := nI 118) hC dX6_revert_126 (by decide) ?_
                  refine as_52 (ad := (mxA (adA (adA ad 58 0 0 z) 62 0 0 y) na)) hC dX6_revert_128 hQx (by omega) (by decide) ?_
                  refine v_goto (tgt := 149) hC dX6_revert_129 (by decide) ?_
                  refine v_iincN hC dX6_revert_149 rfl (by decide) ?_
                  refine v_goto (tgt := 94) hC dX6_revert_152 (by decide) ?_
                  exact v_sub rfl (ih left _ (hI.go (of_decide_eq_true (b2n_1 c_112))))
          exact v_sub rfl (key5 0 (Nat.zero_le _) 0 σx (RvI.zero hx51 hBx))
        · refine v_aload_n hC dX6_revert_82 rfl ?_
          refine v_iconst (v := nI 3) hC dX6_revert_83 (by decide) ?_
          refine v_callV_r0 hC lk_X6_96 dX6_revert_84 (c_X6_fails (ok := (mxK (okA (okA ok 58 0 0) 62 0 0) nk)) (ad := (mxA (adA (adA ad 58 0 0 z) 62 0 0 y) na)) hl0 hQx 3) (by decide) (by decide) hQx.k30 rfl rfl rfl rfl (Nat.le_of_ble_eq_true rfl) (by omega) (by omega) ?_
          refine fin _ ?_
          have hg0 : ¬ r.1 = true := by rw [b2n_0 c_79]; decide
          have hro2 := hro.trans (if_neg hg0)
          refine v_iret hC hM dX6_revert_87 (by omega) (by omega) ?_
          rw [hro2]
          exact ⟨nk, na, th σx 3, rfl, dl (hTx.dy (th_BD hBx (by decide)) ((DY.refl σx).Up rfl)), hNx.trans ((DY.refl σx).Up rfl).nw, ⟨f5.1, f5.2, hx5, hx6, f8⟩, .inl ⟨_, rfl, rfl, (up_same _ _ _ _ _ _).trans (by decide)⟩⟩
      · exact absurd c_39 (by omega)
    · intro k hp ih 
      have hBw := wvM_BD hB1 M g k
      have hkm := hMk k hp
      have hg2 : g (M k) < 2 := lteq (hg _) (b2n_lt _)
      refine v_iload hC dX6_revert_33 rfl ?_
      refine v_aload_n hC dX6_revert_35 rfl ?_
      refine gf_X6_198 (ad := (adA (adA ad 58 0 0 z) 62 0 0 y)) hC dX6_revert_36 hQ2 ?_
      rw [show wvM (upr τ0 58 0 0 g) M g k 30 0 0 4 = mm from (wvM_off (by decide) _).trans hmm.symm]
      refine v_icmp_geN (tgt := 73) hC dX6_revert_39 (by decide) (by first | omega | exact hB1.i _ _ _ _ rfl | assumption | exact b2n_31 _ | decide) (by first | omega | exact hB1.i _ _ _ _ rfl | assumption | exact b2n_31 _ | decide) (fun c_39 => ?_) (fun c_39 => ?_)
      · exact absurd c_39 (by omega)
      · refine v_aload_n hC dX6_revert_42 rfl ?_
        refine v_aload_n hC dX6_revert_43 rfl ?_
        refine gf_X6_72 hC dX6_revert_44 hQ2 ?_
        refine v_iload hC dX6_revert_47 rfl ?_
        refine al_51 (ad := (adA (adA ad 58 0 0 z) 62 0 0 y)) hC dX6_revert_49 hQ2 (by omega) ?_
        rw [show (wvM (upr τ0 58 0 0 g) M g k) 51 0 0 k = M k from (wvM_off (by decide) _).trans (congrFun hMd.symm k)]
        refine al_58 (ad := (adA (adA ad 58 0 0 z) 62 0 0 y)) hC dX6_revert_50 hk58 (by omega) ?_
        rw [show (wvM (upr τ0 58 0 0 g) M g k) 58 0 0 (M k) = g (M k) from (wvM_off (by decide) _).trans (congrFun (upr_row _ _ _ _ _) _)]
        refine v_if_neN (tgt := 67) hC dX6_revert_51 (by decide) (by first | omega | exact hB1.i _ _ _ _ rfl | assumption | exact b2n_31 _ | decide) (fun c_51 => ?_) (fun c_51 => ?_)
        · refine v_iincN hC dX6_revert_67 rfl (by decide) ?_
          refine v_goto (tgt := 33) hC dX6_revert_70 (by decide) ?_
          rw [show wvM (upr τ0 58 0 0 g) M g (k + 1) = wvM (upr τ0 58 0 0 g) M g k from if_pos c_51] at ih
          exact v_sub rfl ih
        · refine v_aload_n hC dX6_revert_54 rfl ?_
          refine v_aload_n hC dX6_revert_55 rfl ?_
          refine gf_X6_72 hC dX6_revert_56 hQ2 ?_
          refine v_iload hC dX6_revert_59 rfl ?_
          refine al_51 (ad := (adA (adA ad 58 0 0 z) 62 0 0 y)) hC dX6_revert_61 hQ2 (by omega) ?_
          rw [show (wvM (upr τ0 58 0 0 g) M g k) 51 0 0 k = M k from (wvM_off (by decide) _).trans (congrFun hMd.symm k)]
          refine v_aload hC dX6_revert_62 rfl ?_
          refine v_callV_v0 hC lk_X6_194 dX6_revert_64 (c_X6_lays_62 (ok := (okA (okA ok 58 0 0) 62 0 0)) (ad := (adA (adA ad 58 0 0 z) 62 0 0 y)) (σ := (wvM (upr τ0 58 0 0 g) M g k)) (i := 0) hl0 hQ2 hBw (by omega) hk62) (by decide) (by decide) hQ2.k30 rfl rfl rfl rfl (Nat.le_of_ble_eq_true rfl) (by omega) (by omega) ?_
          refine v_iincN hC dX6_revert_67 rfl (by decide) ?_
          refine v_goto (tgt := 33) hC dX6_revert_70 (by decide) ?_
          rw [show wvM (upr τ0 58 0 0 g) M g (k + 1) = mly (wvM (upr τ0 58 0 0 g) M g k) 62 0 (M k) 64 from if_neg (fun z => z c_51)] at ih
          exact v_sub rfl ih
  exact v_sub rfl (key 0 (Nat.zero_le _))
