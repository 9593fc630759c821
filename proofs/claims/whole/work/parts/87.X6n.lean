theorem pka_sub (s : SG) : ∀ (q acc : List Nat) {x : Nat}, x ∈ q.foldl (pka s) acc → x ∈ acc ∨ x ∈ q
  | [], _, _, h => .inl h
  | c :: q, acc, x, h => by
    rcases pka_sub s q _ h with z | z
    · unfold pka at z
      split at z
      · rcases List.mem_append.mp z with y | y
        · exact .inl y
        · exact .inr (by rw [List.mem_singleton.mp y]; exact List.mem_cons_self)
      · exact .inl z
    · exact .inr (List.mem_cons_of_mem _ z)
theorem b2n_1' {b : Bool} (h : b2n b ≠ 0) : b = true := b2n_1 h
theorem b2n_0' {b : Bool} (h : b2n b = 0) : b = false := b2n_0 h
theorem up_upr (σ : SG) (k i j : Nat) (r : Nat → Nat) (n v : Nat) : up (upr σ k i j r) k i j n v = upr σ k i j (fun x => if x = n then v else r x) := by
  funext k' i' j' x
  show (if _ then _ else (if _ then _ else _)) = (if _ then (if _ then _ else _) else _)
  by_cases e : k' = k ∧ i' = i ∧ j' = j
  · rw [if_pos e, if_pos e]
    by_cases e2 : x = n
    · rw [if_pos ⟨e.1, e.2.1, e.2.2, e2⟩, if_pos e2]
    · rw [if_neg (fun q => e2 q.2.2.2), if_neg e2]
  · rw [if_neg (fun q => e ⟨q.1, q.2.1, q.2.2.1⟩), if_neg e, if_neg e]
set_option maxHeartbeats 16000000 in
set_option maxRecDepth 100000 in
theorem c_X6_step {l : Launch} (hl0 : l.stackTraces = false) {G : GT} {ok : KF} {ad : AD} {s τ : SG} {A : AS} {e : Nat} (hQ : OKM ok) (hBs : BD s) (hT : TM G ok ad s τ A e) (hH : ∀ c, c < s 0 0 0 0 → mhl τ c = tfz s c) (n57 : ¬ ok 57 0 0) (n62 : ¬ ok 62 0 0) (he : e ≤ 4700) (h1 : (aK A).length + (8 * (pck s (aQ A)).length - 4) ≤ 3072) (h2 : τ 30 0 0 5 + (8 * (pck s (aQ A)).length - 4) ≤ 3994) (h3 : τ 30 0 0 6 + (8 * (pck s (aQ A)).length - 4) ≤ 99994) :
    Ct l G 12 yX6_step cX6_step 6 (some .int) [.ref (ad 30 0 0)] ok ad τ (MRes G ok ad s τ A e (ro_step s A) (8 * (pck s (aQ A)).length - 4)) NX 92 (1292 + 4 * (capN ((aK (ro_step s A).2.1).length - (aK A).length) (aK A).length e - e)) := by
  refine Ct.mk (by decide +kernel) hl0 (by first | exact Nat.le_of_ble_eq_true rfl | omega) (fun X hX hC hM => ?_)
  subst hX
  refine v_aload_n hC dX6_step_0 rfl ?_
  refine v_iconst (v := nI 0) hC dX6_step_1 (by decide) ?_
  refine pf_X6_1 hC dX6_step_2 hQ ?_
  obtain ⟨τ0, hτ0⟩ : ∃ τ0, τ0 = th τ 0 := ⟨_, rfl⟩
  rw [show up τ 30 0 0 0 0 = τ0 from hτ0.symm]
  have hT0 : TM G ok ad s τ0 A e := by rw [hτ0]; exact TM_th hT (by decide)
  have hN0 : NW τ τ0 := by rw [hτ0]; exact ((DY.refl τ).Up rfl).nw
  have hH0 : ∀ c, c < s 0 0 0 0 → mhl τ0 c = tfz s c := by rw [hτ0]; exact hH
  have hz0 : τ0 30 0 0 0 = 0 := by rw [hτ0]; exact up_same _ _ _ _ _ _
  have c5 : τ0 30 0 0 5 = τ 30 0 0 5 := by rw [hτ0]; rfl
  have c6 : τ0 30 0 0 6 = τ 30 0 0 6 := by rw [hτ0]; rfl
  clear hτ0
  refine v_iconst (v := nI 4) hC dX6_step_5 (by decide) ?_
  refine v_newa (atype := .int) (ty := .int) (N := 4) (a0 := (4, .inl fun x => nI ((fun _ => 0) x))) (σ1 := upr τ0 57 0 0 (fun _ => 0)) 0 57 0 0 hC dX6_step_6 rfl ar_I rfl rfl (by omega) (by decide) (by omega) (by omega) n57 (fun a k' i' j' _ s => enck_dyn (.inr (.inr (.inr (by decide)))) k' i' j' s) (fun _ _ _ h => upr_off _ _ h) (fun a => by rw [upr_row]; rfl) rfl (fun z => ?_)
  have hQ1 : OKM (okA ok 57 0 0) := fun k i j h => .inl (hQ k i j h)
  have hk57 : (okA ok 57 0 0) 57 0 0 := .inr ⟨rfl, rfl, rfl⟩
  obtain ⟨hB0, hS0, hR0, hArr0, hKM0, hA0, hQm0⟩ := id hT0
  have hq0 : τ0 30 0 0 3 < 17 := hB0 30 0 0 3 rfl
  have hn17 : s 0 0 0 0 < 17 := hBs 0 0 0 0 rfl
  have hBr : ∀ row : Nat → Nat, (∀ x, row x < 16) → BD (upr τ0 57 0 0 row) := fun row h => BD.putr hB0 (fun x _ => h x)
  have hpi := pck_BI hA0
  refine v_stk (st' := [.ref ((adA ad 57 0 0 z) 57 0 0)]) (congrArg (fun z => [Value.ref z]) (adA_self _ _ _ _ _)) ?_
  refine v_astore_n hC dX6_step_8 (by decide) ?_
  refine v_iconst (v := nI 0) hC dX6_step_9 (by decide) ?_
  refine v_istore_n hC dX6_step_10 (by decide) ?_
  refine v_iconst (v := nI 0) hC dX6_step_11 (by decide) ?_
  refine v_istore_n hC dX6_step_12 (by decide) ?_
  have fin : ∀ n row, (List.range n).map row = pck s (aQ A) → (∀ x, row x < 16) → n ≤ 4 → V X G (0 + 1) (0 + 4) (okA ok 57 0 0) (adA ad 57 0 0 z) (upr τ0 57 0 0 row) [(0, .ref (ad 30 0 0)), (1, .ref ((adA ad 57 0 0 z) 57 0 0)), (2, iv n)] 114 [] := by
    intro n row hL hrow hn4
    have hB1 := hBr row hrow
    have hl4 : (pck s (aQ A)).length = n := by rw [← hL]; simp
    refine v_iload_n hC dX6_step_114 rfl ?_
    refine v_if_neN (tgt := 126) hC dX6_step_115 (by decide) (by first | omega | exact hB1.i _ _ _ _ rfl | assumption | exact b2n_31 _ | decide) (fun c_115 => ?_) (fun c_115 => ?_)
    · refine v_aload_n hC dX6_step_126 rfl ?_
      refine v_aload_n hC dX6_step_127 rfl ?_
      refine v_iconst (v := nI 0) hC dX6_step_128 (by decide) ?_
      refine v_iload_n hC dX6_step_129 rfl ?_
      have hne : pck s (aQ A) ≠ [] := fun q => c_115 (by rw [← hl4, q]; rfl)
      have hro : ro_step s A = (.inr (trsA s 3 (pck s (aQ A)) A).1, (trsA s 3 (pck s (aQ A)) A).2.1, (trsA s 3 (pck s (aQ A)) A).2.2) := if_neg hne
      have hbt : bt (lk row) 0 (n - 0) = pck s (aQ A) := by rw [bt_lk0, hL]
      have hBI : BI s A (bt (lk row) 0 (n - 0)) := by rw [hbt]; exact hpi.1
      have hTn : TM G (okA ok 57 0 0) (adA ad 57 0 0 z) s (upr τ0 57 0 0 row) A e := (hT0.dy hB1 ((DY.refl τ0).Upr rfl)).addk
      rw [hl4] at h1 h2 h3
      have ht3 := c_X6_tries hl0 hBs (G := G) 2 (Nat.le_refl _) (ok := (okA ok 57 0 0)) (ad := (adA ad 57 0 0 z)) (τ := (upr τ0 57 0 0 row)) (L := row) (a := 0) (b := n) hQ1 (fun q => q.elim n62 (fun z => absurd z.1 (by decide))) hk57 (upr_row _ _ _ _ _) hTn hBI (by omega) hn4 hn4 (by rw [Nat.sub_zero]; exact h1) he (by show τ0 30 0 0 5 + _ ≤ _; rw [c5, Nat.sub_zero]; exact h2) (by show τ0 30 0 0 6 + _ ≤ _; rw [c6, Nat.sub_zero]; exact h3)
      rw [hbt, Nat.sub_zero, show 2 + 1 = 3 from rfl] at ht3
      refine v_callV hC lk_X6_210 dX6_step_130 ht3 (by decide) (by decide) hQ1.k30 rfl rfl rfl rfl (Nat.le_of_ble_eq_true rfl) (by omega) (by rw [hro]; show _ ≤ 1292 + 4 * (capN ((aK (trsA s 3 (pck s (aQ A)) A).2.1).length - _) _ _ - _); omega) (fun v μ h => ?_) (fun _ _ h => h.elim)
      obtain ⟨nk, na, τ1, rfl, rfl, hT1, hF1, hC1⟩ := h
      dsimp only
      rw [mxK_okA rfl, mxA_adA rfl]
      refine v_forget (σ := τ1) (show ¬ mxK ok nk 57 0 0 from n57) (.inr (.inr (.inr (by decide)))) (fun _ _ _ _ => rfl) ?_
      refine v_iret hC hM dX6_step_133 (by omega) (by rw [hro]; show _ ≤ 1292 + 4 * (capN ((aK (trsA s 3 (pck s (aQ A)) A).2.1).length - _) _ _ - _); omega) ?_
      rw [hro, hl4]
      obtain ⟨q1, q2, q3, q4, q5⟩ := hC1
      refine ⟨nk, na, τ1, rfl, hT1.delk, hN0.trans ((((DY.refl τ0).Upr rfl).nw).trans hF1.nw), ⟨q1, q2, q3.trans (by show τ0 30 0 0 5 + _ = _; rw [c5]), q4.trans (by show τ0 30 0 0 6 + _ = _; rw [c6]), q5⟩, .inr ⟨_, rfl, rfl, (hF1 30 0 0 0 rfl).trans hz0⟩⟩
    · refine v_aload_n hC dX6_step_118 rfl ?_
      refine v_iconst (v := nI 1) hC dX6_step_119 (by decide) ?_
      refine v_callV_r0 hC lk_X6_96 dX6_step_120 (c_X6_fails (ok := (okA ok 57 0 0)) (ad := (adA ad 57 0 0 z)) hl0 hQ1 1) (by decide) (by decide) hQ1.k30 rfl rfl rfl rfl (Nat.le_of_ble_eq_true rfl) (by omega) (by omega) ?_
      refine v_goto (tgt := 133) hC dX6_step_123 (by decide) ?_
      refine v_forget (σ := th (upr τ0 57 0 0 row) 1) n57 (.inr (.inr (.inr (by decide)))) (fun _ _ _ _ => rfl) ?_
      have hemp : pck s (aQ A) = [] := List.eq_nil_of_length_eq_zero (by rw [hl4]; exact c_115)
      have hro : ro_step s A = (.inl eNSE, A, 0) := if_pos hemp
      have hTf : TM G ok ad s (th (upr τ0 57 0 0 row) 1) A e := hT0.dy (th_BD hB1 (by decide)) (((DY.refl τ0).Upr rfl).Up rfl)
      refine v_iret hC hM dX6_step_133 (by omega) (by omega) ?_
      rw [hro]
      refine ⟨ok, ad, th (upr τ0 57 0 0 row) 1, by rw [mxK_id, mxA_id], ?_, hN0.trans (((DY.refl τ0).Upr rfl).Up rfl).nw, (CTm.same (by show τ0 30 0 0 5 = _; exact c5) (by show τ0 30 0 0 6 = _; exact c6)).wide (by omega), .inl ⟨_, rfl, rfl, up_same _ _ _ _ _ _⟩⟩
      show TM G _ _ _ _ A (capN ((aK A).length - (aK A).length) _ _)
      rw [mxK_id, mxA_id, Nat.sub_self]
      exact hTf
  have key : ∀ k, k ≤ τ0 30 0 0 3 → ∀ n row, (List.range n).map row = ((List.range k).map (τ0 50 0 0)).foldl (pka s) [] → (∀ x, row x < 16) → n ≤ 4 → V X G (0 + 1) (0 + 4) (okA ok 57 0 0) (adA ad 57 0 0 z) (upr τ0 57 0 0 row) [(0, .ref (ad 30 0 0)), (1, .ref ((adA ad 57 0 0 z) 57 0 0)), (2, iv n), (3, iv k)] 13 [] := by
    refine down (τ0 30 0 0 3) ?_ ?_
    · intro n row hL hrow hn4
      have hB1 := hBr row hrow
      have hLf : (List.range n).map row = pck s (aQ A) := by rw [hL, ← hR0.2.2.2.1]; rfl
      refine v_iload_n hC dX6_step_13 rfl ?_
      refine v_aload_n hC dX6_step_14 rfl ?_
      refine gf_X6_143 (ad := (adA ad 57 0 0 z)) hC dX6_step_15 hQ1 ?_
      rw [show (upr τ0 57 0 0 row) 30 0 0 3 = τ0 30 0 0 3 from rfl]
      refine v_icmp_geN (tgt := 114) hC dX6_step_18 (by decide) (by first | omega | exact hB1.i _ _ _ _ rfl | assumption | exact b2n_31 _ | decide) (by first | omega | exact hB1.i _ _ _ _ rfl | assumption | exact b2n_31 _ | decide) (fun c_18 => ?_) (fun c_18 => ?_)
      · exact v_sub rfl (fin n row hLf hrow hn4)
      · exact absurd c_18 (by omega)
    · intro k hp ih n row hL hrow hn4
      have hB1 := hBr row hrow
      have hlen : (((List.range k).map (τ0 50 0 0)).foldl (pka s) []).length = n := by rw [← hL]; simp
      obtain ⟨c, hc⟩ : ∃ c, c = τ0 50 0 0 k := ⟨_, rfl⟩
      have hcq : c ∈ aQ A := by rw [← hR0.2.2.2.1, hc]; exact lsM_get (w := 0) hp
      have hcn : c < s 0 0 0 0 := (hA0.2.2.1 c hcq).1
      have hc16 : c < 16 := by omega
      have hacc : ∀ x ∈ ((List.range k).map (τ0 50 0 0)).foldl (pka s) [], x < s 0 0 0 0 := fun x hx => by
        rcases pka_sub s _ _ hx with q | q
        · cases q
        · obtain ⟨y, hy, rfl⟩ := List.mem_map.mp q
          refine (hA0.2.2.1 _ ?_).1
          rw [← hR0.2.2.2.1]
          have := List.mem_range.mp hy
          exact lsM_get (w := 0) (show y < τ0 30 0 0 3 by omega)
      refine v_iload_n hC dX6_step_13 rfl ?_
      refine v_aload_n hC dX6_step_14 rfl ?_
      refine gf_X6_143 (ad := (adA ad 57 0 0 z)) hC dX6_step_15 hQ1 ?_
      rw [show (upr τ0 57 0 0 row) 30 0 0 3 = τ0 30 0 0 3 from rfl]
      refine v_icmp_geN (tgt := 114) hC dX6_step_18 (by decide) (by first | omega | exact hB1.i _ _ _ _ rfl | assumption | exact b2n_31 _ | decide) (by first | omega | exact hB1.i _ _ _ _ rfl | assumption | exact b2n_31 _ | decide) (fun c_18 => ?_) (fun c_18 => ?_)
      · exact absurd c_18 (by omega)
      · skip
        refine v_iload_n hC dX6_step_21 rfl ?_
        refine v_iconst (v := nI 4) hC dX6_step_22 (by decide) ?_
        refine v_icmp_geN (tgt := 114) hC dX6_step_23 (by decide) (by first | omega | exact hB1.i _ _ _ _ rfl | assumption | exact b2n_31 _ | decide) (by first | omega | exact hB1.i _ _ _ _ rfl | assumption | exact b2n_31 _ | decide) (fun c_23 => ?_) (fun c_23 => ?_)
        · have hLf : (List.range n).map row = pck s (aQ A) := by
            rw [hL, ← hR0.2.2.2.1]
            show _ = (lsM τ0 0).foldl (pka s) []
            have e1 : lsM τ0 0 = (List.range k).map (τ0 50 0 0) ++ (List.range (τ0 30 0 0 3 - k)).map (fun i => τ0 50 0 0 (k + i)) := by
              rw [← rng_app, show k + (τ0 30 0 0 3 - k) = τ0 30 0 0 3 by omega]; rfl
            rw [e1, List.foldl_append, pka_full _ (b := ((List.range k).map (τ0 50 0 0)).foldl (pka s) []) (by rw [hlen]; omega)]
          exact v_sub rfl (fin n row hLf hrow hn4)
        · refine v_aload_n hC dX6_step_26 rfl ?_
          refine v_aload_n hC dX6_step_27 rfl ?_
          refine gf_X6_69 hC dX6_step_28 hQ1 ?_
          refine v_iload_n hC dX6_step_31 rfl ?_
          refine al_50 (ad := (adA ad 57 0 0 z)) hC dX6_step_32 hQ1 (by omega) ?_
          rw [show (upr τ0 57 0 0 row) 50 0 0 k = c from hc.symm]
          refine v_callV_r0 hC lk_X6_214 dX6_step_33 (c_X6_isHeld (ok := (okA ok 57 0 0)) (ad := (adA ad 57 0 0 z)) (σ := (upr τ0 57 0 0 row)) hl0 hQ1 hB1 hc16) (by decide) (by decide) hQ1.k30 rfl rfl rfl rfl (Nat.le_of_ble_eq_true rfl) (by omega) (by omega) ?_
          rw [show mhl (upr τ0 57 0 0 row) c = tfz s c from hH0 c hcn]
          refine v_if_neN (tgt := 43) hC dX6_step_36 (by decide) (by first | omega | exact hB1.i _ _ _ _ rfl | assumption | exact b2n_31 _ | decide) (fun c_36 => ?_) (fun c_36 => ?_)
          · refine v_iconst (v := nI 0) hC dX6_step_43 (by decide) ?_
            refine v_istore hC dX6_step_44 (by decide) ?_
            refine v_iconst (v := nI 0) hC dX6_step_46 (by decide) ?_
            refine v_istore hC dX6_step_47 (by decide) ?_
            have key2 : ∀ b, b ≤ n → V X G (0 + 1) (0 + 4) (okA ok 57 0 0) (adA ad 57 0 0 z) (upr τ0 57 0 0 row) [(0, .ref (ad 30 0 0)), (1, .ref ((adA ad 57 0 0 z) 57 0 0)), (2, iv n), (3, iv k), (4, iv (b2n (!tfz s c && allB (fun x => !shr s c (row x)) 0 b))), (5, iv b)] 49 [] := by
              refine down (n) ?_ ?_
              · refine v_iload hC dX6_step_49 rfl ?_
                refine v_iload_n hC dX6_step_51 rfl ?_
                refine v_icmp_geN (tgt := 88) hC dX6_step_52 (by decide) (by first | omega | exact hB1.i _ _ _ _ rfl | assumption | exact b2n_31 _ | decide) (by first | omega | exact hB1.i _ _ _ _ rfl | assumption | exact b2n_31 _ | decide) (fun c_52 => ?_) (fun c_52 => ?_)
                · refine v_iload hC dX6_step_88 rfl ?_
                  refine v_if_neN (tgt := 96) hC dX6_step_90 (by decide) (by first | omega | exact hB1.i _ _ _ _ rfl | assumption | exact b2n_31 _ | decide) (fun c_90 => ?_) (fun c_90 => ?_)
                  · have hcan := b2n_1' c_90
                    rw [Bool.and_eq_true, Bool.not_eq_true', allB_iff] at hcan
                    have hpk : pka s (((List.range k).map (τ0 50 0 0)).foldl (pka s) []) c = ((List.range k).map (τ0 50 0 0)).foldl (pka s) [] ++ [c] := if_pos ⟨by rw [hlen]; omega, hcan.1, fun x hx => by
                      rw [← hL] at hx
                      obtain ⟨y, hy, rfl⟩ := List.mem_map.mp hx
                      have := hcan.2 y (Nat.zero_le _) (by have := List.mem_range.mp hy; omega)
                      simpa using this⟩
                    have hrow2 : ∀ x, (fun x => if x = n then c else row x) x < 16 := fun x => by
                      show (if x = n then c else row x) < 16
                      split
                      · exact hc16
                      · exact hrow x
                    have hL3 : (List.range (n + 1)).map (fun x => if x = n then c else row x) = ((List.range (k + 1)).map (τ0 50 0 0)).foldl (pka s) [] := by
                      rw [List.range_succ, List.range_succ, List.map_append, List.map_append, List.foldl_append]
                      show _ = pka s _ (τ0 50 0 0 k)
                      rw [← hc, hpk, ← hL]
                      congr 1
                      · apply List.map_congr_left
                        intro x hx
                        have := List.mem_range.mp hx
                        rw [if_neg (by omega)]
                      · simp
                    refine v_aload_n hC dX6_step_96 rfl ?_
                    refine v_iload_n hC dX6_step_97 rfl ?_
                    refine v_aload_n hC dX6_step_98 rfl ?_
                    refine gf_X6_69 hC dX6_step_99 hQ1 ?_
                    refine v_iload_n hC dX6_step_102 rfl ?_
                    refine al_50 (ad := (adA ad 57 0 0 z)) hC dX6_step_103 hQ1 (by omega) ?_
                    rw [show (upr τ0 57 0 0 row) 50 0 0 k = c from hc.symm]
                    refine as_57 (ad := (adA ad 57 0 0 z)) hC dX6_step_104 hk57 (by omega) ?_
                    rw [show up (upr τ0 57 0 0 row) 57 0 0 n c = upr τ0 57 0 0 (fun x => if x = n then c else row x) from up_upr _ _ _ _ _ _ _]
                    refine v_iincN hC dX6_step_105 rfl (by decide) ?_
                    refine v_iincN hC dX6_step_108 rfl (by decide) ?_
                    refine v_goto (tgt := 13) hC dX6_step_111 (by decide) ?_
                    exact v_sub rfl (ih (n + 1) _ hL3 hrow2 (by omega))
                  · refine v_goto (tgt := 108) hC dX6_step_93 (by decide) ?_
                    have hcan := b2n_0' c_90
                    have hpk : pka s (((List.range k).map (τ0 50 0 0)).foldl (pka s) []) c = ((List.range k).map (τ0 50 0 0)).foldl (pka s) [] := if_neg (fun q => by
                      rw [Bool.and_eq_false_iff, Bool.not_eq_false'] at hcan
                      rcases hcan with z | z
                      · rw [q.2.1] at z; cases z
                      · have : allB (fun x => !shr s c (row x)) 0 n = true := (allB_iff _ _ _).mpr (fun y _ hy => by
                          rw [q.2.2 (row y) (by rw [← hL]; exact List.mem_map.mpr ⟨y, List.mem_range.mpr (by omega), rfl⟩)]; rfl)
                        rw [this] at z; cases z)
                    have hL3 : (List.range n).map row = ((List.range (k + 1)).map (τ0 50 0 0)).foldl (pka s) [] := by
                      rw [List.range_succ, List.map_append, List.foldl_append, hL]
                      show _ = pka s _ (τ0 50 0 0 k)
                      rw [← hc, hpk]
                    refine v_iincN hC dX6_step_108 rfl (by decide) ?_
                    refine v_goto (tgt := 13) hC dX6_step_111 (by decide) ?_
                    exact v_sub rfl (ih n row hL3 hrow hn4)
                · exact absurd c_52 (by omega)
              · intro b hb ih2 
                refine v_iload hC dX6_step_49 rfl ?_
                refine v_iload_n hC dX6_step_51 rfl ?_
                refine v_icmp_geN (tgt := 88) hC dX6_step_52 (by decide) (by first | omega | exact hB1.i _ _ _ _ rfl | assumption | exact b2n_31 _ | decide) (by first | omega | exact hB1.i _ _ _ _ rfl | assumption | exact b2n_31 _ | decide) (fun c_52 => ?_) (fun c_52 => ?_)
                · exact absurd c_52 (by omega)
                · refine v_iload hC dX6_step_55 rfl ?_
                  refine v_aload_n hC dX6_step_57 rfl ?_
                  refine v_aload_n hC dX6_step_58 rfl ?_
                  refine gf_X6_69 hC dX6_step_59 hQ1 ?_
                  refine v_iload_n hC dX6_step_62 rfl ?_
                  refine al_50 (ad := (adA ad 57 0 0 z)) hC dX6_step_63 hQ1 (by omega) ?_
                  rw [show (upr τ0 57 0 0 row) 50 0 0 k = c from hc.symm]
                  refine v_aload_n hC dX6_step_64 rfl ?_
                  refine v_iload hC dX6_step_65 rfl ?_
                  refine al_57 (ad := (adA ad 57 0 0 z)) hC dX6_step_67 hk57 (by omega) ?_
                  rw [show (upr τ0 57 0 0 row) 57 0 0 b = row b from congrFun (upr_row _ _ _ _ _) b]
                  have hrb : row b < s 0 0 0 0 := by
                    have hm : row b ∈ ((List.range k).map (τ0 50 0 0)).foldl (pka s) [] := by rw [← hL]; exact List.mem_map.mpr ⟨b, List.mem_range.mpr hb, rfl⟩
                    exact hacc _ hm
                  refine v_callV_r0 hC lk_X6_201 dX6_step_68 (c_X6_shares (ok := (okA ok 57 0 0)) (ad := (adA ad 57 0 0 z)) (σ := (upr τ0 57 0 0 row)) hl0 hQ1 hB1 hc16 (hrow b)) (by decide) (by decide) hQ1.k30 rfl rfl rfl rfl (Nat.le_of_ble_eq_true rfl) (by omega) (by omega) ?_
                  rw [show msh (upr τ0 57 0 0 row) c (row b) = shr s c (row b) from (show msh τ0 c (row b) = _ from hS0.Msh hBs hcn hrb)]
                  refine v_if_neN (tgt := 78) hC dX6_step_71 (by decide) (by first | omega | exact hB1.i _ _ _ _ rfl | assumption | exact b2n_31 _ | decide) (fun c_71 => ?_) (fun c_71 => ?_)
                  · refine v_iconst (v := nI 0) hC dX6_step_78 (by decide) ?_
                    have e1 : b2n (!tfz s c && allB (fun x => !shr s c (row x)) 0 (b + 1)) = b2n (!tfz s c && allB (fun x => !shr s c (row x)) 0 b) &&& 0 := by
                      rw [show allB (fun x => !shr s c (row x)) 0 (b + 1) = (allB (fun x => !shr s c (row x)) 0 b && !shr s c (row b)) by show (_ && !shr s c (row (0 + b))) = _; rw [Nat.zero_add], b2n_1 c_71]
                      rw [Nat.and_zero, Bool.not_true, Bool.and_false, Bool.and_false]; rfl
                    refine v_iandN hC dX6_step_79 ?_
                    rw [← e1]
                    refine v_istore hC dX6_step_80 (by decide) ?_
                    refine v_iincN hC dX6_step_82 rfl (by decide) ?_
                    refine v_goto (tgt := 49) hC dX6_step_85 (by decide) ?_
                    exact v_sub rfl ih2
                  · refine v_iconst (v := nI 1) hC dX6_step_74 (by decide) ?_
                    refine v_goto (tgt := 79) hC dX6_step_75 (by decide) ?_
                    have e1 : b2n (!tfz s c && allB (fun x => !shr s c (row x)) 0 (b + 1)) = b2n (!tfz s c && allB (fun x => !shr s c (row x)) 0 b) &&& 1 := by
                      rw [show allB (fun x => !shr s c (row x)) 0 (b + 1) = (allB (fun x => !shr s c (row x)) 0 b && !shr s c (row b)) by show (_ && !shr s c (row (0 + b))) = _; rw [Nat.zero_add], b2n_0 c_71]
                      rw [b2n_and1, Bool.not_false, Bool.and_true]
                    refine v_iandN hC dX6_step_79 ?_
                    rw [← e1]
                    refine v_istore hC dX6_step_80 (by decide) ?_
                    refine v_iincN hC dX6_step_82 rfl (by decide) ?_
                    refine v_goto (tgt := 49) hC dX6_step_85 (by decide) ?_
                    exact v_sub rfl ih2
            have e0 : b2n (!tfz s c && allB (fun x => !shr s c (row x)) 0 0) = 0 := by rw [b2n_1 c_36]; rfl
            have k00 := key2 0 (Nat.zero_le _)
            rw [e0] at k00
            exact v_sub rfl k00
          · refine v_iconst (v := nI 1) hC dX6_step_39 (by decide) ?_
            refine v_goto (tgt := 44) hC dX6_step_40 (by decide) ?_
            refine v_istore hC dX6_step_44 (by decide) ?_
            refine v_iconst (v := nI 0) hC dX6_step_46 (by decide) ?_
            refine v_istore hC dX6_step_47 (by decide) ?_
            have key2 : ∀ b, b ≤ n → V X G (0 + 1) (0 + 4) (okA ok 57 0 0) (adA ad 57 0 0 z) (upr τ0 57 0 0 row) [(0, .ref (ad 30 0 0)), (1, .ref ((adA ad 57 0 0 z) 57 0 0)), (2, iv n), (3, iv k), (4, iv (b2n (!tfz s c && allB (fun x => !shr s c (row x)) 0 b))), (5, iv b)] 49 [] := by
              refine down (n) ?_ ?_
              · refine v_iload hC dX6_step_49 rfl ?_
                refine v_iload_n hC dX6_step_51 rfl ?_
                refine v_icmp_geN (tgt := 88) hC dX6_step_52 (by decide) (by first | omega | exact hB1.i _ _ _ _ rfl | assumption | exact b2n_31 _ | decide) (by first | omega | exact hB1.i _ _ _ _ rfl | assumption | exact b2n_31 _ | decide) (fun c_52 => ?_) (fun c_52 => ?_)
                · refine v_iload hC dX6_step_88 rfl ?_
                  refine v_if_neN (tgt := 96) hC dX6_step_90 (by decide) (by first | omega | exact hB1.i _ _ _ _ rfl | assumption | exact b2n_31 _ | decide) (fun c_90 => ?_) (fun c_90 => ?_)
                  · have hcan := b2n_1' c_90
                    rw [Bool.and_eq_true, Bool.not_eq_true', allB_iff] at hcan
                    have hpk : pka s (((List.range k).map (τ0 50 0 0)).foldl (pka s) []) c = ((List.range k).map (τ0 50 0 0)).foldl (pka s) [] ++ [c] := if_pos ⟨by rw [hlen]; omega, hcan.1, fun x hx => by
                      rw [← hL] at hx
                      obtain ⟨y, hy, rfl⟩ := List.mem_map.mp hx
                      have := hcan.2 y (Nat.zero_le _) (by have := List.mem_range.mp hy; omega)
                      simpa using this⟩
                    have hrow2 : ∀ x, (fun x => if x = n then c else row x) x < 16 := fun x => by
                      show (if x = n then c else row x) < 16
                      split
                      · exact hc16
                      · exact hrow x
                    have hL3 : (List.range (n + 1)).map (fun x => if x = n then c else row x) = ((List.range (k + 1)).map (τ0 50 0 0)).foldl (pka s) [] := by
                      rw [List.range_succ, List.range_succ, List.map_append, List.map_append, List.foldl_append]
                      show _ = pka s _ (τ0 50 0 0 k)
                      rw [← hc, hpk, ← hL]
                      congr 1
                      · apply List.map_congr_left
                        intro x hx
                        have := List.mem_range.mp hx
                        rw [if_neg (by omega)]
                      · simp
                    refine v_aload_n hC dX6_step_96 rfl ?_
                    refine v_iload_n hC dX6_step_97 rfl ?_
                    refine v_aload_n hC dX6_step_98 rfl ?_
                    refine gf_X6_69 hC dX6_step_99 hQ1 ?_
                    refine v_iload_n hC dX6_step_102 rfl ?_
                    refine al_50 (ad := (adA ad 57 0 0 z)) hC dX6_step_103 hQ1 (by omega) ?_
                    rw [show (upr τ0 57 0 0 row) 50 0 0 k = c from hc.symm]
                    refine as_57 (ad := (adA ad 57 0 0 z)) hC dX6_step_104 hk57 (by omega) ?_
                    rw [show up (upr τ0 57 0 0 row) 57 0 0 n c = upr τ0 57 0 0 (fun x => if x = n then c else row x) from up_upr _ _ _ _ _ _ _]
                    refine v_iincN hC dX6_step_105 rfl (by decide) ?_
                    refine v_iincN hC dX6_step_108 rfl (by decide) ?_
                    refine v_goto (tgt := 13) hC dX6_step_111 (by decide) ?_
                    exact v_sub rfl (ih (n + 1) _ hL3 hrow2 (by omega))
                  · refine v_goto (tgt := 108) hC dX6_step_93 (by decide) ?_
                    have hcan := b2n_0' c_90
                    have hpk : pka s (((List.range k).map (τ0 50 0 0)).foldl (pka s) []) c = ((List.range k).map (τ0 50 0 0)).foldl (pka s) [] := if_neg (fun q => by
                      rw [Bool.and_eq_false_iff, Bool.not_eq_false'] at hcan
                      rcases hcan with z | z
                      · rw [q.2.1] at z; cases z
                      · have : allB (fun x => !shr s c (row x)) 0 n = true := (allB_iff _ _ _).mpr (fun y _ hy => by
                          rw [q.2.2 (row y) (by rw [← hL]; exact List.mem_map.mpr ⟨y, List.mem_range.mpr (by omega), rfl⟩)]; rfl)
                        rw [this] at z; cases z)
                    have hL3 : (List.range n).map row = ((List.range (k + 1)).map (τ0 50 0 0)).foldl (pka s) [] := by
                      rw [List.range_succ, List.map_append, List.foldl_append, hL]
                      show _ = pka s _ (τ0 50 0 0 k)
                      rw [← hc, hpk]
                    refine v_iincN hC dX6_step_108 rfl (by decide) ?_
                    refine v_goto (tgt := 13) hC dX6_step_111 (by decide) ?_
                    exact v_sub rfl (ih n row hL3 hrow hn4)
                · exact absurd c_52 (by omega)
              · intro b hb ih2 
                refine v_iload hC dX6_step_49 rfl ?_
                refine v_iload_n hC dX6_step_51 rfl ?_
                refine v_icmp_geN (tgt := 88) hC dX6_step_52 (by decide) (by first | omega | exact hB1.i _ _ _ _ rfl | assumption | exact b2n_31 _ | decide) (by first | omega | exact hB1.i _ _ _ _ rfl | assumption | exact b2n_31 _ | decide) (fun c_52 => ?_) (fun c_52 => ?_)
                · exact absurd c_52 (by omega)
                · refine v_iload hC dX6_step_55 rfl ?_
                  refine v_aload_n hC dX6_step_57 rfl ?_
                  refine v_aload_n hC dX6_step_58 rfl ?_
                  refine gf_X6_69 hC dX6_step_59 hQ1 ?_
                  refine v_iload_n hC dX6_step_62 rfl ?_
                  refine al_50 (ad := (adA ad 57 0 0 z)) hC dX6_step_63 hQ1 (by omega) ?_
                  rw [show (upr τ0 57 0 0 row) 50 0 0 k = c from hc.symm]
                  refine v_aload_n hC dX6_step_64 rfl ?_
                  refine v_iload hC dX6_step_65 rfl ?_
                  refine al_57 (ad := (adA ad 57 0 0 z)) hC dX6_step_67 hk57 (by omega) ?_
                  rw [show (upr τ0 57 0 0 row) 57 0 0 b = row b from congrFun (upr_row _ _ _ _ _) b]
                  have hrb : row b < s 0 0 0 0 := by
                    have hm : row b ∈ ((List.range k).map (τ0 50 0 0)).foldl (pka s) [] := by rw [← hL]; exact List.mem_map.mpr ⟨b, List.mem_range.mpr hb, rfl⟩
                    exact hacc _ hm
                  refine v_callV_r0 hC lk_X6_201 dX6_step_68 (c_X6_shares (ok := (okA ok 57 0 0)) (ad := (adA ad 57 0 0 z)) (σ := (upr τ0 57 0 0 row)) hl0 hQ1 hB1 hc16 (hrow b)) (by decide) (by decide) hQ1.k30 rfl rfl rfl rfl (Nat.le_of_ble_eq_true rfl) (by omega) (by omega) ?_
                  rw [show msh (upr τ0 57 0 0 row) c (row b) = shr s c (row b) from (show msh τ0 c (row b) = _ from hS0.Msh hBs hcn hrb)]
                  refine v_if_neN (tgt := 78) hC dX6_step_71 (by decide) (by first | omega | exact hB1.i _ _ _ _ rfl | assumption | exact b2n_31 _ | decide) (fun c_71 => ?_) (fun c_71 => ?_)
                  · refine v_iconst (v := nI 0) hC dX6_step_78 (by decide) ?_
                    have e1 : b2n (!tfz s c && allB (fun x => !shr s c (row x)) 0 (b + 1)) = b2n (!tfz s c && allB (fun x => !shr s c (row x)) 0 b) &&& 0 := by
                      rw [show allB (fun x => !shr s c (row x)) 0 (b + 1) = (allB (fun x => !shr s c (row x)) 0 b && !shr s c (row b)) by show (_ && !shr s c (row (0 + b))) = _; rw [Nat.zero_add], b2n_1 c_71]
                      rw [Nat.and_zero, Bool.not_true, Bool.and_false, Bool.and_false]; rfl
                    refine v_iandN hC dX6_step_79 ?_
                    rw [← e1]
                    refine v_istore hC dX6_step_80 (by decide) ?_
                    refine v_iincN hC dX6_step_82 rfl (by decide) ?_
                    refine v_goto (tgt := 49) hC dX6_step_85 (by decide) ?_
                    exact v_sub rfl ih2
                  · refine v_iconst (v := nI 1) hC dX6_step_74 (by decide) ?_
                    refine v_goto (tgt := 79) hC dX6_step_75 (by decide) ?_
                    have e1 : b2n (!tfz s c && allB (fun x => !shr s c (row x)) 0 (b + 1)) = b2n (!tfz s c && allB (fun x => !shr s c (row x)) 0 b) &&& 1 := by
                      rw [show allB (fun x => !shr s c (row x)) 0 (b + 1) = (allB (fun x => !shr s c (row x)) 0 b && !shr s c (row b)) by show (_ && !shr s c (row (0 + b))) = _; rw [Nat.zero_add], b2n_0 c_71]
                      rw [b2n_and1, Bool.not_false, Bool.and_true]
                    refine v_iandN hC dX6_step_79 ?_
                    rw [← e1]
                    refine v_istore hC dX6_step_80 (by decide) ?_
                    refine v_iincN hC dX6_step_82 rfl (by decide) ?_
                    refine v_goto (tgt := 49) hC dX6_step_85 (by decide) ?_
                    exact v_sub rfl ih2
            have e0 : b2n (!tfz s c && allB (fun x => !shr s c (row x)) 0 0) = 1 := by rw [b2n_0 c_36]; rfl
            have k00 := key2 0 (Nat.zero_le _)
            rw [e0] at k00
            exact v_sub rfl k00
  exact v_sub rfl (key 0 (Nat.zero_le _) 0 (fun _ => 0) rfl (fun _ => by decide) (by decide))
