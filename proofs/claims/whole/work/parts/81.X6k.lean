/-! ===== the model builds a trunk ===== -/
def MBld (G : GT) (ok : KF) (ad : AD) (σ : SG) (K : List (List Nat)) (e : Nat) (K' : List (List Nat)) (t : Nat) (μ : MT) : Prop := ∃ nk na τ, μ = (mxK ok nk, mxA ad na, mxS σ τ) ∧ BD (mxS σ τ) ∧ Arr G (mxK ok nk) (mxA ad na) (mxS σ τ) K' (capN (K'.length - K.length) K.length e) ∧ KM (mxK ok nk) (τ 30 0 0 5) (capN (K'.length - K.length) K.length e) ∧ (K.length ≤ K'.length ∧ K'.length ≤ K.length + 4) ∧ τ 30 0 0 5 = σ 30 0 0 5 + (K'.length - K.length) ∧ τ 30 0 0 6 = σ 30 0 0 6 + t ∧ t ≤ 4
def Bsm (G : GT) (ok : KF) (ad : AD) (σ : SG) (v : Nat → Nat) (K : List (List Nat)) (e r : Nat) (nk : KF) (na : AD) (τ : SG) (Kd : List (List Nat)) (ed td : Nat) : Prop := BD (mxS σ τ) ∧ Arr G (mxK ok nk) (mxA ad na) (mxS σ τ) Kd ed ∧ KM (mxK ok nk) (τ 30 0 0 5) ed ∧ ed = capN (Kd.length - K.length) K.length e ∧ (K.length ≤ Kd.length ∧ Kd.length + r ≤ K.length + 4) ∧ τ 30 0 0 5 = σ 30 0 0 5 + (Kd.length - K.length) ∧ τ 30 0 0 6 = σ 30 0 0 6 + td ∧ td + r ≤ 4 ∧ msbl σ v 4 K = ((msbl σ v r Kd).1, (msbl σ v r Kd).2.1, (msbl σ v r Kd).2.2 + td)
theorem msbl_step {σ : SG} {v : Nat → Nat} {r td t1 : Nat} {K Kd K2 : List (List Nat)} (h : msbl σ v 4 K = ((msbl σ v (r + 1) Kd).1, (msbl σ v (r + 1) Kd).2.1, (msbl σ v (r + 1) Kd).2.2 + td)) (h2 : msbl σ v (r + 1) Kd = ((msbl σ v r K2).1, (msbl σ v r K2).2.1, (msbl σ v r K2).2.2 + t1)) : msbl σ v 4 K = ((msbl σ v r K2).1, (msbl σ v r K2).2.1, (msbl σ v r K2).2.2 + (td + t1)) := by
  rw [h, h2]
  simp only [Prod.mk.injEq, true_and]
  omega
theorem Arr.new56 {G : GT} {ok : KF} {ad : AD} {σ : SG} {K : List (List Nat)} {m e a : Nat} {row : Nat → Nat} (h : Arr G ok ad σ K e) (hKM : KM ok m e) : Arr G (okA ok 56 m 0) (adA ad 56 m 0 a) (upr σ 56 m 0 row) K e := by
  refine ⟨h.1, ?_⟩
  rcases h.2 with ⟨q1, q2, q3⟩ | ⟨h10, hk, h1, h9, hl, L, hL⟩
  · exact .inl ⟨q1, q2, q3⟩
  · refine .inr ⟨h10, .inl hk, ?_, h9, hl, L, fun t ht => ?_⟩
    · rw [adA_off ad a (by rintro ⟨q, -, -⟩; exact absurd q (by decide))]
      exact h1
    · obtain ⟨l1, l2, l3, l4⟩ := hL t ht
      have hne : L t ≠ m := Nat.ne_of_lt (hKM.2.2 _ _ l1).2
      have e1 : ∀ x, upr σ 56 m 0 row 56 (L t) 0 x = σ 56 (L t) 0 x := fun x => congrFun (upr_off σ row (by rintro ⟨-, q, -⟩; exact hne q)) x
      refine ⟨.inl l1, ?_, ?_, by rw [e1]; exact l4⟩
      · rw [adA_off ad a (by rintro ⟨-, q, -⟩; exact hne q)]
        exact l2
      · rw [← l3]
        unfold cel
        rw [e1]
        exact List.map_congr_left (fun x _ => e1 x)
theorem KM.new56 {ok : KF} {m e : Nat} (h : KM ok m e) : KM (okA ok 56 m 0) (m + 1) e := by
  refine ⟨fun k i j q => ?_, fun i j q => ?_, fun i j q => ?_⟩
  · rcases q with q | ⟨rfl, rfl, rfl⟩
    · exact h.1 _ _ _ q
    · decide
  · rcases q with q | ⟨q, -, -⟩
    · exact h.2.1 _ _ q
    · exact absurd q (by decide)
  · rcases q with q | ⟨-, rfl, rfl⟩
    · exact ⟨(h.2.2 _ _ q).1, Nat.lt_succ_of_lt (h.2.2 _ _ q).2⟩
    · exact ⟨rfl, Nat.lt_succ_self _⟩
theorem Arr.of {G : GT} {ok : KF} {ad : AD} {σ σ' : SG} {K : List (List Nat)} {e : Nat} (h : Arr G ok ad σ K e) (h4 : σ' 54 = σ 54) (h5 : σ' 55 = σ 55) (h6 : σ' 56 = σ 56) : Arr G ok ad σ' K e := by
  unfold Arr cel at *
  rw [h4, h5, h6]
  exact h
theorem mxS_up {σ τ : SG} {k i j x v : Nat} (h : kM k x = true) : up (mxS σ τ) k i j x v = mxS σ (up τ k i j x v) := by
  funext k' i' j' x'
  by_cases c : k' = k ∧ i' = i ∧ j' = j ∧ x' = x
  · obtain ⟨rfl, rfl, rfl, rfl⟩ := c
    show _ = bif kM k' x' then _ else _
    rw [h]
    show up _ _ _ _ _ _ _ _ _ _ = up _ _ _ _ _ _ _ _ _ _
    rw [up_same, up_same]
  · show (if _ then _ else _) = bif kM k' x' then (if _ then _ else _) else _
    rw [if_neg c, if_neg c]
    rfl
theorem minp_mx (σ τ : SG) (v : Nat → Nat) (d : Nat) : ∀ n, minp (mxS σ τ) v d n = minp σ v d n
  | 0 => rfl
  | n + 1 => by
    show minp (mxS σ τ) v d n ++ _ = minp σ v d n ++ _
    rw [minp_mx σ τ v d n]
    rfl
theorem msbl_len (σ : SG) (v : Nat → Nat) : ∀ r K, K.length ≤ (msbl σ v r K).2.1.length
  | 0, _ => Nat.le_refl _
  | r + 1, K => by
    have h1 : K.length ≤ (addK K (mev σ v (3 - r))).length := by rw [addK_len]; omega
    unfold msbl
    split
    · exact msbl_len σ v r K
    split
    · exact Nat.le_trans h1 (msbl_len σ v r _)
    · exact h1
theorem msbl_len2 {σ : SG} {v : Nat → Nat} {r : Nat} {K : List (List Nat)} (h : mcn σ (3 - r) (nM σ) ≠ 0) : (addK K (mev σ v (3 - r))).length ≤ (msbl σ v (r + 1) K).2.1.length := by
  unfold msbl
  rw [if_neg h]
  split
  · exact msbl_len σ v r _
  · exact Nat.le_refl _
theorem capN_up {e K0 K1 K2 ed : Nat} (h1 : K0 ≤ K1) (h2 : K1 ≤ K2) (h : ed = capN (K1 - K0) K0 e) : ed ≤ capN (K2 - K0) K0 e := by
  rw [show K2 - K0 = (K1 - K0) + (K2 - K1) by omega, capN_add, ← h]
  exact capN_le _ _ _
theorem capN_s (n e r : Nat) : capN (r + 1) n e = capS (n + r) (capN r n e) := by
  rw [capN_add r 1 n e]
  rfl

set_option maxHeartbeats 16000000 in
set_option maxRecDepth 100000 in
theorem c_X6_isBuilt {l : Launch} (hl0 : l.stackTraces = false) {G : GT} {ok : KF} {ad : AD} {σ : SG} (hQ : OKM ok) (hB : BD σ) (hk : ok 62 0 0) {K : List (List Nat)} {e : Nat} (hArr : Arr G ok ad σ K e) (hKM : KM ok (σ 30 0 0 5) e) (hK : K.length ≤ 3068) (he : e ≤ 4700) (hm : σ 30 0 0 5 ≤ 3990) (ht : σ 30 0 0 6 ≤ 99990) : Ct l G 8 yX6_isBuilt cX6_isBuilt 4 (some .boolean) [.ref (ad 30 0 0), .ref (ad 62 0 0)] ok ad σ (fun v μ => v = some (iv (b2n (msbl σ (σ 62 0 0) 4 K).1)) ∧ MBld G ok ad σ K e (msbl σ (σ 62 0 0) 4 K).2.1 (msbl σ (σ 62 0 0) 4 K).2.2 μ) NX 12 (120 + 4 * (capN ((msbl σ (σ 62 0 0) 4 K).2.1.length - K.length) K.length e - e)) := by
  refine Ct.mk (by decide +kernel) hl0 (by first | exact Nat.le_of_ble_eq_true rfl | omega) (fun X hX hC hM => ?_)
  subst hX
  generalize hv : σ 62 0 0 = v at *
  have key : ∀ r, r ≤ 4 → ∀ nk na τ Kd ed td, Bsm G ok ad σ v K e r nk na τ Kd ed td → V X G (3 * (4 - r)) (30 * (4 - r) + 4 * (ed - e)) (mxK ok nk) (mxA ad na) (mxS σ τ) [(0, .ref (ad 30 0 0)), (1, .ref (ad 62 0 0)), (2, iv (4 - r))] 2 [] := by
    intro r
    induction r with
    | zero =>
      intro _ nk na τ Kd ed td ⟨f1, f2, f3, f4, f5, f6, f7, f8, f9⟩
      refine v_iload_n hC dX6_isBuilt_2 rfl ?_
      refine v_iconst (v := nI 4) hC dX6_isBuilt_3 (by decide) ?_
      refine v_icmp_geN (tgt := 75) hC dX6_isBuilt_4 (by decide) (by omega) (by omega) (fun c_4 => ?_) (fun c_4 => absurd c_4 (by omega))
      refine v_iconst (v := nI 1) hC dX6_isBuilt_75 (by decide) ?_
      have e0 : msbl σ v 0 Kd = (true, Kd, 0) := rfl
      rw [e0] at f9
      refine v_zret hC hM dX6_isBuilt_76 rfl (by omega) (by rw [f9]; show _ ≤ 120 + 4 * (capN (Kd.length - K.length) K.length e - e); omega) ?_
      rw [f9]
      exact ⟨rfl, nk, na, τ, rfl, f1, by rw [← f4]; exact f2, by rw [← f4]; exact f3, ⟨f5.1, by show Kd.length ≤ K.length + 4; omega⟩, f6, by show τ 30 0 0 6 = σ 30 0 0 6 + (0 + td); omega, by show 0 + td ≤ 4; omega⟩
    | succ r ih =>
      intro hr nk na τ Kd ed td ⟨f1, f2, f3, f4, f5, f6, f7, f8, f9⟩
      obtain ⟨d, hdd⟩ : ∃ d, d = 4 - (r + 1) := ⟨_, rfl⟩
      have hd : d < 4 := by omega
      have hd3 : 3 - r = d := by omega
      rw [← hdd]
      have hQ1 : OKM (mxK ok nk) := hQ.mx
      have hed : ed ≤ 4700 := by rw [f4]; exact capN_max _ _ _ he (by omega)
      have hee : e ≤ ed := by rw [f4]; exact capN_le _ _ _
      have hml := msbl_len σ v (r + 1) Kd
      rw [show (msbl σ v (r + 1) Kd).2.1 = (msbl σ v 4 K).2.1 by rw [f9]] at hml
      have hcu := capN_up (e := e) f5.1 hml f4
      have hk1 : (mxK ok nk) 62 0 0 := hk
      refine v_iload_n hC dX6_isBuilt_2 rfl ?_
      refine v_iconst (v := nI 4) hC dX6_isBuilt_3 (by decide) ?_
      refine v_icmp_geN (tgt := 75) hC dX6_isBuilt_4 (by decide) (by omega) (by omega) (fun c_4 => absurd c_4 (by omega)) (fun c_4 => ?_)
      refine v_aload_n hC dX6_isBuilt_7 rfl ?_
      refine v_aload_n hC dX6_isBuilt_8 rfl ?_
      refine v_iload_n hC dX6_isBuilt_9 rfl ?_
      have goon : ∀ nk2 na2 τ2 K2 e2 t2 x3, Bsm G ok ad σ v K e r nk2 na2 τ2 K2 e2 t2 → V X G (3 * (4 - r)) (30 * (4 - r) + 4 * (e2 - e)) (mxK ok nk2) (mxA ad na2) (mxS σ τ2) [(0, .ref (ad 30 0 0)), (1, .ref (ad 62 0 0)), (2, iv d), (3, x3)] 69 [] := fun nk2 na2 τ2 K2 e2 t2 x3 hf => by
        have k1 := ih (by omega) nk2 na2 τ2 K2 e2 t2 hf
        rw [show 4 - r = d + 1 by omega] at k1 ⊢
        refine v_iincN hC dX6_isBuilt_69 rfl (by decide) ?_
        refine v_goto (tgt := 2) hC dX6_isBuilt_72 (by decide) ?_
        exact v_sub rfl k1
      refine v_callV hC lk_X6_175 dX6_isBuilt_10 (c_X6_inputs (ad := (mxA ad na)) hl0 hQ1 f1 hd hk1 f3) (by decide) (by decide) hQ1.k30 rfl rfl rfl rfl (Nat.le_of_ble_eq_true rfl) (by omega) (by omega) (fun w μ h => ?_) (fun _ _ h => h.elim)
      have hcn : mcn (mxS σ τ) d (nM (mxS σ τ)) = mcn σ d (nM σ) := rfl
      have hgo : mgo (mxS σ τ) ((mxS σ τ) 62 0 0) d (nM (mxS σ τ)) = mgo σ v d (nM σ) := by rw [← hv]; rfl
      have hmv : mev (mxS σ τ) ((mxS σ τ) 62 0 0) d = mev σ v d := by
        rw [← hv]
        show _ :: _ :: minp (mxS σ τ) (σ 62 0 0) d (nM σ) = _
        rw [minp_mx]
        rfl
      rw [hcn, hgo, hmv] at h
      rcases h with ⟨hc0, rfl, rfl⟩ | ⟨hc0, a, row, rfl, rfl, hrow, hr30, hr1, hrl⟩
      · dsimp only
        refine v_astoreN_n hC dX6_isBuilt_13 (by decide) ?_
        refine v_aloadN_n hC dX6_isBuilt_14 rfl ?_
        refine v_ifnonnullN hC dX6_isBuilt_15 ?_
        refine v_goto (tgt := 69) hC dX6_isBuilt_18 (by decide) ?_
        have e0 := msbl_e (K := Kd) (v := v) (show mcn σ (3 - r) (nM σ) = 0 by rw [hd3]; exact hc0)
        exact v_wide (by omega) (by omega) (v_sub rfl (goon nk na τ Kd ed td _ ⟨f1, f2, f3, f4, ⟨f5.1, by omega⟩, f6, f7, by omega, by rw [f9, e0]⟩))
      dsimp only
      generalize hb : τ 30 0 0 5 = b at *
      have hlr : 2 ≤ row 30 := by
        have h2 := congrArg List.length hrl
        simp only [List.length_map, List.length_range, mev, List.length_cons] at h2
        omega
      have hb3 : b ≤ 3994 := by omega
      have hnr : 3 - r = d := hd3
      have hcel : cel (upr (mxS σ τ) 56 b 0 row) b = mev σ v d := by
        rw [← hrl]
        unfold cel
        rw [upr_row]
      have hQ2 : OKM (okA (mxK ok nk) 56 b 0) := fun k i j h => .inl (hQ1 k i j h)
      have hk56 : (okA (mxK ok nk) 56 b 0) 56 b 0 := .inr ⟨rfl, rfl, rfl⟩
      have hself : (adA (mxA ad na) 56 b 0 a) 56 b 0 = a := adA_self _ _ _ _ _
      have hB1 : BD (upr (mxS σ τ) 56 b 0 row) := BD.putr f1 (fun x _ => hrow x)
      have hArr1 : Arr G (okA (mxK ok nk) 56 b 0) (adA (mxA ad na) 56 b 0 a) (upr (mxS σ τ) 56 b 0 row) Kd ed := f2.new56 f3
      have hKM1 : KM (okA (mxK ok nk) 56 b 0) (b + 1) ed := f3.new56
      have h26 : (upr (mxS σ τ) 56 b 0 row) 56 b 0 30 ≤ 26 := by rw [upr_row]; exact hr30
      have n56 : ¬ mxK ok nk 56 b 0 := fun q => absurd (f3.2.2 _ _ q).2 (Nat.lt_irrefl _)
      refine v_astore_n hC dX6_isBuilt_13 (by decide) ?_
      refine v_aload_n hC dX6_isBuilt_14 rfl ?_
      refine v_ifnonnull (tgt := 21) hC dX6_isBuilt_15 (by decide) ?_
      refine v_aload_n hC dX6_isBuilt_21 rfl ?_
      refine v_aload_n hC dX6_isBuilt_22 rfl ?_
      refine v_stk (st' := [.ref ((adA (mxA ad na) 56 b 0 a) 56 b 0), .ref (ad 30 0 0)]) (congrArg (fun z => [Value.ref z, .ref (ad 30 0 0)]) hself) ?_
      refine v_callV hC lk_X6_179 dX6_isBuilt_23 (c_X6_isKept (ok := (okA (mxK ok nk) 56 b 0)) (ad := (adA (mxA ad na) 56 b 0 a)) (σ := (upr (mxS σ τ) 56 b 0 row)) hl0 hQ2 hB1 hArr1 hKM1 hk56 h26 (by omega) hed) (by decide) (by decide) hQ2.k30 rfl rfl rfl rfl (Nat.le_of_ble_eq_true rfl) (by omega) (by omega) (fun w μ h => ?_) (fun _ _ h => h.elim)
      obtain ⟨rfl, rfl⟩ := h
      dsimp only
      rw [hcel]
      -- what is left, when the cell is taken or built
      have cont : ∀ nk2 na2 τ2 K2 e2 t1 kc1 ks1, kc1 ≤ 3 * (4 - r) → ks1 ≤ 30 * (4 - r) + 4 * (e2 - e) → K2 = addK Kd (mev σ v d) → t1 = (if mev σ v d ∈ Kd then 1 else 0) → BD (mxS σ τ2) → Arr G (mxK ok nk2) (mxA ad na2) (mxS σ τ2) K2 e2 → KM (mxK ok nk2) (τ2 30 0 0 5) e2 → e2 = capN (K2.length - K.length) K.length e → τ2 30 0 0 5 = b + (if mev σ v d ∈ Kd then 0 else 1) → τ2 30 0 0 6 = τ 30 0 0 6 + t1 → V X G kc1 ks1 (mxK ok nk2) (mxA ad na2) (mxS σ τ2) [(0, .ref (ad 30 0 0)), (1, .ref (ad 62 0 0)), (2, iv d), (3, .ref a)] 64 [iv (b2n (mgo σ v d (nM σ)))] := fun nk2 na2 τ2 K2 e2 t1 kc1 ks1 w1 w2 w3 w4 g1 g2 g3 g4 g5 g6 => by
        subst w3
        have hlen := addK_len Kd (mev σ v d)
        have h01 : (if mev σ v d ∈ Kd then 0 else 1) ≤ 1 := by split <;> omega
        have h02 : t1 ≤ 1 := by rw [w4]; split <;> omega
        generalize (if mev σ v d ∈ Kd then 0 else 1) = q1 at *
        refine v_if_neN (tgt := 69) hC dX6_isBuilt_64 (by decide) (b2n_31 _) (fun c_64 => ?_) (fun c_64 => ?_)
        · have e0 := msbl_t (K := Kd) (v := v) (by rw [hd3]; exact hc0) (by rw [hd3]; exact b2n_1 c_64)
          rw [hd3, ← w4] at e0
          exact v_wide w1 w2 (goon nk2 na2 τ2 (addK Kd (mev σ v d)) e2 (td + t1) _ ⟨g1, g2, g3, g4, ⟨by omega, by omega⟩, by omega, by omega, by omega, msbl_step f9 e0⟩)
        · have e0 := msbl_f (K := Kd) (v := v) (by rw [hd3]; exact hc0) (by rw [hd3]; exact b2n_0 c_64)
          rw [hd3, ← w4] at e0
          refine v_iconst (v := nI 0) hC dX6_isBuilt_67 (by decide) ?_
          rw [e0] at f9
          refine v_zret hC hM dX6_isBuilt_68 rfl (by omega) (by rw [f9]; show _ ≤ 120 + 4 * (capN ((addK Kd (mev σ v d)).length - K.length) K.length e - e); omega) ?_
          rw [f9]
          exact ⟨rfl, nk2, na2, τ2, rfl, g1, by rw [← g4]; exact g2, by rw [← g4]; exact g3, ⟨by show K.length ≤ (addK Kd (mev σ v d)).length; omega, by show (addK Kd (mev σ v d)).length ≤ K.length + 4; omega⟩, by show τ2 30 0 0 5 = σ 30 0 0 5 + ((addK Kd (mev σ v d)).length - K.length); omega, by show τ2 30 0 0 6 = σ 30 0 0 6 + (t1 + td); omega, by show t1 + td ≤ 4; omega⟩
      by_cases hin : mev σ v d ∈ Kd
      · rw [show b2n (decide (mev σ v d ∈ Kd)) = 1 by rw [decide_eq_true hin]; rfl]
        refine v_if_eqN (tgt := 42) hC dX6_isBuilt_26 (by decide) (by decide) (fun q => absurd q (by decide)) (fun _ => ?_)
        refine v_aload_n hC dX6_isBuilt_29 rfl ?_
        refine v_dup hC dX6_isBuilt_30 rfl ?_
        refine gf_X6_183 (ad := (adA (mxA ad na) 56 b 0 a)) hC dX6_isBuilt_31 hQ2 ?_
        refine v_lconst (v := lN 1) hC dX6_isBuilt_34 (by decide) ?_
        refine v_laddN hC dX6_isBuilt_35 ?_
        refine pf_X6_183 (ad := (adA (mxA ad na) 56 b 0 a)) hC dX6_isBuilt_36 hQ2 ?_
        refine v_goto (tgt := 61) hC dX6_isBuilt_39 (by decide) ?_
        refine v_aload_n hC dX6_isBuilt_61 rfl ?_
        refine v_iconst (v := nI 1) hC dX6_isBuilt_62 (by decide) ?_
        refine v_stk (st' := [iv 1, .ref ((adA (mxA ad na) 56 b 0 a) 56 b 0)]) (congrArg (fun z => [iv 1, Value.ref z]) hself) ?_
        refine v_iald (f := fun y => nI (row y)) (N := row 30) (ad := (adA (mxA ad na) 56 b 0 a)) hC dX6_isBuilt_63 hk56 (by rw [up_off _ _ _ (by rintro ⟨q, -, -⟩; exact absurd q (by decide)), upr_row]; rfl) (x := 1) (by omega) (by omega) ?_
        rw [hr1]
        have hs2 : up (mxS σ τ) 30 0 0 6 (τ 30 0 0 6 + 1) = mxS σ (up τ 30 0 0 6 (τ 30 0 0 6 + 1)) := mxS_up rfl
        refine v_forget (σ := up (mxS σ τ) 30 0 0 6 (τ 30 0 0 6 + 1)) n56 (.inr (.inr (.inr (by decide)))) (fun k i j q => funext fun x => ?_) ?_
        · have hne : ¬ (k = 56 ∧ i = b ∧ j = 0) := by rintro ⟨rfl, rfl, rfl⟩; exact n56 q
          show (if _ then _ else upr (mxS σ τ) 56 b 0 row k i j x) = (if _ then _ else mxS σ τ k i j x)
          rw [upr_off _ _ hne]
          rfl
        rw [hs2]
        refine v_wide (kc1 := 3 * (4 - r)) (ks1 := 30 * (4 - r) + 4 * (ed - e)) (by omega) (by omega) ?_
        refine v_sub (l1 := [(0, .ref (ad 30 0 0)), (1, .ref (ad 62 0 0)), (2, iv d), (3, .ref a)]) rfl ?_
        refine cont nk na _ Kd ed 1 (3 * (4 - r)) (30 * (4 - r) + 4 * (ed - e)) (Nat.le_refl _) (Nat.le_refl _) (by unfold addK; rw [if_pos hin]) (by rw [if_pos hin]) ?_ ?_ ?_ f4 ?_ ?_
        · rw [← hs2]
          exact BD.put f1 (by show _ < 100000; omega)
        · rw [← hs2]
          exact f2.of rfl rfl rfl
        · show KM _ (τ 30 0 0 5) _
          rw [hb]
          exact f3
        · show τ 30 0 0 5 = _
          rw [if_pos hin, hb]
          rfl
        · exact up_same _ _ _ _ _ _
      · rw [show b2n (decide (mev σ v d ∈ Kd)) = 0 by rw [decide_eq_false hin]; rfl]
        refine v_if_eqN (tgt := 42) hC dX6_isBuilt_26 (by decide) (by decide) (fun _ => ?_) (fun q => absurd rfl q)
        refine v_aload_n hC dX6_isBuilt_42 rfl ?_
        refine v_dup hC dX6_isBuilt_43 rfl ?_
        refine gf_X6_187 (ad := (adA (mxA ad na) 56 b 0 a)) hC dX6_isBuilt_44 hQ2 ?_
        rw [show (upr (mxS σ τ) 56 b 0 row) 30 0 0 5 = b from hb]
        refine v_iconst (v := nI 1) hC dX6_isBuilt_47 (by decide) ?_
        refine v_iaddN hC dX6_isBuilt_48 ?_
        refine pf_X6_187 (ad := (adA (mxA ad na) 56 b 0 a)) hC dX6_isBuilt_49 hQ2 ?_
        have hB2 : BD (up (upr (mxS σ τ) 56 b 0 row) 30 0 0 5 (b + 1)) := BD.put hB1 (by show _ < 4000; omega)
        have hArr2 : Arr G (okA (mxK ok nk) 56 b 0) (adA (mxA ad na) 56 b 0 a) (up (upr (mxS σ τ) 56 b 0 row) 30 0 0 5 (b + 1)) Kd ed := hArr1.of rfl rfl rfl
        have hc2 : cel (up (upr (mxS σ τ) 56 b 0 row) 30 0 0 5 (b + 1)) b = mev σ v d := hcel
        have h262 : up (upr (mxS σ τ) 56 b 0 row) 30 0 0 5 (b + 1) 56 b 0 30 ≤ 26 := h26
        have hlen := addK_len Kd (mev σ v d)
        rw [if_neg hin] at hlen
        have hcn3 : capS Kd.length ed = capN (Kd.length + 1 - K.length) K.length e := by
          rw [show Kd.length + 1 - K.length = (Kd.length - K.length) + 1 by omega, capN_s, ← f4]
          congr 1
          omega
        have hcl := capS_le Kd.length ed
        have hml2 := msbl_len2 (K := Kd) (v := v) (r := r) (by rw [hd3]; exact hc0)
        rw [hd3, hlen, show (msbl σ v (r + 1) Kd).2.1 = (msbl σ v 4 K).2.1 by rw [f9]] at hml2
        have hcu2 := capN_up (e := e) (show K.length ≤ Kd.length + 1 by omega) hml2 hcn3
        refine v_aload_n hC dX6_isBuilt_52 rfl ?_
        refine gf_X6_85 (ad := (adA (mxA ad na) 56 b 0 a)) hC dX6_isBuilt_53 hQ2 ?_
        refine v_aload_n hC dX6_isBuilt_56 rfl ?_
        refine v_stk (st' := [.ref ((adA (mxA ad na) 56 b 0 a) 56 b 0), .ref (ad 54 0 0)]) (congrArg (fun z => [Value.ref z, .ref (ad 54 0 0)]) hself) ?_
        refine v_callV hC lk_X6_190 dX6_isBuilt_57 (c_alist_add (ok := (okA (mxK ok nk) 56 b 0)) (ad := (adA (mxA ad na) 56 b 0 a)) (σ := up (upr (mxS σ τ) 56 b 0 row) 30 0 0 5 (b + 1)) hl0 hQ2 hB2 hArr2 hKM1 hk56 h262 (by omega) hed) (by decide) (by decide) hQ2.k54 rfl rfl rfl rfl (Nat.le_of_ble_eq_true rfl) (by omega) (by omega) (fun w μ h => ?_) (fun _ _ h => h.elim)
        obtain ⟨rfl, nk2, na2, τ2, rfl, g1, g2, g3⟩ := h
        dsimp only
        refine v_pop hC dX6_isBuilt_60 rfl ?_
        refine v_aload_n hC dX6_isBuilt_61 rfl ?_
        refine v_iconst (v := nI 1) hC dX6_isBuilt_62 (by decide) ?_
        refine v_stk (st' := [iv 1, .ref (m5A (adA (mxA ad na) 56 b 0 a) na2 56 b 0)]) (congrArg (fun z => [iv 1, Value.ref z]) hself) ?_
        refine v_iald (f := fun y => nI (row y)) (N := row 30) (ad := m5A (adA (mxA ad na) 56 b 0 a) na2) hC dX6_isBuilt_63 (show m5K (okA (mxK ok nk) 56 b 0) nk2 56 b 0 from hk56) (by show enck _ _ 56 b 0 (up (upr (mxS σ τ) 56 b 0 row) 30 0 0 5 (b + 1) 56 b 0) = _; rw [up_off _ _ _ (by rintro ⟨q, -, -⟩; exact absurd q (by decide)), upr_row]; rfl) (x := 1) (by omega) (by omega) ?_
        rw [hr1]
        have hs2 : m5S (up (upr (mxS σ τ) 56 b 0 row) 30 0 0 5 (b + 1)) τ2 = mxS σ (m5S (up (upr (mxS σ τ) 56 b 0 row) 30 0 0 5 (b + 1)) τ2) := mxS_of (fun k i j x q => by
          simp only [kM, Bool.or_eq_false_iff, Bool.and_eq_false_iff, beq_eq_false_iff_ne] at q
          obtain ⟨⟨⟨q1, q2⟩, q3⟩, q4⟩ := q
          have hx : ¬ (k = 30 ∧ i = 0 ∧ j = 0 ∧ x = 5) := by rintro ⟨rfl, -, -, rfl⟩; omega
          show (bif (k == 54 || k == 55) then _ else _) = _
          rw [show (k == 54 || k == 55) = false by simp [q1, q2]]
          show (if k = 30 ∧ i = 0 ∧ j = 0 ∧ x = 5 then _ else upr (mxS σ τ) 56 b 0 row k i j x) = _
          rw [if_neg hx, upr_k q3]
          show (bif kM k x then _ else _) = _
          rw [show kM k x = false by simp only [kM, Bool.or_eq_false_iff, Bool.and_eq_false_iff, beq_eq_false_iff_ne]; exact ⟨⟨⟨q1, q2⟩, q3⟩, q4⟩]
          rfl)
        have hk2 : m5K (okA (mxK ok nk) 56 b 0) nk2 = mxK ok (m5K (okA (mxK ok nk) 56 b 0) nk2) := mxK_of (fun k i j q => by
          simp only [dM, Bool.or_eq_false_iff, beq_eq_false_iff_ne] at q
          show (bif k == 55 then _ else _) ↔ _
          rw [show (k == 55) = false by simp [q.1]]
          show (mxK ok nk k i j ∨ _) ↔ _
          show ((bif dM k then _ else _) ∨ _) ↔ _
          rw [show dM k = false by simp [dM, q.1, q.2]]
          exact ⟨fun z => z.elim id (fun z => absurd z.1 q.2), .inl⟩)
        have ha2 : m5A (adA (mxA ad na) 56 b 0 a) na2 = mxA ad (m5A (adA (mxA ad na) 56 b 0 a) na2) := mxA_of (fun k i j q => by
          simp only [dM, Bool.or_eq_false_iff, beq_eq_false_iff_ne] at q
          show (bif k == 55 then _ else _) = _
          rw [show (k == 55) = false by simp [q.1]]
          show adA (mxA ad na) 56 b 0 a k i j = _
          rw [adA_off _ a (by rintro ⟨z, -, -⟩; exact q.2 z)]
          show (bif dM k then _ else _) = _
          rw [show dM k = false by simp [dM, q.1, q.2]]
          rfl)
        rw [hs2] at g1 g2
        rw [hk2] at g2 g3
        rw [ha2] at g2
        rw [hs2, hk2, ha2]
        refine v_wide (kc1 := 3 * (4 - r)) (ks1 := 30 * (4 - r) + 4 * (capS Kd.length ed - e)) (by omega) (by omega) ?_
        refine v_sub (l1 := [(0, .ref (ad 30 0 0)), (1, .ref (ad 62 0 0)), (2, iv d), (3, .ref a)]) rfl ?_
        refine cont _ _ _ (addK Kd (mev σ v d)) (capS Kd.length ed) 0 (3 * (4 - r)) (30 * (4 - r) + 4 * (capS Kd.length ed - e)) (Nat.le_refl _) (Nat.le_refl _) rfl (by rw [if_neg hin]) g1 ?_ ?_ ?_ ?_ ?_
        · unfold addK
          rw [if_neg hin, ← hc2]
          exact g2
        · exact g3
        · rw [hlen]
          exact hcn3
        · rw [if_neg hin]
          rfl
        · rfl
  have k0 := key 4 (by omega) ok ad σ K e 0 ⟨by rw [mxS_id]; exact hB, by rw [mxK_id, mxA_id, mxS_id]; exact hArr, by rw [mxK_id]; exact hKM, by rw [Nat.sub_self]; rfl, ⟨Nat.le_refl _, by omega⟩, by omega, rfl, by omega, rfl⟩
  rw [mxK_id, mxA_id, mxS_id, Nat.sub_self, Nat.sub_self] at k0
  refine v_iconst (v := nI 0) hC dX6_isBuilt_0 (by decide) ?_
  refine v_istore_n hC dX6_isBuilt_1 (by decide) ?_
  exact v_sub rfl k0

