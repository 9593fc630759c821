/-! ===== the law's own walk to its loop ===== -/
theorem ar_D : Cond.arrayClass FieldType.double ∈ lw_good := gd_at 1401 (by decide +kernel) (by decide +kernel)
theorem ZS_bd : BD ZS := fun k i j x hp => by
  by_cases c : k = 41 ∨ k = 48
  · show (if k = 41 ∨ k = 48 then 1 else 0) < _
    rw [if_pos c]
    rcases c with rfl | rfl <;> exact Nat.le_of_ble_eq_true rfl
  · show (if k = 41 ∨ k = 48 then 1 else 0) < _
    rw [if_neg c]
    unfold bnd
    split <;> first | decide | (split <;> decide)
theorem Z2_bd (c : Nat) : BD (Z2 c) := fun k i j x hp => by
  by_cases c1 : k = 37 ∧ i = 0 ∧ j = 0 ∧ x < 4
  · obtain ⟨rfl, rfl, rfl, h⟩ := c1
    show (if _ then _ else _) < _
    rw [if_pos ⟨rfl, rfl, rfl, h⟩]
    exact Nat.le_of_ble_eq_true rfl
  by_cases c2 : k = 54 ∧ x = 1
  · obtain ⟨rfl, rfl⟩ := c2
    cases hp
  by_cases c3 : k = 2 ∧ i = 0 ∧ j = 0 ∧ x < 4
  · obtain ⟨rfl, rfl, rfl, h⟩ := c3
    have e : Z2 c 2 0 0 x = 1 := by
      unfold Z2 Z1
      rw [if_neg c1, if_neg c2, if_pos ⟨rfl, rfl, rfl, h⟩]
    rw [e]
    exact Nat.le_of_ble_eq_true rfl
  by_cases c4 : k = 6 ∧ x = 1
  · obtain ⟨rfl, rfl⟩ := c4
    have e : Z2 c 6 i j 1 = 111 := by
      unfold Z2 Z1
      rw [if_neg c1, if_neg c2, if_neg c3, if_pos ⟨rfl, rfl⟩]
    rw [e]
    decide
  have e : Z2 c k i j x = ZS k i j x := by
    unfold Z2 Z1
    rw [if_neg c1, if_neg c2, if_neg c3, if_neg c4]
  rw [e]
  exact ZS_bd k i j x hp
theorem Z2_0 {c k i j x : Nat} (h : k ≠ 37 ∧ k ≠ 54 ∧ k ≠ 2 ∧ k ≠ 6 ∧ k ≠ 41 ∧ k ≠ 48) : Z2 c k i j x = 0 := by
  unfold Z2 Z1 ZS
  rw [if_neg (by omega), if_neg (by omega), if_neg (by omega), if_neg (by omega), if_neg (by omega)]
set_option maxHeartbeats 4000000 in
theorem law_start {G : GT} {ad : AD} : INV G (okA (okA KM6 60 0 0) 61 0 0) ad (Z2 (G.2.2.2 0)) A00 0 0 := by
  have hC : OKC (okA (okA KM6 60 0 0) 61 0 0) := fun k i j h => .inl (.inl (.inl h))
  have hM : OKM (okA (okA KM6 60 0 0) 61 0 0) := fun k i j h => .inl (.inl (.inr h))
  have hk : ∀ k i j, okA (okA KM6 60 0 0) 61 0 0 k i j → (k < 21 ∨ (30 ≤ k ∧ k < 55) ∨ k = 60 ∨ k = 61) := fun k i j q => by
    rcases q with ((q | q) | q) | q
    · exact .inl (okc_lt q)
    · exact .inr (.inl (okm_rg q))
    · exact .inr (.inr (.inl q.1))
    · exact .inr (.inr (.inr q.1))
  have no : ∀ k i j, ¬ (k < 21 ∨ (30 ≤ k ∧ k < 55) ∨ k = 60 ∨ k = 61) → ¬ okA (okA KM6 60 0 0) 61 0 0 k i j := fun k i j h q => h (hk k i j q)
  refine INV_start (Z2_bd _) (Z2_0 (by decide)) (Z2_0 (by decide)) (Z2_0 (by decide)) (fun x hx => Z2_0 (by decide)) (fun c hc => ⟨?_, ?_, ?_, ?_, fun p hp => Z2_0 (by decide)⟩) (Z2_0 (by decide)) (Z2_0 (by decide)) (Z2_0 (by decide)) (Z2_0 (by decide)) (Z2_0 (by decide)) (Z2_0 (by decide)) (fun x hx => ⟨Z2_0 (by decide), Z2_0 (by decide)⟩) (fun c hc => ⟨Z2_0 (by decide), fun x hx => Z2_0 (by decide)⟩)
    (fun d hd => ⟨?_, ?_, ?_⟩) (fun p hp => ?_) (fun t ht => Z2_0 (by decide)) (fun d hd => Z2_0 (by decide)) ⟨fun k i j q => ?_, fun i j q => ?_, fun i j q => ?_⟩ ⟨fun k i j q => ?_, fun i j q => ?_, fun i j q => ?_⟩ ?_ ?_ ⟨.inl (.inr ⟨rfl, rfl, rfl⟩), .inr ⟨rfl, rfl, rfl⟩, no _ _ _ (by decide), no _ _ _ (by decide), no _ _ _ (by decide), hC, hM⟩
  · unfold Z2 Z1
    rw [if_neg (by omega), if_neg (by omega), if_neg (by omega), if_pos ⟨rfl, rfl⟩]
  · unfold Z2 Z1 ZS
    rw [if_neg (by omega), if_neg (by omega), if_neg (by omega), if_neg (by omega), if_neg (by omega)]
  · unfold Z2 Z1 ZS
    rw [if_neg (by omega), if_neg (by omega), if_neg (by omega), if_neg (by omega), if_neg (by omega)]
  · unfold Z2 Z1 ZS
    rw [if_neg (by omega), if_neg (by omega), if_neg (by omega), if_neg (by omega), if_neg (by omega)]
  · rw [Z2_0 (by decide), Z2_0 (by decide)]
  · have e1 : Z2 (G.2.2.2 0) 37 0 0 d = 1 := by
      unfold Z2
      rw [if_pos ⟨rfl, rfl, rfl, hd⟩]
    have e2 : Z2 (G.2.2.2 0) 2 0 0 d = 1 := by
      unfold Z2 Z1
      rw [if_neg (by omega), if_neg (by omega), if_pos ⟨rfl, rfl, rfl, hd⟩]
    rw [e1, e2]
  · rw [Z2_0 (by decide), Z2_0 (by decide)]
  · rw [Z2_0 (by decide), Z2_0 (by decide)]
  · have := hk _ _ _ q
    omega
  · exact absurd q (no _ _ _ (by decide))
  · rcases q with q | q
    · exact absurd q (no _ _ _ (by decide))
    · exact absurd q (no _ _ _ (by decide))
  · have := hk _ _ _ q
    omega
  · exact absurd q (no _ _ _ (by decide))
  · exact absurd q (no _ _ _ (by decide))
  · unfold Z2 Z1 ZS
    rw [if_neg (by omega), if_neg (by omega), if_neg (by omega), if_neg (by omega), if_neg (by omega)]
  · unfold Z2
    rw [if_neg (by omega), if_pos ⟨rfl, rfl⟩]
set_option maxHeartbeats 4000000 in
set_option maxRecDepth 100000 in
theorem law_walk {X : XT} {G : GT} {nm : String} {Pv : Option Value → MT → Prop} {Px : String → MT → Prop} {mc ms p N : Nat} {sc : Nat → Int32} {ad : AD} (hl0 : (xl X).stackTraces = false) (hC : Cx X G "BranchyardLaw" cL_law 9 16 mc ms) (hN : NC (xs X)) (hP : Scr G (xs X) p N sc) (hNl : N ≤ 3072) (hM : Mx X G nm (some .boolean) Pv Px mc ms) (hPv : ∀ μ, Pv (some (iv 1)) μ) (h1 : 387 + 200 * 512 ≤ mc) (h2 : 16598 + 3000 * 512 + 4 * 4700 ≤ ms) : V X G 0 0 (fun _ _ _ => False) ad ZS [(0, .ref p)] 0 [] := by
  refine nw_L_8 (i0 := 0) (j0 := 0) hC dL_law_0 (fun h => h) (by omega) (by omega) (fun a => ?_)
  rw [upr_sm (show ZS 90 0 0 = fun _ => 0 from rfl)]
  refine v_less (ok' := K90) (fun k i j h => .inr h) ?_
  obtain ⟨ad1, had1⟩ : ∃ ad1, ad1 = adA ad 90 0 0 a := ⟨_, rfl⟩
  have e1 : ad1 90 0 0 = a := by rw [had1]; exact adA_self _ _ _ _ _
  rw [← had1, ← e1]
  refine v_dup hC dL_law_3 rfl ?_
  refine v_callI hC lk_L_124 dL_law_4 (c_X5_init (ad := ad1) hl0 ⟨rfl, rfl, rfl⟩) (by decide) (by decide) rfl rfl (Nat.le_of_ble_eq_true rfl) (by omega) (by omega) (fun v μ h => ?_) (fun _ _ h => h.elim)
  obtain ⟨rfl, ad2, rfl, e2⟩ := h
  refine v_stk (st' := [.ref (ad2 0 0 0)]) (by rw [e2]; rfl) ?_
  refine v_astore_n hC dL_law_7 (by decide) ?_
  refine nw_L_125 (i0 := 0) (j0 := 0) hC dL_law_8 (fun h => by cases h) (by omega) (by omega) (fun b => ?_)
  rw [upr_sm (show Z1 96 0 0 = fun _ => 0 from rfl)]
  refine v_less (ok' := K6) (fun k i j h => h) ?_
  obtain ⟨ad3, had3⟩ : ∃ ad3, ad3 = adA ad2 96 0 0 b := ⟨_, rfl⟩
  have e3 : ad3 96 0 0 = b := by rw [had3]; exact adA_self _ _ _ _ _
  have e30 : ad3 0 0 0 = ad2 0 0 0 := by rw [had3]; rfl
  rw [← had3, ← e3]
  refine v_dup hC dL_law_11 rfl ?_
  refine v_callI hC lk_L_127 dL_law_12 (c_X6_init (ad := ad3) hl0 (.inr ⟨rfl, rfl, rfl⟩)) (by decide) (by decide) rfl rfl (Nat.le_of_ble_eq_true rfl) (by omega) (by omega) (fun v μ h => ?_) (fun _ _ h => h.elim)
  obtain ⟨rfl, ad4, rfl, e4, e5⟩ := h
  have e40 : ad4 0 0 0 = ad2 0 0 0 := (e5 0 0 0 rfl).trans e30
  refine v_stk (st' := [.ref (ad4 30 0 0)]) (by rw [e4]; rfl) ?_
  refine v_astore_n hC dL_law_15 (by decide) ?_
  refine v_iconst (v := nI 1) hC dL_law_16 (by decide) ?_
  have hn60 : ∀ k, 55 ≤ k → ¬ KM6 k 0 0 := fun k hk q => by
    rcases q with q | q
    · have := okc_lt q; omega
    · have := okm_rg q; omega
  refine v_newa (atype := .long) (ty := .long) (N := 1) (a0 := (1, .inr (.inl fun _ => lN 0))) (σ1 := Z2 (G.2.2.2 0)) 3 60 0 0 hC dL_law_17 rfl ar_J rfl rfl (by decide) (by decide) (by omega) (by omega) (hn60 60 (by decide)) (fun a k' i' j' _ s => enck_dyn (.inr (.inr (.inr (by decide)))) k' i' j' s) (fun _ _ _ _ => rfl) (fun a => rfl) rfl (fun a6 => ?_)
  refine v_astore_n hC dL_law_19 (by decide) ?_
  refine v_iconst (v := nI 1) hC dL_law_20 (by decide) ?_
  refine v_newa (atype := .double) (ty := .double) (N := 1) (a0 := (1, .inr (.inr (.inr (.inl fun _ => UInt64.ofNat 0))))) (σ1 := Z2 (G.2.2.2 0)) 4 61 0 0 hC dL_law_21 rfl ar_D rfl rfl (by decide) (by decide) (by omega) (by omega) (fun q => by rcases q with q | q; exact hn60 61 (by decide) q; exact absurd q.1 (by decide)) (fun a k' i' j' _ s => enck_dyn (.inr (.inr (.inr (by decide)))) k' i' j' s) (fun _ _ _ _ => rfl) (fun a => rfl) rfl (fun a7 => ?_)
  refine v_astore hC dL_law_23 (by decide) ?_
  refine v_iconst (v := nI 0) hC dL_law_25 (by decide) ?_
  refine v_istore hC dL_law_26 (by decide) ?_
  obtain ⟨ad5, had5⟩ : ∃ ad5, ad5 = adA (adA ad4 60 0 0 a6) 61 0 0 a7 := ⟨_, rfl⟩
  have f60 : ad5 60 0 0 = a6 := by rw [had5]; rfl
  have f61 : ad5 61 0 0 = a7 := by rw [had5]; rfl
  have f0 : ad5 0 0 0 = ad2 0 0 0 := by rw [← e40, had5]; rfl
  have f30 : ad5 30 0 0 = ad4 30 0 0 := by rw [had5]; rfl
  rw [← had5]
  have L := law_loop (K0 := 387) (S0 := 16598) hl0 hC hN hP hNl hM hPv h1 h2 (N / 6) 0 (by omega) (law_start (ad := ad5) (G := G))
  rw [f60, f61, f0, f30] at L
  exact v_rm (by omega) (by omega) (v_sub rfl L)
