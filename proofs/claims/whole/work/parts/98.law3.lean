set_option maxHeartbeats 4000000 in
set_option maxRecDepth 100000 in
theorem case_takenShare {X : XT} {G : GT} {mc ms K0 S0 p N : Nat} {sc : Nat → Int32} {ok : KF} {ad : AD} {σ : SG} {A : AS} {e i : Nat} (hl0 : (xl X).stackTraces = false) (hC : Cx X G "BranchyardLaw" cL_law 9 16 mc ms) (hN : NC (xs X)) (hP : Scr G (xs X) p N sc) (hNl : N ≤ 3072) (hI : INV G ok ad σ A e i) (hj : 6 * i + 6 ≤ N) (h1 : K0 + 200 * (i + 1) ≤ mc) (h2 : S0 + 3000 * (i + 1) + 4 * 4700 ≤ ms)
    (nx : ∀ ok' ad' σ' A' e', INV G ok' ad' σ' A' e' (i + 1) → ad' 0 0 0 = ad 0 0 0 → ad' 30 0 0 = ad 30 0 0 → ad' 60 0 0 = ad 60 0 0 → ad' 61 0 0 = ad 61 0 0 → V X G (K0 + 200 * (i + 1)) (S0 + 3000 * (i + 1) + 4 * e') ok' ad' σ' [(0, .ref p), (1, .ref (ad 0 0 0)), (2, .ref (ad 30 0 0)), (3, .ref (ad 60 0 0)), (4, .ref (ad 61 0 0)), (5, iv (6 * i))] 2247 []) : V X G (K0 + 200 * i) (S0 + 3000 * i + 4 * e) ok ad σ [(0, .ref p), (1, .ref (ad 0 0 0)), (2, .ref (ad 30 0 0)), (3, .ref (ad 60 0 0)), (4, .ref (ad 61 0 0)), (5, iv (6 * i))] 2103 [] := by
  obtain ⟨hR, ⟨hCK, hVK⟩, ⟨hArr, hKM⟩, ⟨h60, h61, n57, n58, n62, hO, hQ⟩, c5, c1, c6, cK, cq, ct, ce⟩ := id hI
  have hB := hR.1
  have b3 : σ 16 0 0 3 < 100000 := hB 16 0 0 3 rfl
  have b2 : σ 16 0 0 2 < 4000 := hB 16 0 0 2 rfl
  have hlt : σ 16 0 0 3 + σ 16 0 0 2 < 2 ^ 24 := by omega
  refine v_aload_n hC dL_law_2103 rfl ?_
  refine v_aload hC dL_law_2104 rfl ?_
  refine v_callSN hC hN lkw_takenShare dL_law_2106 (w_takenShare hl0 (c_X5_takenShare hl0 hO hB) hO.k0 (fun v μ h => by obtain ⟨hne, rfl, rfl⟩ := h; exact ⟨⟨_, rfl, f2d_n (fdiv_nn hne hlt)⟩, h61, rfl⟩) (fun E μ h => h.1)) (by omega) (by decide) rfl rfl (Nat.le_of_ble_eq_true rfl) (by omega) (by omega) (fun v μ h => ?_)
  rcases h with ⟨E, ⟨-, hz, rfl⟩, rfl⟩ | ⟨v0, z, μ0, ⟨hne, rfl, rfl⟩, hz, rfl, rfl⟩
  · dsimp only
    refine v_istore hC dL_law_2109 (by decide) ?_
    refine v_aload_n hC dL_law_2111 rfl ?_
    refine v_callV hC lk_L_237 dL_law_2112 (c_X6_takenShare hl0 hQ hB) (by omega) (by decide) hQ.k30 rfl rfl rfl rfl (Nat.le_of_ble_eq_true rfl) (by omega) (by omega) (fun v μ h => ?_) (fun _ _ h => h.elim)
    rw [show th σ 0 30 0 0 6 = σ 16 0 0 3 from c6, show th σ 0 30 0 0 5 = σ 16 0 0 2 from c5] at h
    rcases h with ⟨-, rfl, rfl⟩ | ⟨q, rfl, rfl⟩
    rotate_left
    · exact absurd hz q
    dsimp only
    have g2 := hI.same (σ' := th (th σ 0) 1) (th_BD (th_BD hB (by decide)) (by decide)) (fun k i j x q1 q2 => by rw [th_c q2, th_c q2])
    refine v_fstore hC dL_law_2115 (by decide) ?_
    refine v_aload_n hC dL_law_2117 rfl ?_
    refine v_callV_r0 hC lk_L_134 dL_law_2118 (c_X6_thrown hl0 hQ g2.1.1) (by omega) (by decide) hQ.k30 rfl rfl rfl rfl (Nat.le_of_ble_eq_true rfl) (by omega) (by omega) ?_
    rw [show th (th σ 0) 1 30 0 0 0 = 1 from up_same _ _ _ _ _ _]
    refine v_iload hC dL_law_2121 rfl ?_
    refine v_icmp_eq (tgt := 2128) hC dL_law_2123 (by decide) (fun _ => ?_) (fun q => absurd rfl q)
    refine v_iload hC dL_law_2128 rfl ?_
    refine v_if_neN (tgt := 2166) hC dL_law_2130 (by decide) (by decide) (fun _ => ?_) (fun q => absurd q (by decide))
    refine v_goto (tgt := 2247) hC dL_law_2166 (by decide) ?_
    exact v_wide (by omega) (by omega) (v_sub rfl (nx _ _ _ _ _ g2 rfl rfl rfl rfl))
  · dsimp only
    obtain ⟨x, hx⟩ : ∃ x, x = FP.fdiv (FP.l2f (lN (σ 16 0 0 3))) (FP.l2f (lN (σ 16 0 0 3 + σ 16 0 0 2))) := ⟨_, rfl⟩
    rw [← hx] at hz
    have hzx : FP.f2d x = z := Option.some.inj hz
    have hn1 : vf_n64 (FP.f2d x) := by rw [hx]; exact f2d_n (fdiv_nn hne hlt)
    have hn2 := f2d_nn (x := x) (by rw [hx]; exact fdiv_nn hne hlt)
    have hBw : BD (up σ 61 0 0 0 z.toNat) := BD.put hB (UInt64.toNat_lt z)
    refine v_istore hC dL_law_2109 (by decide) ?_
    refine v_aload_n hC dL_law_2111 rfl ?_
    refine v_callV hC lk_L_237 dL_law_2112 (c_X6_takenShare (σ := up σ 61 0 0 0 z.toNat) hl0 hQ hBw) (by omega) (by decide) hQ.k30 rfl rfl rfl rfl (Nat.le_of_ble_eq_true rfl) (by omega) (by omega) (fun v μ h => ?_) (fun _ _ h => h.elim)
    rw [show th (up σ 61 0 0 0 z.toNat) 0 30 0 0 6 = σ 16 0 0 3 from c6, show th (up σ 61 0 0 0 z.toNat) 0 30 0 0 5 = σ 16 0 0 2 from c5, ← hx] at h
    rcases h with ⟨q, rfl, rfl⟩ | ⟨-, rfl, rfl⟩
    · exact absurd q hne
    dsimp only
    have g2 := hI.same (σ' := th (up σ 61 0 0 0 z.toNat) 0) (th_BD hBw (by decide)) (fun k i j x q1 q2 => by rw [th_c q2, up_k (by omega)])
    refine v_fstore hC dL_law_2115 (by decide) ?_
    refine v_aload_n hC dL_law_2117 rfl ?_
    refine v_callV_r0 hC lk_L_134 dL_law_2118 (c_X6_thrown hl0 hQ g2.1.1) (by omega) (by decide) hQ.k30 rfl rfl rfl rfl (Nat.le_of_ble_eq_true rfl) (by omega) (by omega) ?_
    rw [show th (up σ 61 0 0 0 z.toNat) 0 30 0 0 0 = 0 from up_same _ _ _ _ _ _]
    refine v_iload hC dL_law_2121 rfl ?_
    refine v_icmp_eq (tgt := 2128) hC dL_law_2123 (by decide) (fun _ => ?_) (fun q => absurd rfl q)
    refine v_iload hC dL_law_2128 rfl ?_
    refine v_if_neN (tgt := 2166) hC dL_law_2130 (by decide) (by decide) (fun q => absurd rfl q) (fun _ => ?_)
    refine v_aload hC dL_law_2133 rfl ?_
    refine v_iconst (v := nI 0) hC dL_law_2135 (by decide) ?_
    refine al_61 hC dL_law_2136 h61 (by decide) ?_
    rw [show UInt64.ofNat (th (up σ 61 0 0 0 z.toNat) 0 61 0 0 0) = FP.f2d x from (by show UInt64.ofNat (up σ 61 0 0 0 z.toNat 61 0 0 0) = _; rw [up_same, u64_n, hzx])]
    refine v_fload hC dL_law_2137 rfl ?_
    refine v_f2d hC dL_law_2139 hn1 ?_
    refine v_dcmp hC dL_law_2140 ?_
    rw [dcmp_self hn2]
    refine v_if_eq (tgt := 2166) hC dL_law_2141 (by decide) (fun _ => ?_) (fun q => absurd rfl q)
    refine v_goto (tgt := 2247) hC dL_law_2166 (by decide) ?_
    exact v_wide (by omega) (by omega) (v_sub rfl (nx _ _ _ _ _ g2 rfl rfl rfl rfl))
set_option maxHeartbeats 4000000 in
set_option maxRecDepth 100000 in
theorem case_meanEdits {X : XT} {G : GT} {mc ms K0 S0 p N : Nat} {sc : Nat → Int32} {ok : KF} {ad : AD} {σ : SG} {A : AS} {e i : Nat} (hl0 : (xl X).stackTraces = false) (hC : Cx X G "BranchyardLaw" cL_law 9 16 mc ms) (hN : NC (xs X)) (hP : Scr G (xs X) p N sc) (hNl : N ≤ 3072) (hI : INV G ok ad σ A e i) (hj : 6 * i + 6 ≤ N) (h1 : K0 + 200 * (i + 1) ≤ mc) (h2 : S0 + 3000 * (i + 1) + 4 * 4700 ≤ ms)
    (nx : ∀ ok' ad' σ' A' e', INV G ok' ad' σ' A' e' (i + 1) → ad' 0 0 0 = ad 0 0 0 → ad' 30 0 0 = ad 30 0 0 → ad' 60 0 0 = ad 60 0 0 → ad' 61 0 0 = ad 61 0 0 → V X G (K0 + 200 * (i + 1)) (S0 + 3000 * (i + 1) + 4 * e') ok' ad' σ' [(0, .ref p), (1, .ref (ad 0 0 0)), (2, .ref (ad 30 0 0)), (3, .ref (ad 60 0 0)), (4, .ref (ad 61 0 0)), (5, iv (6 * i))] 2247 []) : V X G (K0 + 200 * i) (S0 + 3000 * i + 4 * e) ok ad σ [(0, .ref p), (1, .ref (ad 0 0 0)), (2, .ref (ad 30 0 0)), (3, .ref (ad 60 0 0)), (4, .ref (ad 61 0 0)), (5, iv (6 * i))] 2169 [] := by
  obtain ⟨hR, ⟨hCK, hVK⟩, ⟨hArr, hKM⟩, ⟨h60, h61, n57, n58, n62, hO, hQ⟩, c5, c1, c6, cK, cq, ct, ce⟩ := id hI
  have hB := hR.1
  have hlt : σ 12 1 0 0 < 17 := hB 12 1 0 0 rfl
  refine v_aload_n hC dL_law_2169 rfl ?_
  refine v_aload hC dL_law_2170 rfl ?_
  refine v_callSN hC hN lkw_meanEdits dL_law_2172 (w_meanEdits hl0 (c_X5_meanEdits hl0 hO hB) hO.k0 (fun v μ h => by obtain ⟨hne, rfl, rfl⟩ := h; exact ⟨⟨_, rfl⟩, h61, rfl⟩) (fun E μ h => h.1)) (by omega) (by decide) rfl rfl (Nat.le_of_ble_eq_true rfl) (by omega) (by omega) (fun v μ h => ?_)
  rcases h with ⟨E, ⟨-, hz, rfl⟩, rfl⟩ | ⟨v0, z, μ0, ⟨hne, rfl, rfl⟩, hz, rfl, rfl⟩
  · dsimp only
    refine v_istore hC dL_law_2175 (by decide) ?_
    refine v_aload_n hC dL_law_2177 rfl ?_
    refine v_callV hC lk_L_240 dL_law_2178 (c_X6_meanEdits hl0 hQ hB) (by omega) (by decide) hQ.k30 rfl rfl rfl rfl (Nat.le_of_ble_eq_true rfl) (by omega) (by omega) (fun v μ h => ?_) (fun _ _ h => h.elim)
    have hm := mme_sme (hR.tm (τ' := th σ 0) (th_BD hB (by decide)) (fun k i j x q1 q2 q3 => th_c (by omega)))
    rw [hm.1, hm.2] at h
    rcases h with ⟨-, rfl, rfl⟩ | ⟨q, rfl, rfl⟩
    rotate_left
    · exact absurd hz q
    dsimp only
    have g2 := hI.same (σ' := th (th σ 0) 1) (th_BD (th_BD hB (by decide)) (by decide)) (fun k i j x q1 q2 => by rw [th_c q2, th_c q2])
    refine v_dstore hC dL_law_2181 (by decide) ?_
    refine v_aload_n hC dL_law_2183 rfl ?_
    refine v_callV_r0 hC lk_L_134 dL_law_2184 (c_X6_thrown hl0 hQ g2.1.1) (by omega) (by decide) hQ.k30 rfl rfl rfl rfl (Nat.le_of_ble_eq_true rfl) (by omega) (by omega) ?_
    rw [show th (th σ 0) 1 30 0 0 0 = 1 from up_same _ _ _ _ _ _]
    refine v_iload hC dL_law_2187 rfl ?_
    refine v_icmp_eq (tgt := 2194) hC dL_law_2189 (by decide) (fun _ => ?_) (fun q => absurd rfl q)
    refine v_iload hC dL_law_2194 rfl ?_
    refine v_if_neN (tgt := 2231) hC dL_law_2196 (by decide) (by decide) (fun _ => ?_) (fun q => absurd q (by decide))
    refine v_goto (tgt := 2247) hC dL_law_2231 (by decide) ?_
    exact v_wide (by omega) (by omega) (v_sub rfl (nx _ _ _ _ _ g2 rfl rfl rfl rfl))
  · dsimp only
    obtain ⟨x, hx⟩ : ∃ x, x = FP.ddiv (FP.i2d (nI (sme σ (σ 12 1 0 0)))) (FP.i2d (nI (σ 12 1 0 0))) := ⟨_, rfl⟩
    rw [← hx] at hz
    have hzx : x = z := Option.some.inj hz
    have hn2 : FP.Core.decode FP.Core.b64 x.toNat ≠ .nan := by rw [hx]; exact ddiv_nn hne hlt
    have hBw : BD (up σ 61 0 0 0 z.toNat) := BD.put hB (UInt64.toNat_lt z)
    refine v_istore hC dL_law_2175 (by decide) ?_
    refine v_aload_n hC dL_law_2177 rfl ?_
    refine v_callV hC lk_L_240 dL_law_2178 (c_X6_meanEdits (σ := up σ 61 0 0 0 z.toNat) hl0 hQ hBw) (by omega) (by decide) hQ.k30 rfl rfl rfl rfl (Nat.le_of_ble_eq_true rfl) (by omega) (by omega) (fun v μ h => ?_) (fun _ _ h => h.elim)
    have hm := mme_sme (hR.tm (τ' := th (up σ 61 0 0 0 z.toNat) 0) (th_BD hBw (by decide)) (fun k i j x q1 q2 q3 => by rw [th_c (by omega), up_k (by omega)]))
    rw [hm.1, hm.2, ← hx] at h
    rcases h with ⟨q, rfl, rfl⟩ | ⟨-, rfl, rfl⟩
    · exact absurd q hne
    dsimp only
    have g2 := hI.same (σ' := th (up σ 61 0 0 0 z.toNat) 0) (th_BD hBw (by decide)) (fun k i j x q1 q2 => by rw [th_c q2, up_k (by omega)])
    refine v_dstore hC dL_law_2181 (by decide) ?_
    refine v_aload_n hC dL_law_2183 rfl ?_
    refine v_callV_r0 hC lk_L_134 dL_law_2184 (c_X6_thrown hl0 hQ g2.1.1) (by omega) (by decide) hQ.k30 rfl rfl rfl rfl (Nat.le_of_ble_eq_true rfl) (by omega) (by omega) ?_
    rw [show th (up σ 61 0 0 0 z.toNat) 0 30 0 0 0 = 0 from up_same _ _ _ _ _ _]
    refine v_iload hC dL_law_2187 rfl ?_
    refine v_icmp_eq (tgt := 2194) hC dL_law_2189 (by decide) (fun _ => ?_) (fun q => absurd rfl q)
    refine v_iload hC dL_law_2194 rfl ?_
    refine v_if_neN (tgt := 2231) hC dL_law_2196 (by decide) (by decide) (fun q => absurd rfl q) (fun _ => ?_)
    refine v_aload hC dL_law_2199 rfl ?_
    refine v_iconst (v := nI 0) hC dL_law_2201 (by decide) ?_
    refine al_61 hC dL_law_2202 h61 (by decide) ?_
    rw [show UInt64.ofNat (th (up σ 61 0 0 0 z.toNat) 0 61 0 0 0) = x from (by show UInt64.ofNat (up σ 61 0 0 0 z.toNat 61 0 0 0) = _; rw [up_same, u64_n, hzx])]
    refine v_dload hC dL_law_2203 rfl ?_
    refine v_dcmp hC dL_law_2205 ?_
    rw [dcmp_self hn2]
    refine v_if_eq (tgt := 2231) hC dL_law_2206 (by decide) (fun _ => ?_) (fun q => absurd rfl q)
    refine v_goto (tgt := 2247) hC dL_law_2231 (by decide) ?_
    exact v_wide (by omega) (by omega) (v_sub rfl (nx _ _ _ _ _ g2 rfl rfl rfl rfl))
