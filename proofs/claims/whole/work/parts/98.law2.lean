theorem ro_stepE {σ : SG} {A : AS} {E : String} (h : (ro_step σ A).1 = .inl E) : E = eNSE := by
  unfold ro_step at h
  by_cases q : pck σ (aQ A) = []
  · rw [if_pos q] at h; cases h; rfl
  · rw [if_neg q] at h; cases h
theorem ro_revertE {σ : SG} {A : AS} {c : Int32} {E : String} (h : (ro_revert σ A c).1 = .inl E) : E = eNSE ∨ E = eISE ∨ E = eUOE := by
  unfold ro_revert at h
  cases e : inR c (σ 0 0 0 0) with
  | none => rw [e] at h; cases h; exact .inl rfl
  | some n =>
    rw [e] at h
    dsimp only at h
    by_cases q : aS A n ≠ 109
    · rw [if_pos q] at h; cases h; exact .inr (.inl rfl)
    · rw [if_neg q] at h
      by_cases g : (sbl σ (rvT σ (gnl σ n (aM A)) (aM A)) 4 (aK A)).1 = true
      · rw [if_pos g] at h; cases h
      · rw [if_neg g] at h; cases h; exact .inr (.inr rfl)
theorem cdR_step {E : String} (h : E = eNSE) : cdR E = cd_step E := by subst h; decide
theorem cdR_revert {E : String} (h : E = eNSE ∨ E = eISE ∨ E = eUOE) : cdR E = cd_revert E := by rcases h with rfl | rfl | rfl <;> decide
theorem rv_q {σ : SG} {A : AS} (c : Int32) : aQ (ro_revert σ A c).2.1 = aQ A := by
  unfold ro_revert
  cases inR c (σ 0 0 0 0) with
  | none => rfl
  | some n =>
    dsimp only
    split
    · rfl
    split <;> rfl
theorem cdl_step (E : String) : cd_step E < 5 ∧ cd_step E ≠ 0 := by
  unfold cd_step
  first | (constructor <;> decide) | (repeat' split) <;> (constructor <;> decide)
theorem cdl_revert (E : String) : cd_revert E < 5 ∧ cd_revert E ≠ 0 := by
  unfold cd_revert
  first | (constructor <;> decide) | (repeat' split) <;> (constructor <;> decide)
set_option maxHeartbeats 8000000 in
set_option maxRecDepth 100000 in
theorem case_step {X : XT} {G : GT} {mc ms K0 S0 p N : Nat} {sc : Nat → Int32} {ok : KF} {ad : AD} {σ : SG} {A : AS} {e i : Nat} (hl0 : (xl X).stackTraces = false) (hC : Cx X G "BranchyardLaw" cL_law 9 16 mc ms) (hN : NC (xs X)) (hP : Scr G (xs X) p N sc) (hNl : N ≤ 3072) (hI : INV G ok ad σ A e i) (hj : 6 * i + 6 ≤ N) (h1 : K0 + 200 * (i + 1) ≤ mc) (h2 : S0 + 3000 * (i + 1) + 4 * 4700 ≤ ms)
    (nx : ∀ ok' ad' σ' A' e', INV G ok' ad' σ' A' e' (i + 1) → ad' 0 0 0 = ad 0 0 0 → ad' 30 0 0 = ad 30 0 0 → ad' 60 0 0 = ad 60 0 0 → ad' 61 0 0 = ad 61 0 0 → V X G (K0 + 200 * (i + 1)) (S0 + 3000 * (i + 1) + 4 * e') ok' ad' σ' [(0, .ref p), (1, .ref (ad 0 0 0)), (2, .ref (ad 30 0 0)), (3, .ref (ad 60 0 0)), (4, .ref (ad 61 0 0)), (5, iv (6 * i))] 2247 []) : V X G (K0 + 200 * i) (S0 + 3000 * i + 4 * e) ok ad σ [(0, .ref p), (1, .ref (ad 0 0 0)), (2, .ref (ad 30 0 0)), (3, .ref (ad 60 0 0)), (4, .ref (ad 61 0 0)), (5, iv (6 * i))] 1103 [] := by
  obtain ⟨hR, ⟨hCK, hVK⟩, ⟨hArr, hKM⟩, ⟨h60, h61, n57, n58, n62, hO, hQ⟩, c5, c1, c6, cK, cq, ct, ce⟩ := id hI
  have hB := hR.1
  have hsq := step_q (s := σ) hR.2.2.2.1
  have hp4 := (pck_BI (σ := σ) hR.2.2.2.1).2
  refine v_aload_n hC dL_law_1103 rfl ?_
  refine v_aload_n hC dL_law_1104 rfl ?_
  refine v_callSN hC hN lkw_step dL_law_1105 (w_step hl0 (c_X5_step hl0 hO hI.ts (by omega) (by omega) (by omega)) hO.k0 (fun v μ h => by obtain ⟨n, -, rfl, nk, na, σ', rfl, -, -⟩ := h; exact ⟨⟨n, rfl⟩, h60, rfl⟩) (fun E μ h => ro_stepE h.1)) (by omega) (by decide) rfl rfl (Nat.le_of_ble_eq_true rfl) (by omega) (by omega) (fun v μ h => ?_)
  rcases h with ⟨E, ⟨hE, nk, na, σ', rfl, hT, hCT⟩, rfl⟩ | ⟨n, μ0, ⟨r, hE, hn, nk, na, σ', rfl, hT, hCT⟩, rfl, rfl⟩
  · dsimp only
    obtain ⟨σ1, hσ1⟩ : ∃ σ1, σ1 = σ' := ⟨_, rfl⟩
    have hB1 : BD σ1 := by rw [hσ1]; exact hT.1
    have g1 : ∀ k i j x, ¬ (k = 60 ∨ k = 61) → ¬ (k = 30 ∧ x = 0) → σ1 k i j x = σ' k i j x := fun k i j x q1 q2 => by rw [hσ1]
    have e30 : σ' 30 = σ 30 := hT.2.1.1 30 (by decide) (by decide) (by decide) (by decide) (by decide) rfl
    have hM := hI.mid hT g1 hB1 e30
    have hm : ∀ k i j x, 30 ≤ k → k < 57 → ¬ (k = 30 ∧ x = 0) → σ1 k i j x = σ k i j x := fun k i j x q1 q2 q3 => (g1 k i j x (by omega) q3).trans (by rw [hT.2.1.1 k (by omega) (by omega) (by omega) (by omega) (by omega) (kS_hi q1)])
    have s5 : σ1 30 0 0 5 = σ 16 0 0 2 := (hm 30 0 0 5 (by decide) (by decide) (by omega)).trans c5
    have s6 : σ1 30 0 0 6 = σ 16 0 0 3 := (hm 30 0 0 6 (by decide) (by decide) (by omega)).trans c6
    rw [← hσ1]
    refine v_istore hC dL_law_1108 (by decide) ?_
    refine v_aload_n hC dL_law_1110 rfl ?_
    have hH : ∀ c, c < σ 0 0 0 0 → mhl σ1 c = tfz σ c := fun c hc => by
      rw [← mhl_tfz hR.2.2.2.2.2.2.2.1 hR.2.2.2.2.2.1 hB hc]
      have e38 : σ1 38 = σ 38 := by funext a b x; exact hm 38 a b x (by decide) (by decide) (by omega)
      have e41 : σ1 41 = σ 41 := by funext a b x; exact hm 41 a b x (by decide) (by decide) (by omega)
      unfold mhl mtc
      rw [e38, e41]
    obtain ⟨b1, b2, b3, b4, b5, b6⟩ := id hCT
    have he9 : capN ((aK (ro_step σ A).2.1).length - (aK A).length) (aK A).length e ≤ 4700 := capN_max _ _ _ ce (by omega)
    have hee := capN_le ((aK (ro_step σ A).2.1).length - (aK A).length) (aK A).length e
    refine v_callV hC lk_L_181 dL_law_1111 (c_X6_step (ok := mixK ok nk) (ad := mixA ad na) hl0 hQ.mix hB hM hH n57 n62 ce (by omega) (by omega) (by omega)) (by omega) (by decide) (hQ.mix (nk := nk)).k30 rfl rfl rfl rfl (Nat.le_of_ble_eq_true rfl) (by omega) (by omega) (fun v μ h => ?_) (fun _ _ h => h.elim)
    obtain ⟨nk2, na2, τ', rfl, hTM, hNW, hCm, hres⟩ := h
    dsimp only
    have g2 := hI.built hT hCT g1 hTM hNW hCm (SND_step hR.2.2.2.2.2.2.2.2) (fun c hc => out_step hR.2.2.2.1 hc) (by omega) (by omega) he9
    rcases hres with ⟨E2, r1, rfl, r3⟩ | ⟨n2, r1, rfl, r3⟩
    rotate_left
    · rw [hE] at r1
      cases r1
    rw [hE] at r1
    cases r1
    refine v_istore hC dL_law_1114 (by decide) ?_
    refine v_aload_n hC dL_law_1116 rfl ?_
    refine v_callV_r0 hC lk_L_134 dL_law_1117 (c_X6_thrown (ok := (mxK (mixK ok nk) nk2)) (ad := (mxA (mixA ad na) na2)) hl0 g2.2.2.2.1.2.2.2.2.2.2 g2.1.1) (by omega) (by decide) g2.2.2.2.1.2.2.2.2.2.2.k30 rfl rfl rfl rfl (Nat.le_of_ble_eq_true rfl) (by omega) (by omega) ?_
    rw [r3, cdR_step (ro_stepE hE)]
    refine v_iload hC dL_law_1120 rfl ?_
    refine v_icmp_eq (tgt := 1127) hC dL_law_1122 (by decide) (fun _ => ?_) (fun q => absurd rfl q)
    refine v_iload hC dL_law_1127 rfl ?_
    have cdE := cdl_step E
    refine v_if_neN (tgt := 1144) hC dL_law_1129 (by decide) (by omega) (fun _ => ?_) (fun q => absurd q cdE.2)
    refine v_goto (tgt := 2247) hC dL_law_1144 (by decide) ?_
    exact v_wide (by omega) (by omega) (v_sub rfl (nx _ _ _ _ _ g2 rfl rfl rfl rfl))
  · dsimp only
    obtain ⟨σ1, hσ1⟩ : ∃ σ1, σ1 = up σ' 60 0 0 0 (wI n) := ⟨_, rfl⟩
    have hB1 : BD σ1 := by rw [hσ1]; exact BD.put hT.1 (wI_lt n)
    have g1 : ∀ k i j x, ¬ (k = 60 ∨ k = 61) → ¬ (k = 30 ∧ x = 0) → σ1 k i j x = σ' k i j x := fun k i j x q1 q2 => by rw [hσ1]; exact up_k (by omega)
    have e30 : σ' 30 = σ 30 := hT.2.1.1 30 (by decide) (by decide) (by decide) (by decide) (by decide) rfl
    have hM := hI.mid hT g1 hB1 e30
    have hm : ∀ k i j x, 30 ≤ k → k < 57 → ¬ (k = 30 ∧ x = 0) → σ1 k i j x = σ k i j x := fun k i j x q1 q2 q3 => (g1 k i j x (by omega) q3).trans (by rw [hT.2.1.1 k (by omega) (by omega) (by omega) (by omega) (by omega) (kS_hi q1)])
    have s5 : σ1 30 0 0 5 = σ 16 0 0 2 := (hm 30 0 0 5 (by decide) (by decide) (by omega)).trans c5
    have s6 : σ1 30 0 0 6 = σ 16 0 0 3 := (hm 30 0 0 6 (by decide) (by decide) (by omega)).trans c6
    have h60w : σ1 60 0 0 0 = wI n := by rw [hσ1]; exact up_same _ _ _ _ _ _
    rw [← hσ1]
    refine v_istore hC dL_law_1108 (by decide) ?_
    refine v_aload_n hC dL_law_1110 rfl ?_
    have hH : ∀ c, c < σ 0 0 0 0 → mhl σ1 c = tfz σ c := fun c hc => by
      rw [← mhl_tfz hR.2.2.2.2.2.2.2.1 hR.2.2.2.2.2.1 hB hc]
      have e38 : σ1 38 = σ 38 := by funext a b x; exact hm 38 a b x (by decide) (by decide) (by omega)
      have e41 : σ1 41 = σ 41 := by funext a b x; exact hm 41 a b x (by decide) (by decide) (by omega)
      unfold mhl mtc
      rw [e38, e41]
    obtain ⟨b1, b2, b3, b4, b5, b6⟩ := id hCT
    have he9 : capN ((aK (ro_step σ A).2.1).length - (aK A).length) (aK A).length e ≤ 4700 := capN_max _ _ _ ce (by omega)
    have hee := capN_le ((aK (ro_step σ A).2.1).length - (aK A).length) (aK A).length e
    refine v_callV hC lk_L_181 dL_law_1111 (c_X6_step (ok := mixK ok nk) (ad := mixA ad na) hl0 hQ.mix hB hM hH n57 n62 ce (by omega) (by omega) (by omega)) (by omega) (by decide) (hQ.mix (nk := nk)).k30 rfl rfl rfl rfl (Nat.le_of_ble_eq_true rfl) (by omega) (by omega) (fun v μ h => ?_) (fun _ _ h => h.elim)
    obtain ⟨nk2, na2, τ', rfl, hTM, hNW, hCm, hres⟩ := h
    dsimp only
    have g2 := hI.built hT hCT g1 hTM hNW hCm (SND_step hR.2.2.2.2.2.2.2.2) (fun c hc => out_step hR.2.2.2.1 hc) (by omega) (by omega) he9
    rcases hres with ⟨E2, r1, rfl, r3⟩ | ⟨n2, r1, rfl, r3⟩
    skip
    · rw [hE] at r1
      cases r1
    rw [hE] at r1
    cases r1
    refine v_istore hC dL_law_1114 (by decide) ?_
    refine v_aload_n hC dL_law_1116 rfl ?_
    refine v_callV_r0 hC lk_L_134 dL_law_1117 (c_X6_thrown (ok := (mxK (mixK ok nk) nk2)) (ad := (mxA (mixA ad na) na2)) hl0 g2.2.2.2.1.2.2.2.2.2.2 g2.1.1) (by omega) (by decide) g2.2.2.2.1.2.2.2.2.2.2.k30 rfl rfl rfl rfl (Nat.le_of_ble_eq_true rfl) (by omega) (by omega) ?_
    rw [r3]
    refine v_iload hC dL_law_1120 rfl ?_
    refine v_icmp_eq (tgt := 1127) hC dL_law_1122 (by decide) (fun _ => ?_) (fun q => absurd rfl q)
    refine v_iload hC dL_law_1127 rfl ?_
    have h60' : (mxK (mixK ok nk) nk2) 60 0 0 := h60
    refine v_if_neN (tgt := 1144) hC dL_law_1129 (by decide) (by decide) (fun q => absurd rfl q) (fun _ => ?_)
    refine v_aload_n hC dL_law_1132 rfl ?_
    refine v_iconst (v := nI 0) hC dL_law_1133 (by decide) ?_
    refine al_60 (ad := (mxA (mixA ad na) na2)) hC dL_law_1134 h60' (by decide) ?_
    rw [show τ' 60 0 0 0 = wI r from ((hNW 60 0 0 0 rfl).trans h60w).trans (wI_of hn)]
    refine v_iload hC dL_law_1135 rfl ?_
    refine v_i2l (v := lN (wI r)) hC dL_law_1137 (lN_wN _).symm ?_
    refine v_lcmp hC dL_law_1138 ?_
    refine v_if_eqJ (tgt := 1144) hC dL_law_1139 (by decide) (wI_lt r) (wI_lt r) (fun _ => ?_) (fun q => absurd rfl q)
    refine v_goto (tgt := 2247) hC dL_law_1144 (by decide) ?_
    exact v_wide (by omega) (by omega) (v_sub rfl (nx _ _ _ _ _ g2 rfl rfl rfl rfl))
set_option maxHeartbeats 8000000 in
set_option maxRecDepth 100000 in
theorem case_revert {X : XT} {G : GT} {mc ms K0 S0 p N : Nat} {sc : Nat → Int32} {ok : KF} {ad : AD} {σ : SG} {A : AS} {e i : Nat} (hl0 : (xl X).stackTraces = false) (hC : Cx X G "BranchyardLaw" cL_law 9 16 mc ms) (hN : NC (xs X)) (hP : Scr G (xs X) p N sc) (hNl : N ≤ 3072) (hI : INV G ok ad σ A e i) (hj : 6 * i + 6 ≤ N) (h1 : K0 + 200 * (i + 1) ≤ mc) (h2 : S0 + 3000 * (i + 1) + 4 * 4700 ≤ ms)
    (nx : ∀ ok' ad' σ' A' e', INV G ok' ad' σ' A' e' (i + 1) → ad' 0 0 0 = ad 0 0 0 → ad' 30 0 0 = ad 30 0 0 → ad' 60 0 0 = ad 60 0 0 → ad' 61 0 0 = ad 61 0 0 → V X G (K0 + 200 * (i + 1)) (S0 + 3000 * (i + 1) + 4 * e') ok' ad' σ' [(0, .ref p), (1, .ref (ad 0 0 0)), (2, .ref (ad 30 0 0)), (3, .ref (ad 60 0 0)), (4, .ref (ad 61 0 0)), (5, iv (6 * i))] 2247 []) : V X G (K0 + 200 * i) (S0 + 3000 * i + 4 * e) ok ad σ [(0, .ref p), (1, .ref (ad 0 0 0)), (2, .ref (ad 30 0 0)), (3, .ref (ad 60 0 0)), (4, .ref (ad 61 0 0)), (5, iv (6 * i))] 1901 [] := by
  obtain ⟨hR, ⟨hCK, hVK⟩, ⟨hArr, hKM⟩, ⟨h60, h61, n57, n58, n62, hO, hQ⟩, c5, c1, c6, cK, cq, ct, ce⟩ := id hI
  have hB := hR.1
  skip
  refine v_aload_n hC dL_law_1901 rfl ?_
  refine v_aload_n hC dL_law_1902 rfl ?_
  refine v_iload hC dL_law_1903 rfl ?_
  refine v_iconst (v := nI 1) hC dL_law_1905 (by decide) ?_
  refine v_iaddN hC dL_law_1906 ?_
  refine v_scr (x := 6 * i + 1) hC hP dL_law_1907 (by omega) (by omega) ?_
  refine v_aload_n hC dL_law_1908 rfl ?_
  refine v_callSN hC hN lkw_revert dL_law_1909 (w_revert hl0 (c_X5_revert hl0 hO hI.ts (by omega) (by omega) (by omega) (sc (6 * i + 1))) hO.k0 (fun v μ h => by obtain ⟨n, -, rfl, nk, na, σ', rfl, -, -⟩ := h; exact ⟨⟨n, rfl⟩, h60, rfl⟩) (fun E μ h => ro_revertE h.1)) (by omega) (by decide) rfl rfl (Nat.le_of_ble_eq_true rfl) (by omega) (by omega) (fun v μ h => ?_)
  rcases h with ⟨E, ⟨hE, nk, na, σ', rfl, hT, hCT⟩, rfl⟩ | ⟨n, μ0, ⟨r, hE, hn, nk, na, σ', rfl, hT, hCT⟩, rfl, rfl⟩
  · dsimp only
    obtain ⟨σ1, hσ1⟩ : ∃ σ1, σ1 = σ' := ⟨_, rfl⟩
    have hB1 : BD σ1 := by rw [hσ1]; exact hT.1
    have g1 : ∀ k i j x, ¬ (k = 60 ∨ k = 61) → ¬ (k = 30 ∧ x = 0) → σ1 k i j x = σ' k i j x := fun k i j x q1 q2 => by rw [hσ1]
    have e30 : σ' 30 = σ 30 := hT.2.1.1 30 (by decide) (by decide) (by decide) (by decide) (by decide) rfl
    have hM := hI.mid hT g1 hB1 e30
    have hm : ∀ k i j x, 30 ≤ k → k < 57 → ¬ (k = 30 ∧ x = 0) → σ1 k i j x = σ k i j x := fun k i j x q1 q2 q3 => (g1 k i j x (by omega) q3).trans (by rw [hT.2.1.1 k (by omega) (by omega) (by omega) (by omega) (by omega) (kS_hi q1)])
    have s5 : σ1 30 0 0 5 = σ 16 0 0 2 := (hm 30 0 0 5 (by decide) (by decide) (by omega)).trans c5
    have s6 : σ1 30 0 0 6 = σ 16 0 0 3 := (hm 30 0 0 6 (by decide) (by decide) (by omega)).trans c6
    rw [← hσ1]
    refine v_istore hC dL_law_1912 (by decide) ?_
    refine v_aload_n hC dL_law_1914 rfl ?_
    refine v_aload_n hC dL_law_1915 rfl ?_
    refine v_iload hC dL_law_1916 rfl ?_
    refine v_iconst (v := nI 1) hC dL_law_1918 (by decide) ?_
    refine v_iaddN hC dL_law_1919 ?_
    refine v_scr (x := 6 * i + 1) hC hP dL_law_1920 (by omega) (by omega) ?_
    obtain ⟨b1, b2, b3, b4, b5, b6⟩ := id hCT
    have he9 : capN ((aK (ro_revert σ A (sc (6 * i + 1))).2.1).length - (aK A).length) (aK A).length e ≤ 4700 := capN_max _ _ _ ce (by omega)
    have hee := capN_le ((aK (ro_revert σ A (sc (6 * i + 1))).2.1).length - (aK A).length) (aK A).length e
    refine v_callV hC lk_L_218 dL_law_1921 (c_X6_revert (ok := mixK ok nk) (ad := mixA ad na) hl0 hQ.mix hB hM n58 n62 ce (by omega) (by omega) (by omega) (sc (6 * i + 1))) (by omega) (by decide) (hQ.mix (nk := nk)).k30 rfl rfl rfl rfl (Nat.le_of_ble_eq_true rfl) (by omega) (by omega) (fun v μ h => ?_) (fun _ _ h => h.elim)
    obtain ⟨nk2, na2, τ', rfl, hTM, hNW, hCm, hres⟩ := h
    dsimp only
    have g2 := hI.built hT hCT g1 hTM hNW hCm (SND_revert hR.2.2.2.2.2.2.2.2 _) (fun c hc => out_revert hR.2.2.2.1 _ hc) (by rw [rv_q]; omega) (by omega) he9
    rcases hres with ⟨E2, r1, rfl, r3⟩ | ⟨n2, r1, rfl, r3⟩
    rotate_left
    · rw [hE] at r1
      cases r1
    rw [hE] at r1
    cases r1
    refine v_istore hC dL_law_1924 (by decide) ?_
    refine v_aload_n hC dL_law_1926 rfl ?_
    refine v_callV_r0 hC lk_L_134 dL_law_1927 (c_X6_thrown (ok := (mxK (mixK ok nk) nk2)) (ad := (mxA (mixA ad na) na2)) hl0 g2.2.2.2.1.2.2.2.2.2.2 g2.1.1) (by omega) (by decide) g2.2.2.2.1.2.2.2.2.2.2.k30 rfl rfl rfl rfl (Nat.le_of_ble_eq_true rfl) (by omega) (by omega) ?_
    rw [r3, cdR_revert (ro_revertE hE)]
    refine v_iload hC dL_law_1930 rfl ?_
    refine v_icmp_eq (tgt := 1937) hC dL_law_1932 (by decide) (fun _ => ?_) (fun q => absurd rfl q)
    refine v_iload hC dL_law_1937 rfl ?_
    have cdE := cdl_revert E
    refine v_if_neN (tgt := 1954) hC dL_law_1939 (by decide) (by omega) (fun _ => ?_) (fun q => absurd q cdE.2)
    refine v_goto (tgt := 2247) hC dL_law_1954 (by decide) ?_
    exact v_wide (by omega) (by omega) (v_sub rfl (nx _ _ _ _ _ g2 rfl rfl rfl rfl))
  · dsimp only
    obtain ⟨σ1, hσ1⟩ : ∃ σ1, σ1 = up σ' 60 0 0 0 (wI n) := ⟨_, rfl⟩
    have hB1 : BD σ1 := by rw [hσ1]; exact BD.put hT.1 (wI_lt n)
    have g1 : ∀ k i j x, ¬ (k = 60 ∨ k = 61) → ¬ (k = 30 ∧ x = 0) → σ1 k i j x = σ' k i j x := fun k i j x q1 q2 => by rw [hσ1]; exact up_k (by omega)
    have e30 : σ' 30 = σ 30 := hT.2.1.1 30 (by decide) (by decide) (by decide) (by decide) (by decide) rfl
    have hM := hI.mid hT g1 hB1 e30
    have hm : ∀ k i j x, 30 ≤ k → k < 57 → ¬ (k = 30 ∧ x = 0) → σ1 k i j x = σ k i j x := fun k i j x q1 q2 q3 => (g1 k i j x (by omega) q3).trans (by rw [hT.2.1.1 k (by omega) (by omega) (by omega) (by omega) (by omega) (kS_hi q1)])
    have s5 : σ1 30 0 0 5 = σ 16 0 0 2 := (hm 30 0 0 5 (by decide) (by decide) (by omega)).trans c5
    have s6 : σ1 30 0 0 6 = σ 16 0 0 3 := (hm 30 0 0 6 (by decide) (by decide) (by omega)).trans c6
    have h60w : σ1 60 0 0 0 = wI n := by rw [hσ1]; exact up_same _ _ _ _ _ _
    rw [← hσ1]
    refine v_istore hC dL_law_1912 (by decide) ?_
    refine v_aload_n hC dL_law_1914 rfl ?_
    refine v_aload_n hC dL_law_1915 rfl ?_
    refine v_iload hC dL_law_1916 rfl ?_
    refine v_iconst (v := nI 1) hC dL_law_1918 (by decide) ?_
    refine v_iaddN hC dL_law_1919 ?_
    refine v_scr (x := 6 * i + 1) hC hP dL_law_1920 (by omega) (by omega) ?_
    obtain ⟨b1, b2, b3, b4, b5, b6⟩ := id hCT
    have he9 : capN ((aK (ro_revert σ A (sc (6 * i + 1))).2.1).length - (aK A).length) (aK A).length e ≤ 4700 := capN_max _ _ _ ce (by omega)
    have hee := capN_le ((aK (ro_revert σ A (sc (6 * i + 1))).2.1).length - (aK A).length) (aK A).length e
    refine v_callV hC lk_L_218 dL_law_1921 (c_X6_revert (ok := mixK ok nk) (ad := mixA ad na) hl0 hQ.mix hB hM n58 n62 ce (by omega) (by omega) (by omega) (sc (6 * i + 1))) (by omega) (by decide) (hQ.mix (nk := nk)).k30 rfl rfl rfl rfl (Nat.le_of_ble_eq_true rfl) (by omega) (by omega) (fun v μ h => ?_) (fun _ _ h => h.elim)
    obtain ⟨nk2, na2, τ', rfl, hTM, hNW, hCm, hres⟩ := h
    dsimp only
    have g2 := hI.built hT hCT g1 hTM hNW hCm (SND_revert hR.2.2.2.2.2.2.2.2 _) (fun c hc => out_revert hR.2.2.2.1 _ hc) (by rw [rv_q]; omega) (by omega) he9
    rcases hres with ⟨E2, r1, rfl, r3⟩ | ⟨n2, r1, rfl, r3⟩
    skip
    · rw [hE] at r1
      cases r1
    rw [hE] at r1
    cases r1
    refine v_istore hC dL_law_1924 (by decide) ?_
    refine v_aload_n hC dL_law_1926 rfl ?_
    refine v_callV_r0 hC lk_L_134 dL_law_1927 (c_X6_thrown (ok := (mxK (mixK ok nk) nk2)) (ad := (mxA (mixA ad na) na2)) hl0 g2.2.2.2.1.2.2.2.2.2.2 g2.1.1) (by omega) (by decide) g2.2.2.2.1.2.2.2.2.2.2.k30 rfl rfl rfl rfl (Nat.le_of_ble_eq_true rfl) (by omega) (by omega) ?_
    rw [r3]
    refine v_iload hC dL_law_1930 rfl ?_
    refine v_icmp_eq (tgt := 1937) hC dL_law_1932 (by decide) (fun _ => ?_) (fun q => absurd rfl q)
    refine v_iload hC dL_law_1937 rfl ?_
    have h60' : (mxK (mixK ok nk) nk2) 60 0 0 := h60
    refine v_if_neN (tgt := 1954) hC dL_law_1939 (by decide) (by decide) (fun q => absurd rfl q) (fun _ => ?_)
    refine v_aload_n hC dL_law_1942 rfl ?_
    refine v_iconst (v := nI 0) hC dL_law_1943 (by decide) ?_
    refine al_60 (ad := (mxA (mixA ad na) na2)) hC dL_law_1944 h60' (by decide) ?_
    rw [show τ' 60 0 0 0 = wI r from ((hNW 60 0 0 0 rfl).trans h60w).trans (wI_of hn)]
    refine v_iload hC dL_law_1945 rfl ?_
    refine v_i2l (v := lN (wI r)) hC dL_law_1947 (lN_wN _).symm ?_
    refine v_lcmp hC dL_law_1948 ?_
    refine v_if_eqJ (tgt := 1954) hC dL_law_1949 (by decide) (wI_lt r) (wI_lt r) (fun _ => ?_) (fun q => absurd rfl q)
    refine v_goto (tgt := 2247) hC dL_law_1954 (by decide) ?_
    exact v_wide (by omega) (by omega) (v_sub rfl (nx _ _ _ _ _ g2 rfl rfl rfl rfl))
