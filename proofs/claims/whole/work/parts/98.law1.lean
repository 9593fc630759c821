def ON (f : OC) (L : List String) : Prop := ∀ E, f = .inl E → E ∈ L
theorem on_ret {q : Nat × SG} {L : List String} : ON (.inr q) L := fun _ h => by cases h
theorem on_err {E : String} {L : List String} (h : E ∈ L) : ON (.inl E) L := fun _ q => by cases q; exact h
theorem on_gR {x : Int32} {N : Nat} {E : String} {f : Nat → OC} {L : List String} (h : E ∈ L) (h2 : ∀ n, ON (f n) L) : ON (gR x N E f) L := by
  unfold gR
  cases inR x N with
  | none => exact on_err h
  | some n => exact h2 n
theorem on_ite {c : Prop} [Decidable c] {f g : OC} {L : List String} (h : ON f L) (h2 : ON g L) : ON (if c then f else g) L := by
  by_cases q : c
  · rw [if_pos q]; exact h
  · rw [if_neg q]; exact h2
theorem wI_lt (n : Nat) : wI n < 2 ^ 64 := UInt64.toNat_lt _
theorem wB_lt (n : Nat) : wB n < 2 ^ 64 := by unfold wB; split <;> decide
theorem wI_of {n r : Nat} (h : some (iv n) = some (iv r)) : wI n = wI r := by
  have : nI n = nI r := by injection h with h; injection h
  unfold wI
  rw [this]
theorem cdl_setOwner (E : String) : cd_setOwner E < 5 ∧ cd_setOwner E ≠ 0 := by
  unfold cd_setOwner
  first | (constructor <;> decide) | (repeat' split) <;> (constructor <;> decide)
theorem hxs_setOwner {σ : SG} {a1 a2 a3 : Int32} {E : String} (h : k_setOwner σ a1 a2 a3 = .inl E) : E = eIOB ∨ E = eIAE := by
  have h2 : ON (k_setOwner σ a1 a2 a3) [eIOB, eIAE] := by
    unfold k_setOwner
    repeat (first | exact on_ret | exact on_err (by simp) | refine on_gR (by simp) (fun _ => ?_) | refine on_ite ?_ ?_)
  simpa using h2 E h
set_option maxHeartbeats 4000000 in
set_option maxRecDepth 100000 in
theorem case_setOwner {X : XT} {G : GT} {mc ms K0 S0 p N : Nat} {sc : Nat → Int32} {ok : KF} {ad : AD} {σ : SG} {A : AS} {e i : Nat} (hl0 : (xl X).stackTraces = false) (hC : Cx X G "BranchyardLaw" cL_law 9 16 mc ms) (hN : NC (xs X)) (hP : Scr G (xs X) p N sc) (hNl : N ≤ 3072) (hI : INV G ok ad σ A e i) (hj : 6 * i + 6 ≤ N) (h1 : K0 + 200 * (i + 1) ≤ mc) (h2 : S0 + 3000 * (i + 1) + 4 * 4700 ≤ ms)
    (nx : ∀ ok' ad' σ' A' e', INV G ok' ad' σ' A' e' (i + 1) → ad' 0 0 0 = ad 0 0 0 → ad' 30 0 0 = ad 30 0 0 → ad' 60 0 0 = ad 60 0 0 → ad' 61 0 0 = ad 61 0 0 → V X G (K0 + 200 * (i + 1)) (S0 + 3000 * (i + 1) + 4 * e') ok' ad' σ' [(0, .ref p), (1, .ref (ad 0 0 0)), (2, .ref (ad 30 0 0)), (3, .ref (ad 60 0 0)), (4, .ref (ad 61 0 0)), (5, iv (6 * i))] 2247 []) : V X G (K0 + 200 * i) (S0 + 3000 * i + 4 * e) ok ad σ [(0, .ref p), (1, .ref (ad 0 0 0)), (2, .ref (ad 30 0 0)), (3, .ref (ad 60 0 0)), (4, .ref (ad 61 0 0)), (5, iv (6 * i))] 192 [] := by
  obtain ⟨hR, ⟨hCK, hVK⟩, ⟨hArr, hKM⟩, ⟨h60, h61, n57, n58, n62, hO, hQ⟩, c5, c1, c6, cK, cq, ct, ce⟩ := id hI
  have hB := hR.1
  refine v_aload_n hC dL_law_192 rfl ?_
  refine v_aload_n hC dL_law_193 rfl ?_
  refine v_iload hC dL_law_194 rfl ?_
  refine v_iconst (v := nI 1) hC dL_law_196 (by decide) ?_
  refine v_iaddN hC dL_law_197 ?_
  refine v_scr (x := 6 * i + 1) hC hP dL_law_198 (by omega) (by omega) ?_
  refine v_aload_n hC dL_law_199 rfl ?_
  refine v_iload hC dL_law_200 rfl ?_
  refine v_iconst (v := nI 2) hC dL_law_202 (by decide) ?_
  refine v_iaddN hC dL_law_203 ?_
  refine v_scr (x := 6 * i + 2) hC hP dL_law_204 (by omega) (by omega) ?_
  refine v_aload_n hC dL_law_205 rfl ?_
  refine v_iload hC dL_law_206 rfl ?_
  refine v_iconst (v := nI 3) hC dL_law_208 (by decide) ?_
  refine v_iaddN hC dL_law_209 ?_
  refine v_scr (x := 6 * i + 3) hC hP dL_law_210 (by omega) (by omega) ?_
  refine v_aload_n hC dL_law_211 rfl ?_
  refine v_callSN hC hN lkw_setOwner dL_law_212 (w_setOwner hl0 (c_X5_setOwner hl0 hO hB (sc (6 * i + 1)) (sc (6 * i + 2)) (sc (6 * i + 3))) hO.k0 (fun v μ h => by obtain ⟨r, τ, -, rfl, rfl⟩ := h; exact ⟨⟨r, rfl⟩, h60, rfl⟩) (fun E μ h => hxs_setOwner h.1)) (by omega) (by decide) rfl rfl (Nat.le_of_ble_eq_true rfl) (by omega) (by omega) (fun v μ h => ?_)
  have hAG := law_simple hI (fun E => (cdl_setOwner E).1) (fun τ hτ => ag_setOwner hτ (sc (6 * i + 1)) (sc (6 * i + 2)) (sc (6 * i + 3)))
  rcases h with ⟨E, ⟨hE, rfl⟩, rfl⟩ | ⟨n, μ0, ⟨r, s', hr, hn, rfl⟩, rfl, rfl⟩
  · dsimp only
    obtain ⟨g1, g2⟩ := hAG.1 E hE
    have cdE := cdl_setOwner E
    refine v_istore hC dL_law_215 (by decide) ?_
    refine v_aload_n hC dL_law_217 rfl ?_
    refine v_aload_n hC dL_law_218 rfl ?_
    refine v_iload hC dL_law_219 rfl ?_
    refine v_iconst (v := nI 1) hC dL_law_221 (by decide) ?_
    refine v_iaddN hC dL_law_222 ?_
    refine v_scr (x := 6 * i + 1) hC hP dL_law_223 (by omega) (by omega) ?_
    refine v_aload_n hC dL_law_224 rfl ?_
    refine v_iload hC dL_law_225 rfl ?_
    refine v_iconst (v := nI 2) hC dL_law_227 (by decide) ?_
    refine v_iaddN hC dL_law_228 ?_
    refine v_scr (x := 6 * i + 2) hC hP dL_law_229 (by omega) (by omega) ?_
    refine v_aload_n hC dL_law_230 rfl ?_
    refine v_iload hC dL_law_231 rfl ?_
    refine v_iconst (v := nI 3) hC dL_law_233 (by decide) ?_
    refine v_iaddN hC dL_law_234 ?_
    refine v_scr (x := 6 * i + 3) hC hP dL_law_235 (by omega) (by omega) ?_
    refine v_callV hC lk_L_133 dL_law_236 (c_X6_setOwner (σ := σ) hl0 hQ hB (sc (6 * i + 1)) (sc (6 * i + 2)) (sc (6 * i + 3))) (by omega) (by decide) hQ.k30 rfl rfl rfl rfl (Nat.le_of_ble_eq_true rfl) (by omega) (by omega) (fun v μ h => ?_) (fun _ _ h => h.elim)
    rcases h with ⟨k, hk, rfl, rfl⟩ | ⟨r2, τ2, hk, rfl, rfl⟩
    rotate_left
    · rw [g1] at hk
      cases hk
    rw [g1] at hk
    cases hk
    dsimp only
    refine v_istore hC dL_law_239 (by decide) ?_
    refine v_aload_n hC dL_law_241 rfl ?_
    refine v_callV_r0 hC lk_L_134 dL_law_242 (c_X6_thrown hl0 hQ g2.1.1) (by omega) (by decide) hQ.k30 rfl rfl rfl rfl (Nat.le_of_ble_eq_true rfl) (by omega) (by omega) ?_
    rw [show th (th σ 0) (cd_setOwner E) 30 0 0 0 = cd_setOwner E from up_same _ _ _ _ _ _]
    refine v_iload hC dL_law_245 rfl ?_
    refine v_icmp_eq (tgt := 252) hC dL_law_247 (by decide) (fun _ => ?_) (fun q => absurd rfl q)
    refine v_iload hC dL_law_252 rfl ?_
    refine v_if_neN (tgt := 269) hC dL_law_254 (by decide) (by omega) (fun _ => ?_) (fun q => absurd q cdE.2)
    refine v_goto (tgt := 2247) hC dL_law_269 (by decide) ?_
    exact v_wide (by omega) (by omega) (v_sub rfl (nx _ _ _ _ _ g2 rfl rfl rfl rfl))
  · dsimp only
    obtain ⟨hBw, τ9, A9, g1, g2, g3, g4⟩ := hAG.2 r s' hr (wI n) (wI_lt n)
    refine v_istore hC dL_law_215 (by decide) ?_
    refine v_aload_n hC dL_law_217 rfl ?_
    refine v_aload_n hC dL_law_218 rfl ?_
    refine v_iload hC dL_law_219 rfl ?_
    refine v_iconst (v := nI 1) hC dL_law_221 (by decide) ?_
    refine v_iaddN hC dL_law_222 ?_
    refine v_scr (x := 6 * i + 1) hC hP dL_law_223 (by omega) (by omega) ?_
    refine v_aload_n hC dL_law_224 rfl ?_
    refine v_iload hC dL_law_225 rfl ?_
    refine v_iconst (v := nI 2) hC dL_law_227 (by decide) ?_
    refine v_iaddN hC dL_law_228 ?_
    refine v_scr (x := 6 * i + 2) hC hP dL_law_229 (by omega) (by omega) ?_
    refine v_aload_n hC dL_law_230 rfl ?_
    refine v_iload hC dL_law_231 rfl ?_
    refine v_iconst (v := nI 3) hC dL_law_233 (by decide) ?_
    refine v_iaddN hC dL_law_234 ?_
    refine v_scr (x := 6 * i + 3) hC hP dL_law_235 (by omega) (by omega) ?_
    refine v_callV hC lk_L_133 dL_law_236 (c_X6_setOwner (σ := (up s' 60 0 0 0 (wI n))) hl0 hQ hBw (sc (6 * i + 1)) (sc (6 * i + 2)) (sc (6 * i + 3))) (by omega) (by decide) hQ.k30 rfl rfl rfl rfl (Nat.le_of_ble_eq_true rfl) (by omega) (by omega) (fun v μ h => ?_) (fun _ _ h => h.elim)
    rcases h with ⟨k, hk, rfl, rfl⟩ | ⟨r2, τ2, hk, rfl, rfl⟩
    skip
    · rw [g1] at hk
      cases hk
    rw [g1] at hk
    cases hk
    dsimp only
    refine v_istore hC dL_law_239 (by decide) ?_
    refine v_aload_n hC dL_law_241 rfl ?_
    refine v_callV_r0 hC lk_L_134 dL_law_242 (c_X6_thrown hl0 hQ g2.1.1) (by omega) (by decide) hQ.k30 rfl rfl rfl rfl (Nat.le_of_ble_eq_true rfl) (by omega) (by omega) ?_
    rw [g3]
    refine v_iload hC dL_law_245 rfl ?_
    refine v_icmp_eq (tgt := 252) hC dL_law_247 (by decide) (fun _ => ?_) (fun q => absurd rfl q)
    refine v_iload hC dL_law_252 rfl ?_
    refine v_if_neN (tgt := 269) hC dL_law_254 (by decide) (by decide) (fun q => absurd rfl q) (fun _ => ?_)
    refine v_aload_n hC dL_law_257 rfl ?_
    refine v_iconst (v := nI 0) hC dL_law_258 (by decide) ?_
    refine al_60 hC dL_law_259 h60 (by decide) ?_
    rw [g4, wI_of hn]
    refine v_iload hC dL_law_260 rfl ?_
    refine v_i2l (v := lN (wI r)) hC dL_law_262 (lN_wN _).symm ?_
    refine v_lcmp hC dL_law_263 ?_
    refine v_if_eqJ (tgt := 269) hC dL_law_264 (by decide) (wI_lt r) (wI_lt r) (fun _ => ?_) (fun q => absurd rfl q)
    refine v_goto (tgt := 2247) hC dL_law_269 (by decide) ?_
    exact v_wide (by omega) (by omega) (v_sub rfl (nx _ _ _ _ _ g2 rfl rfl rfl rfl))
theorem cdl_open (E : String) : cd_open E < 5 ∧ cd_open E ≠ 0 := by
  unfold cd_open
  first | (constructor <;> decide) | (repeat' split) <;> (constructor <;> decide)
theorem hxs_open {σ : SG} {a1 : Int32} {E : String} (h : k_open σ a1 = .inl E) : E = eIAE ∨ E = eISE := by
  have h2 : ON (k_open σ a1) [eIAE, eISE] := by
    unfold k_open
    repeat (first | exact on_ret | exact on_err (by simp) | refine on_gR (by simp) (fun _ => ?_) | refine on_ite ?_ ?_)
  simpa using h2 E h
set_option maxHeartbeats 4000000 in
set_option maxRecDepth 100000 in
theorem case_open {X : XT} {G : GT} {mc ms K0 S0 p N : Nat} {sc : Nat → Int32} {ok : KF} {ad : AD} {σ : SG} {A : AS} {e i : Nat} (hl0 : (xl X).stackTraces = false) (hC : Cx X G "BranchyardLaw" cL_law 9 16 mc ms) (hN : NC (xs X)) (hP : Scr G (xs X) p N sc) (hNl : N ≤ 3072) (hI : INV G ok ad σ A e i) (hj : 6 * i + 6 ≤ N) (h1 : K0 + 200 * (i + 1) ≤ mc) (h2 : S0 + 3000 * (i + 1) + 4 * 4700 ≤ ms)
    (nx : ∀ ok' ad' σ' A' e', INV G ok' ad' σ' A' e' (i + 1) → ad' 0 0 0 = ad 0 0 0 → ad' 30 0 0 = ad 30 0 0 → ad' 60 0 0 = ad 60 0 0 → ad' 61 0 0 = ad 61 0 0 → V X G (K0 + 200 * (i + 1)) (S0 + 3000 * (i + 1) + 4 * e') ok' ad' σ' [(0, .ref p), (1, .ref (ad 0 0 0)), (2, .ref (ad 30 0 0)), (3, .ref (ad 60 0 0)), (4, .ref (ad 61 0 0)), (5, iv (6 * i))] 2247 []) : V X G (K0 + 200 * i) (S0 + 3000 * i + 4 * e) ok ad σ [(0, .ref p), (1, .ref (ad 0 0 0)), (2, .ref (ad 30 0 0)), (3, .ref (ad 60 0 0)), (4, .ref (ad 61 0 0)), (5, iv (6 * i))] 363 [] := by
  obtain ⟨hR, ⟨hCK, hVK⟩, ⟨hArr, hKM⟩, ⟨h60, h61, n57, n58, n62, hO, hQ⟩, c5, c1, c6, cK, cq, ct, ce⟩ := id hI
  have hB := hR.1
  refine v_aload_n hC dL_law_363 rfl ?_
  refine v_aload_n hC dL_law_364 rfl ?_
  refine v_iload hC dL_law_365 rfl ?_
  refine v_iconst (v := nI 1) hC dL_law_367 (by decide) ?_
  refine v_iaddN hC dL_law_368 ?_
  refine v_scr (x := 6 * i + 1) hC hP dL_law_369 (by omega) (by omega) ?_
  refine v_aload_n hC dL_law_370 rfl ?_
  refine v_callSN hC hN lkw_open dL_law_371 (w_open hl0 (c_X5_open hl0 hO hB (sc (6 * i + 1))) hO.k0 (fun v μ h => by obtain ⟨r, τ, -, rfl, rfl⟩ := h; exact ⟨⟨r, rfl⟩, h60, rfl⟩) (fun E μ h => hxs_open h.1)) (by omega) (by decide) rfl rfl (Nat.le_of_ble_eq_true rfl) (by omega) (by omega) (fun v μ h => ?_)
  have hAG := law_simple hI (fun E => (cdl_open E).1) (fun τ hτ => ag_open hτ (sc (6 * i + 1)))
  rcases h with ⟨E, ⟨hE, rfl⟩, rfl⟩ | ⟨n, μ0, ⟨r, s', hr, hn, rfl⟩, rfl, rfl⟩
  · dsimp only
    obtain ⟨g1, g2⟩ := hAG.1 E hE
    have cdE := cdl_open E
    refine v_istore hC dL_law_374 (by decide) ?_
    refine v_aload_n hC dL_law_376 rfl ?_
    refine v_aload_n hC dL_law_377 rfl ?_
    refine v_iload hC dL_law_378 rfl ?_
    refine v_iconst (v := nI 1) hC dL_law_380 (by decide) ?_
    refine v_iaddN hC dL_law_381 ?_
    refine v_scr (x := 6 * i + 1) hC hP dL_law_382 (by omega) (by omega) ?_
    refine v_callV hC lk_L_144 dL_law_383 (c_X6_open (σ := σ) hl0 hQ hB (sc (6 * i + 1))) (by omega) (by decide) hQ.k30 rfl rfl rfl rfl (Nat.le_of_ble_eq_true rfl) (by omega) (by omega) (fun v μ h => ?_) (fun _ _ h => h.elim)
    rcases h with ⟨k, hk, rfl, rfl⟩ | ⟨r2, τ2, hk, rfl, rfl⟩
    rotate_left
    · rw [g1] at hk
      cases hk
    rw [g1] at hk
    cases hk
    dsimp only
    refine v_istore hC dL_law_386 (by decide) ?_
    refine v_aload_n hC dL_law_388 rfl ?_
    refine v_callV_r0 hC lk_L_134 dL_law_389 (c_X6_thrown hl0 hQ g2.1.1) (by omega) (by decide) hQ.k30 rfl rfl rfl rfl (Nat.le_of_ble_eq_true rfl) (by omega) (by omega) ?_
    rw [show th (th σ 0) (cd_open E) 30 0 0 0 = cd_open E from up_same _ _ _ _ _ _]
    refine v_iload hC dL_law_392 rfl ?_
    refine v_icmp_eq (tgt := 399) hC dL_law_394 (by decide) (fun _ => ?_) (fun q => absurd rfl q)
    refine v_iload hC dL_law_399 rfl ?_
    refine v_if_neN (tgt := 416) hC dL_law_401 (by decide) (by omega) (fun _ => ?_) (fun q => absurd q cdE.2)
    refine v_goto (tgt := 2247) hC dL_law_416 (by decide) ?_
    exact v_wide (by omega) (by omega) (v_sub rfl (nx _ _ _ _ _ g2 rfl rfl rfl rfl))
  · dsimp only
    obtain ⟨hBw, τ9, A9, g1, g2, g3, g4⟩ := hAG.2 r s' hr (wI n) (wI_lt n)
    refine v_istore hC dL_law_374 (by decide) ?_
    refine v_aload_n hC dL_law_376 rfl ?_
    refine v_aload_n hC dL_law_377 rfl ?_
    refine v_iload hC dL_law_378 rfl ?_
    refine v_iconst (v := nI 1) hC dL_law_380 (by decide) ?_
    refine v_iaddN hC dL_law_381 ?_
    refine v_scr (x := 6 * i + 1) hC hP dL_law_382 (by omega) (by omega) ?_
    refine v_callV hC lk_L_144 dL_law_383 (c_X6_open (σ := (up s' 60 0 0 0 (wI n))) hl0 hQ hBw (sc (6 * i + 1))) (by omega) (by decide) hQ.k30 rfl rfl rfl rfl (Nat.le_of_ble_eq_true rfl) (by omega) (by omega) (fun v μ h => ?_) (fun _ _ h => h.elim)
    rcases h with ⟨k, hk, rfl, rfl⟩ | ⟨r2, τ2, hk, rfl, rfl⟩
    skip
    · rw [g1] at hk
      cases hk
    rw [g1] at hk
    cases hk
    dsimp only
    refine v_istore hC dL_law_386 (by decide) ?_
    refine v_aload_n hC dL_law_388 rfl ?_
    refine v_callV_r0 hC lk_L_134 dL_law_389 (c_X6_thrown hl0 hQ g2.1.1) (by omega) (by decide) hQ.k30 rfl rfl rfl rfl (Nat.le_of_ble_eq_true rfl) (by omega) (by omega) ?_
    rw [g3]
    refine v_iload hC dL_law_392 rfl ?_
    refine v_icmp_eq (tgt := 399) hC dL_law_394 (by decide) (fun _ => ?_) (fun q => absurd rfl q)
    refine v_iload hC dL_law_399 rfl ?_
    refine v_if_neN (tgt := 416) hC dL_law_401 (by decide) (by decide) (fun q => absurd rfl q) (fun _ => ?_)
    refine v_aload_n hC dL_law_404 rfl ?_
    refine v_iconst (v := nI 0) hC dL_law_405 (by decide) ?_
    refine al_60 hC dL_law_406 h60 (by decide) ?_
    rw [g4, wI_of hn]
    refine v_iload hC dL_law_407 rfl ?_
    refine v_i2l (v := lN (wI r)) hC dL_law_409 (lN_wN _).symm ?_
    refine v_lcmp hC dL_law_410 ?_
    refine v_if_eqJ (tgt := 416) hC dL_law_411 (by decide) (wI_lt r) (wI_lt r) (fun _ => ?_) (fun q => absurd rfl q)
    refine v_goto (tgt := 2247) hC dL_law_416 (by decide) ?_
    exact v_wide (by omega) (by omega) (v_sub rfl (nx _ _ _ _ _ g2 rfl rfl rfl rfl))
theorem cdl_edit (E : String) : cd_edit E < 5 ∧ cd_edit E ≠ 0 := by
  unfold cd_edit
  first | (constructor <;> decide) | (repeat' split) <;> (constructor <;> decide)
theorem hxs_edit {σ : SG} {a1 a2 a3 a4 : Int32} {E : String} (h : k_edit σ a1 a2 a3 a4 = .inl E) : E = eNSE ∨ E = eIOB ∨ E = eIAE ∨ E = eISE := by
  have h2 : ON (k_edit σ a1 a2 a3 a4) [eNSE, eIOB, eIAE, eISE] := by
    unfold k_edit
    repeat (first | exact on_ret | exact on_err (by simp) | refine on_gR (by simp) (fun _ => ?_) | refine on_ite ?_ ?_)
  simpa using h2 E h
set_option maxHeartbeats 4000000 in
set_option maxRecDepth 100000 in
theorem case_edit {X : XT} {G : GT} {mc ms K0 S0 p N : Nat} {sc : Nat → Int32} {ok : KF} {ad : AD} {σ : SG} {A : AS} {e i : Nat} (hl0 : (xl X).stackTraces = false) (hC : Cx X G "BranchyardLaw" cL_law 9 16 mc ms) (hN : NC (xs X)) (hP : Scr G (xs X) p N sc) (hNl : N ≤ 3072) (hI : INV G ok ad σ A e i) (hj : 6 * i + 6 ≤ N) (h1 : K0 + 200 * (i + 1) ≤ mc) (h2 : S0 + 3000 * (i + 1) + 4 * 4700 ≤ ms)
    (nx : ∀ ok' ad' σ' A' e', INV G ok' ad' σ' A' e' (i + 1) → ad' 0 0 0 = ad 0 0 0 → ad' 30 0 0 = ad 30 0 0 → ad' 60 0 0 = ad 60 0 0 → ad' 61 0 0 = ad 61 0 0 → V X G (K0 + 200 * (i + 1)) (S0 + 3000 * (i + 1) + 4 * e') ok' ad' σ' [(0, .ref p), (1, .ref (ad 0 0 0)), (2, .ref (ad 30 0 0)), (3, .ref (ad 60 0 0)), (4, .ref (ad 61 0 0)), (5, iv (6 * i))] 2247 []) : V X G (K0 + 200 * i) (S0 + 3000 * i + 4 * e) ok ad σ [(0, .ref p), (1, .ref (ad 0 0 0)), (2, .ref (ad 30 0 0)), (3, .ref (ad 60 0 0)), (4, .ref (ad 61 0 0)), (5, iv (6 * i))] 419 [] := by
  obtain ⟨hR, ⟨hCK, hVK⟩, ⟨hArr, hKM⟩, ⟨h60, h61, n57, n58, n62, hO, hQ⟩, c5, c1, c6, cK, cq, ct, ce⟩ := id hI
  have hB := hR.1
  refine v_aload_n hC dL_law_419 rfl ?_
  refine v_aload_n hC dL_law_420 rfl ?_
  refine v_iload hC dL_law_421 rfl ?_
  refine v_iconst (v := nI 1) hC dL_law_423 (by decide) ?_
  refine v_iaddN hC dL_law_424 ?_
  refine v_scr (x := 6 * i + 1) hC hP dL_law_425 (by omega) (by omega) ?_
  refine v_aload_n hC dL_law_426 rfl ?_
  refine v_iload hC dL_law_427 rfl ?_
  refine v_iconst (v := nI 2) hC dL_law_429 (by decide) ?_
  refine v_iaddN hC dL_law_430 ?_
  refine v_scr (x := 6 * i + 2) hC hP dL_law_431 (by omega) (by omega) ?_
  refine v_aload_n hC dL_law_432 rfl ?_
  refine v_iload hC dL_law_433 rfl ?_
  refine v_iconst (v := nI 3) hC dL_law_435 (by decide) ?_
  refine v_iaddN hC dL_law_436 ?_
  refine v_scr (x := 6 * i + 3) hC hP dL_law_437 (by omega) (by omega) ?_
  refine v_aload_n hC dL_law_438 rfl ?_
  refine v_iload hC dL_law_439 rfl ?_
  refine v_iconst (v := nI 4) hC dL_law_441 (by decide) ?_
  refine v_iaddN hC dL_law_442 ?_
  refine v_scr (x := 6 * i + 4) hC hP dL_law_443 (by omega) (by omega) ?_
  refine v_aload_n hC dL_law_444 rfl ?_
  refine v_callSN hC hN lkw_edit dL_law_445 (w_edit hl0 (c_X5_edit hl0 hO hB (sc (6 * i + 1)) (sc (6 * i + 2)) (sc (6 * i + 3)) (sc (6 * i + 4))) hO.k0 (fun v μ h => by obtain ⟨r, τ, -, rfl, rfl⟩ := h; exact ⟨⟨r, rfl⟩, h60, rfl⟩) (fun E μ h => hxs_edit h.1)) (by omega) (by decide) rfl rfl (Nat.le_of_ble_eq_true rfl) (by omega) (by omega) (fun v μ h => ?_)
  have hAG := law_simple hI (fun E => (cdl_edit E).1) (fun τ hτ => ag_edit hτ (sc (6 * i + 1)) (sc (6 * i + 2)) (sc (6 * i + 3)) (sc (6 * i + 4)))
  rcases h with ⟨E, ⟨hE, rfl⟩, rfl⟩ | ⟨n, μ0, ⟨r, s', hr, hn, rfl⟩, rfl, rfl⟩
  · dsimp only
    obtain ⟨g1, g2⟩ := hAG.1 E hE
    have cdE := cdl_edit E
    refine v_istore hC dL_law_448 (by decide) ?_
    refine v_aload_n hC dL_law_450 rfl ?_
    refine v_aload_n hC dL_law_451 rfl ?_
    refine v_iload hC dL_law_452 rfl ?_
    refine v_iconst (v := nI 1) hC dL_law_454 (by decide) ?_
    refine v_iaddN hC dL_law_455 ?_
    refine v_scr (x := 6 * i + 1) hC hP dL_law_456 (by omega) (by omega) ?_
    refine v_aload_n hC dL_law_457 rfl ?_
    refine v_iload hC dL_law_458 rfl ?_
    refine v_iconst (v := nI 2) hC dL_law_460 (by decide) ?_
    refine v_iaddN hC dL_law_461 ?_
    refine v_scr (x := 6 * i + 2) hC hP dL_law_462 (by omega) (by omega) ?_
    refine v_aload_n hC dL_law_463 rfl ?_
    refine v_iload hC dL_law_464 rfl ?_
    refine v_iconst (v := nI 3) hC dL_law_466 (by decide) ?_
    refine v_iaddN hC dL_law_467 ?_
    refine v_scr (x := 6 * i + 3) hC hP dL_law_468 (by omega) (by omega) ?_
    refine v_aload_n hC dL_law_469 rfl ?_
    refine v_iload hC dL_law_470 rfl ?_
    refine v_iconst (v := nI 4) hC dL_law_472 (by decide) ?_
    refine v_iaddN hC dL_law_473 ?_
    refine v_scr (x := 6 * i + 4) hC hP dL_law_474 (by omega) (by omega) ?_
    refine v_callV hC lk_L_148 dL_law_475 (c_X6_edit (σ := σ) hl0 hQ hB (sc (6 * i + 1)) (sc (6 * i + 2)) (sc (6 * i + 3)) (sc (6 * i + 4))) (by omega) (by decide) hQ.k30 rfl rfl rfl rfl (Nat.le_of_ble_eq_true rfl) (by omega) (by omega) (fun v μ h => ?_) (fun _ _ h => h.elim)
    rcases h with ⟨k, hk, rfl, rfl⟩ | ⟨r2, τ2, hk, rfl, rfl⟩
    rotate_left
    · rw [g1] at hk
      cases hk
    rw [g1] at hk
    cases hk
    dsimp only
    refine v_istore hC dL_law_478 (by decide) ?_
    refine v_aload_n hC dL_law_480 rfl ?_
    refine v_callV_r0 hC lk_L_134 dL_law_481 (c_X6_thrown hl0 hQ g2.1.1) (by omega) (by decide) hQ.k30 rfl rfl rfl rfl (Nat.le_of_ble_eq_true rfl) (by omega) (by omega) ?_
    rw [show th (th σ 0) (cd_edit E) 30 0 0 0 = cd_edit E from up_same _ _ _ _ _ _]
    refine v_iload hC dL_law_484 rfl ?_
    refine v_icmp_eq (tgt := 491) hC dL_law_486 (by decide) (fun _ => ?_) (fun q => absurd rfl q)
    refine v_iload hC dL_law_491 rfl ?_
    refine v_if_neN (tgt := 508) hC dL_law_493 (by decide) (by omega) (fun _ => ?_) (fun q => absurd q cdE.2)
    refine v_goto (tgt := 2247) hC dL_law_508 (by decide) ?_
    exact v_wide (by omega) (by omega) (v_sub rfl (nx _ _ _ _ _ g2 rfl rfl rfl rfl))
  · dsimp only
    obtain ⟨hBw, τ9, A9, g1, g2, g3, g4⟩ := hAG.2 r s' hr (wI n) (wI_lt n)
    refine v_istore hC dL_law_448 (by decide) ?_
    refine v_aload_n hC dL_law_450 rfl ?_
    refine v_aload_n hC dL_law_451 rfl ?_
    refine v_iload hC dL_law_452 rfl ?_
    refine v_iconst (v := nI 1) hC dL_law_454 (by decide) ?_
    refine v_iaddN hC dL_law_455 ?_
    refine v_scr (x := 6 * i + 1) hC hP dL_law_456 (by omega) (by omega) ?_
    refine v_aload_n hC dL_law_457 rfl ?_
    refine v_iload hC dL_law_458 rfl ?_
    refine v_iconst (v := nI 2) hC dL_law_460 (by decide) ?_
    refine v_iaddN hC dL_law_461 ?_
    refine v_scr (x := 6 * i + 2) hC hP dL_law_462 (by omega) (by omega) ?_
    refine v_aload_n hC dL_law_463 rfl ?_
    refine v_iload hC dL_law_464 rfl ?_
    refine v_iconst (v := nI 3) hC dL_law_466 (by decide) ?_
    refine v_iaddN hC dL_law_467 ?_
    refine v_scr (x := 6 * i + 3) hC hP dL_law_468 (by omega) (by omega) ?_
    refine v_aload_n hC dL_law_469 rfl ?_
    refine v_iload hC dL_law_470 rfl ?_
    refine v_iconst (v := nI 4) hC dL_law_472 (by decide) ?_
    refine v_iaddN hC dL_law_473 ?_
    refine v_scr (x := 6 * i + 4) hC hP dL_law_474 (by omega) (by omega) ?_
    refine v_callV hC lk_L_148 dL_law_475 (c_X6_edit (σ := (up s' 60 0 0 0 (wI n))) hl0 hQ hBw (sc (6 * i + 1)) (sc (6 * i + 2)) (sc (6 * i + 3)) (sc (6 * i + 4))) (by omega) (by decide) hQ.k30 rfl rfl rfl rfl (Nat.le_of_ble_eq_true rfl) (by omega) (by omega) (fun v μ h => ?_) (fun _ _ h => h.elim)
    rcases h with ⟨k, hk, rfl, rfl⟩ | ⟨r2, τ2, hk, rfl, rfl⟩
    skip
    · rw [g1] at hk
      cases hk
    rw [g1] at hk
    cases hk
    dsimp only
    refine v_istore hC dL_law_478 (by decide) ?_
    refine v_aload_n hC dL_law_480 rfl ?_
    refine v_callV_r0 hC lk_L_134 dL_law_481 (c_X6_thrown hl0 hQ g2.1.1) (by omega) (by decide) hQ.k30 rfl rfl rfl rfl (Nat.le_of_ble_eq_true rfl) (by omega) (by omega) ?_
    rw [g3]
    refine v_iload hC dL_law_484 rfl ?_
    refine v_icmp_eq (tgt := 491) hC dL_law_486 (by decide) (fun _ => ?_) (fun q => absurd rfl q)
    refine v_iload hC dL_law_491 rfl ?_
    refine v_if_neN (tgt := 508) hC dL_law_493 (by decide) (by decide) (fun q => absurd rfl q) (fun _ => ?_)
    refine v_aload_n hC dL_law_496 rfl ?_
    refine v_iconst (v := nI 0) hC dL_law_497 (by decide) ?_
    refine al_60 hC dL_law_498 h60 (by decide) ?_
    rw [g4, wI_of hn]
    refine v_iload hC dL_law_499 rfl ?_
    refine v_i2l (v := lN (wI r)) hC dL_law_501 (lN_wN _).symm ?_
    refine v_lcmp hC dL_law_502 ?_
    refine v_if_eqJ (tgt := 508) hC dL_law_503 (by decide) (wI_lt r) (wI_lt r) (fun _ => ?_) (fun q => absurd rfl q)
    refine v_goto (tgt := 2247) hC dL_law_508 (by decide) ?_
    exact v_wide (by omega) (by omega) (v_sub rfl (nx _ _ _ _ _ g2 rfl rfl rfl rfl))
theorem cdl_take (E : String) : cd_take E < 5 ∧ cd_take E ≠ 0 := by
  unfold cd_take
  first | (constructor <;> decide) | (repeat' split) <;> (constructor <;> decide)
theorem hxs_take {σ : SG} {a1 a2 a3 : Int32} {E : String} (h : k_take σ a1 a2 a3 = .inl E) : E = eNSE ∨ E = eIOB ∨ E = eISE := by
  have h2 : ON (k_take σ a1 a2 a3) [eNSE, eIOB, eISE] := by
    unfold k_take
    repeat (first | exact on_ret | exact on_err (by simp) | refine on_gR (by simp) (fun _ => ?_) | refine on_ite ?_ ?_)
  simpa using h2 E h
set_option maxHeartbeats 4000000 in
set_option maxRecDepth 100000 in
theorem case_take {X : XT} {G : GT} {mc ms K0 S0 p N : Nat} {sc : Nat → Int32} {ok : KF} {ad : AD} {σ : SG} {A : AS} {e i : Nat} (hl0 : (xl X).stackTraces = false) (hC : Cx X G "BranchyardLaw" cL_law 9 16 mc ms) (hN : NC (xs X)) (hP : Scr G (xs X) p N sc) (hNl : N ≤ 3072) (hI : INV G ok ad σ A e i) (hj : 6 * i + 6 ≤ N) (h1 : K0 + 200 * (i + 1) ≤ mc) (h2 : S0 + 3000 * (i + 1) + 4 * 4700 ≤ ms)
    (nx : ∀ ok' ad' σ' A' e', INV G ok' ad' σ' A' e' (i + 1) → ad' 0 0 0 = ad 0 0 0 → ad' 30 0 0 = ad 30 0 0 → ad' 60 0 0 = ad 60 0 0 → ad' 61 0 0 = ad 61 0 0 → V X G (K0 + 200 * (i + 1)) (S0 + 3000 * (i + 1) + 4 * e') ok' ad' σ' [(0, .ref p), (1, .ref (ad 0 0 0)), (2, .ref (ad 30 0 0)), (3, .ref (ad 60 0 0)), (4, .ref (ad 61 0 0)), (5, iv (6 * i))] 2247 []) : V X G (K0 + 200 * i) (S0 + 3000 * i + 4 * e) ok ad σ [(0, .ref p), (1, .ref (ad 0 0 0)), (2, .ref (ad 30 0 0)), (3, .ref (ad 60 0 0)), (4, .ref (ad 61 0 0)), (5, iv (6 * i))] 511 [] := by
  obtain ⟨hR, ⟨hCK, hVK⟩, ⟨hArr, hKM⟩, ⟨h60, h61, n57, n58, n62, hO, hQ⟩, c5, c1, c6, cK, cq, ct, ce⟩ := id hI
  have hB := hR.1
  refine v_aload_n hC dL_law_511 rfl ?_
  refine v_aload_n hC dL_law_512 rfl ?_
  refine v_iload hC dL_law_513 rfl ?_
  refine v_iconst (v := nI 1) hC dL_law_515 (by decide) ?_
  refine v_iaddN hC dL_law_516 ?_
  refine v_scr (x := 6 * i + 1) hC hP dL_law_517 (by omega) (by omega) ?_
  refine v_aload_n hC dL_law_518 rfl ?_
  refine v_iload hC dL_law_519 rfl ?_
  refine v_iconst (v := nI 2) hC dL_law_521 (by decide) ?_
  refine v_iaddN hC dL_law_522 ?_
  refine v_scr (x := 6 * i + 2) hC hP dL_law_523 (by omega) (by omega) ?_
  refine v_aload_n hC dL_law_524 rfl ?_
  refine v_iload hC dL_law_525 rfl ?_
  refine v_iconst (v := nI 3) hC dL_law_527 (by decide) ?_
  refine v_iaddN hC dL_law_528 ?_
  refine v_scr (x := 6 * i + 3) hC hP dL_law_529 (by omega) (by omega) ?_
  refine v_aload_n hC dL_law_530 rfl ?_
  refine v_callSN hC hN lkw_take dL_law_531 (w_take hl0 (c_X5_take hl0 hO hB (sc (6 * i + 1)) (sc (6 * i + 2)) (sc (6 * i + 3))) hO.k0 (fun v μ h => by obtain ⟨r, τ, -, rfl, rfl⟩ := h; exact ⟨⟨r, rfl⟩, h60, rfl⟩) (fun E μ h => hxs_take h.1)) (by omega) (by decide) rfl rfl (Nat.le_of_ble_eq_true rfl) (by omega) (by omega) (fun v μ h => ?_)
  have hAG := law_simple hI (fun E => (cdl_take E).1) (fun τ hτ => ag_take hτ (sc (6 * i + 1)) (sc (6 * i + 2)) (sc (6 * i + 3)))
  rcases h with ⟨E, ⟨hE, rfl⟩, rfl⟩ | ⟨n, μ0, ⟨r, s', hr, hn, rfl⟩, rfl, rfl⟩
  · dsimp only
    obtain ⟨g1, g2⟩ := hAG.1 E hE
    have cdE := cdl_take E
    refine v_istore hC dL_law_534 (by decide) ?_
    refine v_aload_n hC dL_law_536 rfl ?_
    refine v_aload_n hC dL_law_537 rfl ?_
    refine v_iload hC dL_law_538 rfl ?_
    refine v_iconst (v := nI 1) hC dL_law_540 (by decide) ?_
    refine v_iaddN hC dL_law_541 ?_
    refine v_scr (x := 6 * i + 1) hC hP dL_law_542 (by omega) (by omega) ?_
    refine v_aload_n hC dL_law_543 rfl ?_
    refine v_iload hC dL_law_544 rfl ?_
    refine v_iconst (v := nI 2) hC dL_law_546 (by decide) ?_
    refine v_iaddN hC dL_law_547 ?_
    refine v_scr (x := 6 * i + 2) hC hP dL_law_548 (by omega) (by omega) ?_
    refine v_aload_n hC dL_law_549 rfl ?_
    refine v_iload hC dL_law_550 rfl ?_
    refine v_iconst (v := nI 3) hC dL_law_552 (by decide) ?_
    refine v_iaddN hC dL_law_553 ?_
    refine v_scr (x := 6 * i + 3) hC hP dL_law_554 (by omega) (by omega) ?_
    refine v_callV hC lk_L_151 dL_law_555 (c_X6_take (σ := σ) hl0 hQ hB (sc (6 * i + 1)) (sc (6 * i + 2)) (sc (6 * i + 3))) (by omega) (by decide) hQ.k30 rfl rfl rfl rfl (Nat.le_of_ble_eq_true rfl) (by omega) (by omega) (fun v μ h => ?_) (fun _ _ h => h.elim)
    rcases h with ⟨k, hk, rfl, rfl⟩ | ⟨r2, τ2, hk, rfl, rfl⟩
    rotate_left
    · rw [g1] at hk
      cases hk
    rw [g1] at hk
    cases hk
    dsimp only
    refine v_istore hC dL_law_558 (by decide) ?_
    refine v_aload_n hC dL_law_560 rfl ?_
    refine v_callV_r0 hC lk_L_134 dL_law_561 (c_X6_thrown hl0 hQ g2.1.1) (by omega) (by decide) hQ.k30 rfl rfl rfl rfl (Nat.le_of_ble_eq_true rfl) (by omega) (by omega) ?_
    rw [show th (th σ 0) (cd_take E) 30 0 0 0 = cd_take E from up_same _ _ _ _ _ _]
    refine v_iload hC dL_law_564 rfl ?_
    refine v_icmp_eq (tgt := 571) hC dL_law_566 (by decide) (fun _ => ?_) (fun q => absurd rfl q)
    refine v_iload hC dL_law_571 rfl ?_
    refine v_if_neN (tgt := 588) hC dL_law_573 (by decide) (by omega) (fun _ => ?_) (fun q => absurd q cdE.2)
    refine v_goto (tgt := 2247) hC dL_law_588 (by decide) ?_
    exact v_wide (by omega) (by omega) (v_sub rfl (nx _ _ _ _ _ g2 rfl rfl rfl rfl))
  · dsimp only
    obtain ⟨hBw, τ9, A9, g1, g2, g3, g4⟩ := hAG.2 r s' hr (wI n) (wI_lt n)
    refine v_istore hC dL_law_534 (by decide) ?_
    refine v_aload_n hC dL_law_536 rfl ?_
    refine v_aload_n hC dL_law_537 rfl ?_
    refine v_iload hC dL_law_538 rfl ?_
    refine v_iconst (v := nI 1) hC dL_law_540 (by decide) ?_
    refine v_iaddN hC dL_law_541 ?_
    refine v_scr (x := 6 * i + 1) hC hP dL_law_542 (by omega) (by omega) ?_
    refine v_aload_n hC dL_law_543 rfl ?_
    refine v_iload hC dL_law_544 rfl ?_
    refine v_iconst (v := nI 2) hC dL_law_546 (by decide) ?_
    refine v_iaddN hC dL_law_547 ?_
    refine v_scr (x := 6 * i + 2) hC hP dL_law_548 (by omega) (by omega) ?_
    refine v_aload_n hC dL_law_549 rfl ?_
    refine v_iload hC dL_law_550 rfl ?_
    refine v_iconst (v := nI 3) hC dL_law_552 (by decide) ?_
    refine v_iaddN hC dL_law_553 ?_
    refine v_scr (x := 6 * i + 3) hC hP dL_law_554 (by omega) (by omega) ?_
    refine v_callV hC lk_L_151 dL_law_555 (c_X6_take (σ := (up s' 60 0 0 0 (wI n))) hl0 hQ hBw (sc (6 * i + 1)) (sc (6 * i + 2)) (sc (6 * i + 3))) (by omega) (by decide) hQ.k30 rfl rfl rfl rfl (Nat.le_of_ble_eq_true rfl) (by omega) (by omega) (fun v μ h => ?_) (fun _ _ h => h.elim)
    rcases h with ⟨k, hk, rfl, rfl⟩ | ⟨r2, τ2, hk, rfl, rfl⟩
    skip
    · rw [g1] at hk
      cases hk
    rw [g1] at hk
    cases hk
    dsimp only
    refine v_istore hC dL_law_558 (by decide) ?_
    refine v_aload_n hC dL_law_560 rfl ?_
    refine v_callV_r0 hC lk_L_134 dL_law_561 (c_X6_thrown hl0 hQ g2.1.1) (by omega) (by decide) hQ.k30 rfl rfl rfl rfl (Nat.le_of_ble_eq_true rfl) (by omega) (by omega) ?_
    rw [g3]
    refine v_iload hC dL_law_564 rfl ?_
    refine v_icmp_eq (tgt := 571) hC dL_law_566 (by decide) (fun _ => ?_) (fun q => absurd rfl q)
    refine v_iload hC dL_law_571 rfl ?_
    refine v_if_neN (tgt := 588) hC dL_law_573 (by decide) (by decide) (fun q => absurd rfl q) (fun _ => ?_)
    refine v_aload_n hC dL_law_576 rfl ?_
    refine v_iconst (v := nI 0) hC dL_law_577 (by decide) ?_
    refine al_60 hC dL_law_578 h60 (by decide) ?_
    rw [g4, wI_of hn]
    refine v_iload hC dL_law_579 rfl ?_
    refine v_i2l (v := lN (wI r)) hC dL_law_581 (lN_wN _).symm ?_
    refine v_lcmp hC dL_law_582 ?_
    refine v_if_eqJ (tgt := 588) hC dL_law_583 (by decide) (wI_lt r) (wI_lt r) (fun _ => ?_) (fun q => absurd rfl q)
    refine v_goto (tgt := 2247) hC dL_law_588 (by decide) ?_
    exact v_wide (by omega) (by omega) (v_sub rfl (nx _ _ _ _ _ g2 rfl rfl rfl rfl))
theorem cdl_close (E : String) : cd_close E < 5 ∧ cd_close E ≠ 0 := by
  unfold cd_close
  first | (constructor <;> decide) | (repeat' split) <;> (constructor <;> decide)
theorem hxs_close {σ : SG} {a1 : Int32} {E : String} (h : k_close σ a1 = .inl E) : E = eNSE ∨ E = eISE := by
  have h2 : ON (k_close σ a1) [eNSE, eISE] := by
    unfold k_close
    repeat (first | exact on_ret | exact on_err (by simp) | refine on_gR (by simp) (fun _ => ?_) | refine on_ite ?_ ?_)
  simpa using h2 E h
set_option maxHeartbeats 4000000 in
set_option maxRecDepth 100000 in
theorem case_close {X : XT} {G : GT} {mc ms K0 S0 p N : Nat} {sc : Nat → Int32} {ok : KF} {ad : AD} {σ : SG} {A : AS} {e i : Nat} (hl0 : (xl X).stackTraces = false) (hC : Cx X G "BranchyardLaw" cL_law 9 16 mc ms) (hN : NC (xs X)) (hP : Scr G (xs X) p N sc) (hNl : N ≤ 3072) (hI : INV G ok ad σ A e i) (hj : 6 * i + 6 ≤ N) (h1 : K0 + 200 * (i + 1) ≤ mc) (h2 : S0 + 3000 * (i + 1) + 4 * 4700 ≤ ms)
    (nx : ∀ ok' ad' σ' A' e', INV G ok' ad' σ' A' e' (i + 1) → ad' 0 0 0 = ad 0 0 0 → ad' 30 0 0 = ad 30 0 0 → ad' 60 0 0 = ad 60 0 0 → ad' 61 0 0 = ad 61 0 0 → V X G (K0 + 200 * (i + 1)) (S0 + 3000 * (i + 1) + 4 * e') ok' ad' σ' [(0, .ref p), (1, .ref (ad 0 0 0)), (2, .ref (ad 30 0 0)), (3, .ref (ad 60 0 0)), (4, .ref (ad 61 0 0)), (5, iv (6 * i))] 2247 []) : V X G (K0 + 200 * i) (S0 + 3000 * i + 4 * e) ok ad σ [(0, .ref p), (1, .ref (ad 0 0 0)), (2, .ref (ad 30 0 0)), (3, .ref (ad 60 0 0)), (4, .ref (ad 61 0 0)), (5, iv (6 * i))] 591 [] := by
  obtain ⟨hR, ⟨hCK, hVK⟩, ⟨hArr, hKM⟩, ⟨h60, h61, n57, n58, n62, hO, hQ⟩, c5, c1, c6, cK, cq, ct, ce⟩ := id hI
  have hB := hR.1
  refine v_aload_n hC dL_law_591 rfl ?_
  refine v_aload_n hC dL_law_592 rfl ?_
  refine v_iload hC dL_law_593 rfl ?_
  refine v_iconst (v := nI 1) hC dL_law_595 (by decide) ?_
  refine v_iaddN hC dL_law_596 ?_
  refine v_scr (x := 6 * i + 1) hC hP dL_law_597 (by omega) (by omega) ?_
  refine v_aload_n hC dL_law_598 rfl ?_
  refine v_callSN hC hN lkw_close dL_law_599 (w_close hl0 (c_X5_close hl0 hO hB (sc (6 * i + 1))) hO.k0 (fun v μ h => by obtain ⟨r, τ, -, rfl, rfl⟩ := h; exact ⟨⟨r, rfl⟩, h60, rfl⟩) (fun E μ h => hxs_close h.1)) (by omega) (by decide) rfl rfl (Nat.le_of_ble_eq_true rfl) (by omega) (by omega) (fun v μ h => ?_)
  have hAG := law_simple hI (fun E => (cdl_close E).1) (fun τ hτ => ag_close hτ (sc (6 * i + 1)))
  rcases h with ⟨E, ⟨hE, rfl⟩, rfl⟩ | ⟨n, μ0, ⟨r, s', hr, hn, rfl⟩, rfl, rfl⟩
  · dsimp only
    obtain ⟨g1, g2⟩ := hAG.1 E hE
    have cdE := cdl_close E
    refine v_istore hC dL_law_602 (by decide) ?_
    refine v_aload_n hC dL_law_604 rfl ?_
    refine v_aload_n hC dL_law_605 rfl ?_
    refine v_iload hC dL_law_606 rfl ?_
    refine v_iconst (v := nI 1) hC dL_law_608 (by decide) ?_
    refine v_iaddN hC dL_law_609 ?_
    refine v_scr (x := 6 * i + 1) hC hP dL_law_610 (by omega) (by omega) ?_
    refine v_callV hC lk_L_154 dL_law_611 (c_X6_close (σ := σ) hl0 hQ hB (sc (6 * i + 1))) (by omega) (by decide) hQ.k30 rfl rfl rfl rfl (Nat.le_of_ble_eq_true rfl) (by omega) (by omega) (fun v μ h => ?_) (fun _ _ h => h.elim)
    rcases h with ⟨k, hk, rfl, rfl⟩ | ⟨r2, τ2, hk, rfl, rfl⟩
    rotate_left
    · rw [g1] at hk
      cases hk
    rw [g1] at hk
    cases hk
    dsimp only
    refine v_istore hC dL_law_614 (by decide) ?_
    refine v_aload_n hC dL_law_616 rfl ?_
    refine v_callV_r0 hC lk_L_134 dL_law_617 (c_X6_thrown hl0 hQ g2.1.1) (by omega) (by decide) hQ.k30 rfl rfl rfl rfl (Nat.le_of_ble_eq_true rfl) (by omega) (by omega) ?_
    rw [show th (th σ 0) (cd_close E) 30 0 0 0 = cd_close E from up_same _ _ _ _ _ _]
    refine v_iload hC dL_law_620 rfl ?_
    refine v_icmp_eq (tgt := 627) hC dL_law_622 (by decide) (fun _ => ?_) (fun q => absurd rfl q)
    refine v_iload hC dL_law_627 rfl ?_
    refine v_if_neN (tgt := 644) hC dL_law_629 (by decide) (by omega) (fun _ => ?_) (fun q => absurd q cdE.2)
    refine v_goto (tgt := 2247) hC dL_law_644 (by decide) ?_
    exact v_wide (by omega) (by omega) (v_sub rfl (nx _ _ _ _ _ g2 rfl rfl rfl rfl))
  · dsimp only
    obtain ⟨hBw, τ9, A9, g1, g2, g3, g4⟩ := hAG.2 r s' hr (wI n) (wI_lt n)
    refine v_istore hC dL_law_602 (by decide) ?_
    refine v_aload_n hC dL_law_604 rfl ?_
    refine v_aload_n hC dL_law_605 rfl ?_
    refine v_iload hC dL_law_606 rfl ?_
    refine v_iconst (v := nI 1) hC dL_law_608 (by decide) ?_
    refine v_iaddN hC dL_law_609 ?_
    refine v_scr (x := 6 * i + 1) hC hP dL_law_610 (by omega) (by omega) ?_
    refine v_callV hC lk_L_154 dL_law_611 (c_X6_close (σ := (up s' 60 0 0 0 (wI n))) hl0 hQ hBw (sc (6 * i + 1))) (by omega) (by decide) hQ.k30 rfl rfl rfl rfl (Nat.le_of_ble_eq_true rfl) (by omega) (by omega) (fun v μ h => ?_) (fun _ _ h => h.elim)
    rcases h with ⟨k, hk, rfl, rfl⟩ | ⟨r2, τ2, hk, rfl, rfl⟩
    skip
    · rw [g1] at hk
      cases hk
    rw [g1] at hk
    cases hk
    dsimp only
    refine v_istore hC dL_law_614 (by decide) ?_
    refine v_aload_n hC dL_law_616 rfl ?_
    refine v_callV_r0 hC lk_L_134 dL_law_617 (c_X6_thrown hl0 hQ g2.1.1) (by omega) (by decide) hQ.k30 rfl rfl rfl rfl (Nat.le_of_ble_eq_true rfl) (by omega) (by omega) ?_
    rw [g3]
    refine v_iload hC dL_law_620 rfl ?_
    refine v_icmp_eq (tgt := 627) hC dL_law_622 (by decide) (fun _ => ?_) (fun q => absurd rfl q)
    refine v_iload hC dL_law_627 rfl ?_
    refine v_if_neN (tgt := 644) hC dL_law_629 (by decide) (by decide) (fun q => absurd rfl q) (fun _ => ?_)
    refine v_aload_n hC dL_law_632 rfl ?_
    refine v_iconst (v := nI 0) hC dL_law_633 (by decide) ?_
    refine al_60 hC dL_law_634 h60 (by decide) ?_
    rw [g4, wI_of hn]
    refine v_iload hC dL_law_635 rfl ?_
    refine v_i2l (v := lN (wI r)) hC dL_law_637 (lN_wN _).symm ?_
    refine v_lcmp hC dL_law_638 ?_
    refine v_if_eqJ (tgt := 644) hC dL_law_639 (by decide) (wI_lt r) (wI_lt r) (fun _ => ?_) (fun q => absurd rfl q)
    refine v_goto (tgt := 2247) hC dL_law_644 (by decide) ?_
    exact v_wide (by omega) (by omega) (v_sub rfl (nx _ _ _ _ _ g2 rfl rfl rfl rfl))
theorem cdl_verdict (E : String) : cd_verdict E < 5 ∧ cd_verdict E ≠ 0 := by
  unfold cd_verdict
  first | (constructor <;> decide) | (repeat' split) <;> (constructor <;> decide)
theorem hxs_verdict {σ : SG} {a1 a2 : Int32} {E : String} (h : k_verdict σ a1 a2 = .inl E) : E = eNSE ∨ E = eIOB := by
  have h2 : ON (k_verdict σ a1 a2) [eNSE, eIOB] := by
    unfold k_verdict
    repeat (first | exact on_ret | exact on_err (by simp) | refine on_gR (by simp) (fun _ => ?_) | refine on_ite ?_ ?_)
  simpa using h2 E h
set_option maxHeartbeats 4000000 in
set_option maxRecDepth 100000 in
theorem case_verdict {X : XT} {G : GT} {mc ms K0 S0 p N : Nat} {sc : Nat → Int32} {ok : KF} {ad : AD} {σ : SG} {A : AS} {e i : Nat} (hl0 : (xl X).stackTraces = false) (hC : Cx X G "BranchyardLaw" cL_law 9 16 mc ms) (hN : NC (xs X)) (hP : Scr G (xs X) p N sc) (hNl : N ≤ 3072) (hI : INV G ok ad σ A e i) (hj : 6 * i + 6 ≤ N) (h1 : K0 + 200 * (i + 1) ≤ mc) (h2 : S0 + 3000 * (i + 1) + 4 * 4700 ≤ ms)
    (nx : ∀ ok' ad' σ' A' e', INV G ok' ad' σ' A' e' (i + 1) → ad' 0 0 0 = ad 0 0 0 → ad' 30 0 0 = ad 30 0 0 → ad' 60 0 0 = ad 60 0 0 → ad' 61 0 0 = ad 61 0 0 → V X G (K0 + 200 * (i + 1)) (S0 + 3000 * (i + 1) + 4 * e') ok' ad' σ' [(0, .ref p), (1, .ref (ad 0 0 0)), (2, .ref (ad 30 0 0)), (3, .ref (ad 60 0 0)), (4, .ref (ad 61 0 0)), (5, iv (6 * i))] 2247 []) : V X G (K0 + 200 * i) (S0 + 3000 * i + 4 * e) ok ad σ [(0, .ref p), (1, .ref (ad 0 0 0)), (2, .ref (ad 30 0 0)), (3, .ref (ad 60 0 0)), (4, .ref (ad 61 0 0)), (5, iv (6 * i))] 743 [] := by
  obtain ⟨hR, ⟨hCK, hVK⟩, ⟨hArr, hKM⟩, ⟨h60, h61, n57, n58, n62, hO, hQ⟩, c5, c1, c6, cK, cq, ct, ce⟩ := id hI
  have hB := hR.1
  refine v_aload_n hC dL_law_743 rfl ?_
  refine v_aload_n hC dL_law_744 rfl ?_
  refine v_iload hC dL_law_745 rfl ?_
  refine v_iconst (v := nI 1) hC dL_law_747 (by decide) ?_
  refine v_iaddN hC dL_law_748 ?_
  refine v_scr (x := 6 * i + 1) hC hP dL_law_749 (by omega) (by omega) ?_
  refine v_aload_n hC dL_law_750 rfl ?_
  refine v_iload hC dL_law_751 rfl ?_
  refine v_iconst (v := nI 2) hC dL_law_753 (by decide) ?_
  refine v_iaddN hC dL_law_754 ?_
  refine v_scr (x := 6 * i + 2) hC hP dL_law_755 (by omega) (by omega) ?_
  refine v_aload_n hC dL_law_756 rfl ?_
  refine v_callSN hC hN lkw_verdict dL_law_757 (w_verdict hl0 (c_X5_verdict hl0 hO hB (sc (6 * i + 1)) (sc (6 * i + 2))) hO.k0 (fun v μ h => by obtain ⟨r, τ, -, rfl, rfl⟩ := h; exact ⟨⟨r, rfl⟩, h60, rfl⟩) (fun E μ h => hxs_verdict h.1)) (by omega) (by decide) rfl rfl (Nat.le_of_ble_eq_true rfl) (by omega) (by omega) (fun v μ h => ?_)
  have hAG := law_simple hI (fun E => (cdl_verdict E).1) (fun τ hτ => ag_verdict hτ (sc (6 * i + 1)) (sc (6 * i + 2)))
  rcases h with ⟨E, ⟨hE, rfl⟩, rfl⟩ | ⟨n, μ0, ⟨r, s', hr, hn, rfl⟩, rfl, rfl⟩
  · dsimp only
    obtain ⟨g1, g2⟩ := hAG.1 E hE
    have cdE := cdl_verdict E
    refine v_istore hC dL_law_760 (by decide) ?_
    refine v_aload_n hC dL_law_762 rfl ?_
    refine v_aload_n hC dL_law_763 rfl ?_
    refine v_iload hC dL_law_764 rfl ?_
    refine v_iconst (v := nI 1) hC dL_law_766 (by decide) ?_
    refine v_iaddN hC dL_law_767 ?_
    refine v_scr (x := 6 * i + 1) hC hP dL_law_768 (by omega) (by omega) ?_
    refine v_aload_n hC dL_law_769 rfl ?_
    refine v_iload hC dL_law_770 rfl ?_
    refine v_iconst (v := nI 2) hC dL_law_772 (by decide) ?_
    refine v_iaddN hC dL_law_773 ?_
    refine v_scr (x := 6 * i + 2) hC hP dL_law_774 (by omega) (by omega) ?_
    refine v_callV hC lk_L_162 dL_law_775 (c_X6_verdict (σ := σ) hl0 hQ hB (sc (6 * i + 1)) (sc (6 * i + 2))) (by omega) (by decide) hQ.k30 rfl rfl rfl rfl (Nat.le_of_ble_eq_true rfl) (by omega) (by omega) (fun v μ h => ?_) (fun _ _ h => h.elim)
    rcases h with ⟨k, hk, rfl, rfl⟩ | ⟨r2, τ2, hk, rfl, rfl⟩
    rotate_left
    · rw [g1] at hk
      cases hk
    rw [g1] at hk
    cases hk
    dsimp only
    refine v_istore hC dL_law_778 (by decide) ?_
    refine v_aload_n hC dL_law_780 rfl ?_
    refine v_callV_r0 hC lk_L_134 dL_law_781 (c_X6_thrown hl0 hQ g2.1.1) (by omega) (by decide) hQ.k30 rfl rfl rfl rfl (Nat.le_of_ble_eq_true rfl) (by omega) (by omega) ?_
    rw [show th (th σ 0) (cd_verdict E) 30 0 0 0 = cd_verdict E from up_same _ _ _ _ _ _]
    refine v_iload hC dL_law_784 rfl ?_
    refine v_icmp_eq (tgt := 791) hC dL_law_786 (by decide) (fun _ => ?_) (fun q => absurd rfl q)
    refine v_iload hC dL_law_791 rfl ?_
    refine v_if_neN (tgt := 808) hC dL_law_793 (by decide) (by omega) (fun _ => ?_) (fun q => absurd q cdE.2)
    refine v_goto (tgt := 2247) hC dL_law_808 (by decide) ?_
    exact v_wide (by omega) (by omega) (v_sub rfl (nx _ _ _ _ _ g2 rfl rfl rfl rfl))
  · dsimp only
    obtain ⟨hBw, τ9, A9, g1, g2, g3, g4⟩ := hAG.2 r s' hr (wI n) (wI_lt n)
    refine v_istore hC dL_law_760 (by decide) ?_
    refine v_aload_n hC dL_law_762 rfl ?_
    refine v_aload_n hC dL_law_763 rfl ?_
    refine v_iload hC dL_law_764 rfl ?_
    refine v_iconst (v := nI 1) hC dL_law_766 (by decide) ?_
    refine v_iaddN hC dL_law_767 ?_
    refine v_scr (x := 6 * i + 1) hC hP dL_law_768 (by omega) (by omega) ?_
    refine v_aload_n hC dL_law_769 rfl ?_
    refine v_iload hC dL_law_770 rfl ?_
    refine v_iconst (v := nI 2) hC dL_law_772 (by decide) ?_
    refine v_iaddN hC dL_law_773 ?_
    refine v_scr (x := 6 * i + 2) hC hP dL_law_774 (by omega) (by omega) ?_
    refine v_callV hC lk_L_162 dL_law_775 (c_X6_verdict (σ := (up s' 60 0 0 0 (wI n))) hl0 hQ hBw (sc (6 * i + 1)) (sc (6 * i + 2))) (by omega) (by decide) hQ.k30 rfl rfl rfl rfl (Nat.le_of_ble_eq_true rfl) (by omega) (by omega) (fun v μ h => ?_) (fun _ _ h => h.elim)
    rcases h with ⟨k, hk, rfl, rfl⟩ | ⟨r2, τ2, hk, rfl, rfl⟩
    skip
    · rw [g1] at hk
      cases hk
    rw [g1] at hk
    cases hk
    dsimp only
    refine v_istore hC dL_law_778 (by decide) ?_
    refine v_aload_n hC dL_law_780 rfl ?_
    refine v_callV_r0 hC lk_L_134 dL_law_781 (c_X6_thrown hl0 hQ g2.1.1) (by omega) (by decide) hQ.k30 rfl rfl rfl rfl (Nat.le_of_ble_eq_true rfl) (by omega) (by omega) ?_
    rw [g3]
    refine v_iload hC dL_law_784 rfl ?_
    refine v_icmp_eq (tgt := 791) hC dL_law_786 (by decide) (fun _ => ?_) (fun q => absurd rfl q)
    refine v_iload hC dL_law_791 rfl ?_
    refine v_if_neN (tgt := 808) hC dL_law_793 (by decide) (by decide) (fun q => absurd rfl q) (fun _ => ?_)
    refine v_aload_n hC dL_law_796 rfl ?_
    refine v_iconst (v := nI 0) hC dL_law_797 (by decide) ?_
    refine al_60 hC dL_law_798 h60 (by decide) ?_
    rw [g4, wI_of hn]
    refine v_iload hC dL_law_799 rfl ?_
    refine v_i2l (v := lN (wI r)) hC dL_law_801 (lN_wN _).symm ?_
    refine v_lcmp hC dL_law_802 ?_
    refine v_if_eqJ (tgt := 808) hC dL_law_803 (by decide) (wI_lt r) (wI_lt r) (fun _ => ?_) (fun q => absurd rfl q)
    refine v_goto (tgt := 2247) hC dL_law_808 (by decide) ?_
    exact v_wide (by omega) (by omega) (v_sub rfl (nx _ _ _ _ _ g2 rfl rfl rfl rfl))
theorem cdl_asked (E : String) : cd_asked E < 5 ∧ cd_asked E ≠ 0 := by
  unfold cd_asked
  first | (constructor <;> decide) | (repeat' split) <;> (constructor <;> decide)
theorem hxs_asked {σ : SG} {a1 a2 : Int32} {E : String} (h : k_asked σ a1 a2 = .inl E) : E = eNSE ∨ E = eIOB := by
  have h2 : ON (k_asked σ a1 a2) [eNSE, eIOB] := by
    unfold k_asked
    repeat (first | exact on_ret | exact on_err (by simp) | refine on_gR (by simp) (fun _ => ?_) | refine on_ite ?_ ?_)
  simpa using h2 E h
set_option maxHeartbeats 4000000 in
set_option maxRecDepth 100000 in
theorem case_asked {X : XT} {G : GT} {mc ms K0 S0 p N : Nat} {sc : Nat → Int32} {ok : KF} {ad : AD} {σ : SG} {A : AS} {e i : Nat} (hl0 : (xl X).stackTraces = false) (hC : Cx X G "BranchyardLaw" cL_law 9 16 mc ms) (hN : NC (xs X)) (hP : Scr G (xs X) p N sc) (hNl : N ≤ 3072) (hI : INV G ok ad σ A e i) (hj : 6 * i + 6 ≤ N) (h1 : K0 + 200 * (i + 1) ≤ mc) (h2 : S0 + 3000 * (i + 1) + 4 * 4700 ≤ ms)
    (nx : ∀ ok' ad' σ' A' e', INV G ok' ad' σ' A' e' (i + 1) → ad' 0 0 0 = ad 0 0 0 → ad' 30 0 0 = ad 30 0 0 → ad' 60 0 0 = ad 60 0 0 → ad' 61 0 0 = ad 61 0 0 → V X G (K0 + 200 * (i + 1)) (S0 + 3000 * (i + 1) + 4 * e') ok' ad' σ' [(0, .ref p), (1, .ref (ad 0 0 0)), (2, .ref (ad 30 0 0)), (3, .ref (ad 60 0 0)), (4, .ref (ad 61 0 0)), (5, iv (6 * i))] 2247 []) : V X G (K0 + 200 * i) (S0 + 3000 * i + 4 * e) ok ad σ [(0, .ref p), (1, .ref (ad 0 0 0)), (2, .ref (ad 30 0 0)), (3, .ref (ad 60 0 0)), (4, .ref (ad 61 0 0)), (5, iv (6 * i))] 811 [] := by
  obtain ⟨hR, ⟨hCK, hVK⟩, ⟨hArr, hKM⟩, ⟨h60, h61, n57, n58, n62, hO, hQ⟩, c5, c1, c6, cK, cq, ct, ce⟩ := id hI
  have hB := hR.1
  refine v_aload_n hC dL_law_811 rfl ?_
  refine v_aload_n hC dL_law_812 rfl ?_
  refine v_iload hC dL_law_813 rfl ?_
  refine v_iconst (v := nI 1) hC dL_law_815 (by decide) ?_
  refine v_iaddN hC dL_law_816 ?_
  refine v_scr (x := 6 * i + 1) hC hP dL_law_817 (by omega) (by omega) ?_
  refine v_aload_n hC dL_law_818 rfl ?_
  refine v_iload hC dL_law_819 rfl ?_
  refine v_iconst (v := nI 2) hC dL_law_821 (by decide) ?_
  refine v_iaddN hC dL_law_822 ?_
  refine v_scr (x := 6 * i + 2) hC hP dL_law_823 (by omega) (by omega) ?_
  refine v_aload_n hC dL_law_824 rfl ?_
  refine v_callSN hC hN lkw_asked dL_law_825 (w_asked hl0 (c_X5_asked hl0 hO hB (sc (6 * i + 1)) (sc (6 * i + 2))) hO.k0 (fun v μ h => by obtain ⟨r, τ, -, rfl, rfl⟩ := h; exact ⟨⟨r, rfl⟩, h60, rfl⟩) (fun E μ h => hxs_asked h.1)) (by omega) (by decide) rfl rfl (Nat.le_of_ble_eq_true rfl) (by omega) (by omega) (fun v μ h => ?_)
  have hAG := law_simple hI (fun E => (cdl_asked E).1) (fun τ hτ => ag_asked hτ (sc (6 * i + 1)) (sc (6 * i + 2)))
  rcases h with ⟨E, ⟨hE, rfl⟩, rfl⟩ | ⟨n, μ0, ⟨r, s', hr, hn, rfl⟩, rfl, rfl⟩
  · dsimp only
    obtain ⟨g1, g2⟩ := hAG.1 E hE
    have cdE := cdl_asked E
    refine v_istore hC dL_law_828 (by decide) ?_
    refine v_aload_n hC dL_law_830 rfl ?_
    refine v_aload_n hC dL_law_831 rfl ?_
    refine v_iload hC dL_law_832 rfl ?_
    refine v_iconst (v := nI 1) hC dL_law_834 (by decide) ?_
    refine v_iaddN hC dL_law_835 ?_
    refine v_scr (x := 6 * i + 1) hC hP dL_law_836 (by omega) (by omega) ?_
    refine v_aload_n hC dL_law_837 rfl ?_
    refine v_iload hC dL_law_838 rfl ?_
    refine v_iconst (v := nI 2) hC dL_law_840 (by decide) ?_
    refine v_iaddN hC dL_law_841 ?_
    refine v_scr (x := 6 * i + 2) hC hP dL_law_842 (by omega) (by omega) ?_
    refine v_callV hC lk_L_165 dL_law_843 (c_X6_asked (σ := σ) hl0 hQ hB (sc (6 * i + 1)) (sc (6 * i + 2))) (by omega) (by decide) hQ.k30 rfl rfl rfl rfl (Nat.le_of_ble_eq_true rfl) (by omega) (by omega) (fun v μ h => ?_) (fun _ _ h => h.elim)
    rcases h with ⟨k, hk, rfl, rfl⟩ | ⟨r2, τ2, hk, rfl, rfl⟩
    rotate_left
    · rw [g1] at hk
      cases hk
    rw [g1] at hk
    cases hk
    dsimp only
    refine v_istore hC dL_law_846 (by decide) ?_
    refine v_aload_n hC dL_law_848 rfl ?_
    refine v_callV_r0 hC lk_L_134 dL_law_849 (c_X6_thrown hl0 hQ g2.1.1) (by omega) (by decide) hQ.k30 rfl rfl rfl rfl (Nat.le_of_ble_eq_true rfl) (by omega) (by omega) ?_
    rw [show th (th σ 0) (cd_asked E) 30 0 0 0 = cd_asked E from up_same _ _ _ _ _ _]
    refine v_iload hC dL_law_852 rfl ?_
    refine v_icmp_eq (tgt := 859) hC dL_law_854 (by decide) (fun _ => ?_) (fun q => absurd rfl q)
    refine v_iload hC dL_law_859 rfl ?_
    refine v_if_neN (tgt := 876) hC dL_law_861 (by decide) (by omega) (fun _ => ?_) (fun q => absurd q cdE.2)
    refine v_goto (tgt := 2247) hC dL_law_876 (by decide) ?_
    exact v_wide (by omega) (by omega) (v_sub rfl (nx _ _ _ _ _ g2 rfl rfl rfl rfl))
  · dsimp only
    obtain ⟨hBw, τ9, A9, g1, g2, g3, g4⟩ := hAG.2 r s' hr (wI n) (wI_lt n)
    refine v_istore hC dL_law_828 (by decide) ?_
    refine v_aload_n hC dL_law_830 rfl ?_
    refine v_aload_n hC dL_law_831 rfl ?_
    refine v_iload hC dL_law_832 rfl ?_
    refine v_iconst (v := nI 1) hC dL_law_834 (by decide) ?_
    refine v_iaddN hC dL_law_835 ?_
    refine v_scr (x := 6 * i + 1) hC hP dL_law_836 (by omega) (by omega) ?_
    refine v_aload_n hC dL_law_837 rfl ?_
    refine v_iload hC dL_law_838 rfl ?_
    refine v_iconst (v := nI 2) hC dL_law_840 (by decide) ?_
    refine v_iaddN hC dL_law_841 ?_
    refine v_scr (x := 6 * i + 2) hC hP dL_law_842 (by omega) (by omega) ?_
    refine v_callV hC lk_L_165 dL_law_843 (c_X6_asked (σ := (up s' 60 0 0 0 (wI n))) hl0 hQ hBw (sc (6 * i + 1)) (sc (6 * i + 2))) (by omega) (by decide) hQ.k30 rfl rfl rfl rfl (Nat.le_of_ble_eq_true rfl) (by omega) (by omega) (fun v μ h => ?_) (fun _ _ h => h.elim)
    rcases h with ⟨k, hk, rfl, rfl⟩ | ⟨r2, τ2, hk, rfl, rfl⟩
    skip
    · rw [g1] at hk
      cases hk
    rw [g1] at hk
    cases hk
    dsimp only
    refine v_istore hC dL_law_846 (by decide) ?_
    refine v_aload_n hC dL_law_848 rfl ?_
    refine v_callV_r0 hC lk_L_134 dL_law_849 (c_X6_thrown hl0 hQ g2.1.1) (by omega) (by decide) hQ.k30 rfl rfl rfl rfl (Nat.le_of_ble_eq_true rfl) (by omega) (by omega) ?_
    rw [g3]
    refine v_iload hC dL_law_852 rfl ?_
    refine v_icmp_eq (tgt := 859) hC dL_law_854 (by decide) (fun _ => ?_) (fun q => absurd rfl q)
    refine v_iload hC dL_law_859 rfl ?_
    refine v_if_neN (tgt := 876) hC dL_law_861 (by decide) (by decide) (fun q => absurd rfl q) (fun _ => ?_)
    refine v_aload_n hC dL_law_864 rfl ?_
    refine v_iconst (v := nI 0) hC dL_law_865 (by decide) ?_
    refine al_60 hC dL_law_866 h60 (by decide) ?_
    rw [g4, wI_of hn]
    refine v_iload hC dL_law_867 rfl ?_
    refine v_i2l (v := lN (wI r)) hC dL_law_869 (lN_wN _).symm ?_
    refine v_lcmp hC dL_law_870 ?_
    refine v_if_eqJ (tgt := 876) hC dL_law_871 (by decide) (wI_lt r) (wI_lt r) (fun _ => ?_) (fun q => absurd rfl q)
    refine v_goto (tgt := 2247) hC dL_law_876 (by decide) ?_
    exact v_wide (by omega) (by omega) (v_sub rfl (nx _ _ _ _ _ g2 rfl rfl rfl rfl))
theorem cdl_missing (E : String) : cd_missing E < 5 ∧ cd_missing E ≠ 0 := by
  unfold cd_missing
  first | (constructor <;> decide) | (repeat' split) <;> (constructor <;> decide)
theorem hxs_missing {σ : SG} {a1 : Int32} {E : String} (h : k_missing σ a1 = .inl E) : E = eNSE := by
  have h2 : ON (k_missing σ a1) [eNSE] := by
    unfold k_missing
    repeat (first | exact on_ret | exact on_err (by simp) | refine on_gR (by simp) (fun _ => ?_) | refine on_ite ?_ ?_)
  simpa using h2 E h
set_option maxHeartbeats 4000000 in
set_option maxRecDepth 100000 in
theorem case_missing {X : XT} {G : GT} {mc ms K0 S0 p N : Nat} {sc : Nat → Int32} {ok : KF} {ad : AD} {σ : SG} {A : AS} {e i : Nat} (hl0 : (xl X).stackTraces = false) (hC : Cx X G "BranchyardLaw" cL_law 9 16 mc ms) (hN : NC (xs X)) (hP : Scr G (xs X) p N sc) (hNl : N ≤ 3072) (hI : INV G ok ad σ A e i) (hj : 6 * i + 6 ≤ N) (h1 : K0 + 200 * (i + 1) ≤ mc) (h2 : S0 + 3000 * (i + 1) + 4 * 4700 ≤ ms)
    (nx : ∀ ok' ad' σ' A' e', INV G ok' ad' σ' A' e' (i + 1) → ad' 0 0 0 = ad 0 0 0 → ad' 30 0 0 = ad 30 0 0 → ad' 60 0 0 = ad 60 0 0 → ad' 61 0 0 = ad 61 0 0 → V X G (K0 + 200 * (i + 1)) (S0 + 3000 * (i + 1) + 4 * e') ok' ad' σ' [(0, .ref p), (1, .ref (ad 0 0 0)), (2, .ref (ad 30 0 0)), (3, .ref (ad 60 0 0)), (4, .ref (ad 61 0 0)), (5, iv (6 * i))] 2247 []) : V X G (K0 + 200 * i) (S0 + 3000 * i + 4 * e) ok ad σ [(0, .ref p), (1, .ref (ad 0 0 0)), (2, .ref (ad 30 0 0)), (3, .ref (ad 60 0 0)), (4, .ref (ad 61 0 0)), (5, iv (6 * i))] 879 [] := by
  obtain ⟨hR, ⟨hCK, hVK⟩, ⟨hArr, hKM⟩, ⟨h60, h61, n57, n58, n62, hO, hQ⟩, c5, c1, c6, cK, cq, ct, ce⟩ := id hI
  have hB := hR.1
  refine v_aload_n hC dL_law_879 rfl ?_
  refine v_aload_n hC dL_law_880 rfl ?_
  refine v_iload hC dL_law_881 rfl ?_
  refine v_iconst (v := nI 1) hC dL_law_883 (by decide) ?_
  refine v_iaddN hC dL_law_884 ?_
  refine v_scr (x := 6 * i + 1) hC hP dL_law_885 (by omega) (by omega) ?_
  refine v_aload_n hC dL_law_886 rfl ?_
  refine v_callSN hC hN lkw_missing dL_law_887 (w_missing hl0 (c_X5_missing hl0 hO hB (sc (6 * i + 1))) hO.k0 (fun v μ h => by obtain ⟨r, τ, -, rfl, rfl⟩ := h; exact ⟨⟨r, rfl⟩, h60, rfl⟩) (fun E μ h => hxs_missing h.1)) (by omega) (by decide) rfl rfl (Nat.le_of_ble_eq_true rfl) (by omega) (by omega) (fun v μ h => ?_)
  have hAG := law_simple hI (fun E => (cdl_missing E).1) (fun τ hτ => ag_missing hτ (sc (6 * i + 1)))
  rcases h with ⟨E, ⟨hE, rfl⟩, rfl⟩ | ⟨n, μ0, ⟨r, s', hr, hn, rfl⟩, rfl, rfl⟩
  · dsimp only
    obtain ⟨g1, g2⟩ := hAG.1 E hE
    have cdE := cdl_missing E
    refine v_istore hC dL_law_890 (by decide) ?_
    refine v_aload_n hC dL_law_892 rfl ?_
    refine v_aload_n hC dL_law_893 rfl ?_
    refine v_iload hC dL_law_894 rfl ?_
    refine v_iconst (v := nI 1) hC dL_law_896 (by decide) ?_
    refine v_iaddN hC dL_law_897 ?_
    refine v_scr (x := 6 * i + 1) hC hP dL_law_898 (by omega) (by omega) ?_
    refine v_callV hC lk_L_168 dL_law_899 (c_X6_missing (σ := σ) hl0 hQ hB (sc (6 * i + 1))) (by omega) (by decide) hQ.k30 rfl rfl rfl rfl (Nat.le_of_ble_eq_true rfl) (by omega) (by omega) (fun v μ h => ?_) (fun _ _ h => h.elim)
    rcases h with ⟨k, hk, rfl, rfl⟩ | ⟨r2, τ2, hk, rfl, rfl⟩
    rotate_left
    · rw [g1] at hk
      cases hk
    rw [g1] at hk
    cases hk
    dsimp only
    refine v_istore hC dL_law_902 (by decide) ?_
    refine v_aload_n hC dL_law_904 rfl ?_
    refine v_callV_r0 hC lk_L_134 dL_law_905 (c_X6_thrown hl0 hQ g2.1.1) (by omega) (by decide) hQ.k30 rfl rfl rfl rfl (Nat.le_of_ble_eq_true rfl) (by omega) (by omega) ?_
    rw [show th (th σ 0) (cd_missing E) 30 0 0 0 = cd_missing E from up_same _ _ _ _ _ _]
    refine v_iload hC dL_law_908 rfl ?_
    refine v_icmp_eq (tgt := 915) hC dL_law_910 (by decide) (fun _ => ?_) (fun q => absurd rfl q)
    refine v_iload hC dL_law_915 rfl ?_
    refine v_if_neN (tgt := 932) hC dL_law_917 (by decide) (by omega) (fun _ => ?_) (fun q => absurd q cdE.2)
    refine v_goto (tgt := 2247) hC dL_law_932 (by decide) ?_
    exact v_wide (by omega) (by omega) (v_sub rfl (nx _ _ _ _ _ g2 rfl rfl rfl rfl))
  · dsimp only
    obtain ⟨hBw, τ9, A9, g1, g2, g3, g4⟩ := hAG.2 r s' hr (wI n) (wI_lt n)
    refine v_istore hC dL_law_890 (by decide) ?_
    refine v_aload_n hC dL_law_892 rfl ?_
    refine v_aload_n hC dL_law_893 rfl ?_
    refine v_iload hC dL_law_894 rfl ?_
    refine v_iconst (v := nI 1) hC dL_law_896 (by decide) ?_
    refine v_iaddN hC dL_law_897 ?_
    refine v_scr (x := 6 * i + 1) hC hP dL_law_898 (by omega) (by omega) ?_
    refine v_callV hC lk_L_168 dL_law_899 (c_X6_missing (σ := (up s' 60 0 0 0 (wI n))) hl0 hQ hBw (sc (6 * i + 1))) (by omega) (by decide) hQ.k30 rfl rfl rfl rfl (Nat.le_of_ble_eq_true rfl) (by omega) (by omega) (fun v μ h => ?_) (fun _ _ h => h.elim)
    rcases h with ⟨k, hk, rfl, rfl⟩ | ⟨r2, τ2, hk, rfl, rfl⟩
    skip
    · rw [g1] at hk
      cases hk
    rw [g1] at hk
    cases hk
    dsimp only
    refine v_istore hC dL_law_902 (by decide) ?_
    refine v_aload_n hC dL_law_904 rfl ?_
    refine v_callV_r0 hC lk_L_134 dL_law_905 (c_X6_thrown hl0 hQ g2.1.1) (by omega) (by decide) hQ.k30 rfl rfl rfl rfl (Nat.le_of_ble_eq_true rfl) (by omega) (by omega) ?_
    rw [g3]
    refine v_iload hC dL_law_908 rfl ?_
    refine v_icmp_eq (tgt := 915) hC dL_law_910 (by decide) (fun _ => ?_) (fun q => absurd rfl q)
    refine v_iload hC dL_law_915 rfl ?_
    refine v_if_neN (tgt := 932) hC dL_law_917 (by decide) (by decide) (fun q => absurd rfl q) (fun _ => ?_)
    refine v_aload_n hC dL_law_920 rfl ?_
    refine v_iconst (v := nI 0) hC dL_law_921 (by decide) ?_
    refine al_60 hC dL_law_922 h60 (by decide) ?_
    rw [g4, wI_of hn]
    refine v_iload hC dL_law_923 rfl ?_
    refine v_i2l (v := lN (wI r)) hC dL_law_925 (lN_wN _).symm ?_
    refine v_lcmp hC dL_law_926 ?_
    refine v_if_eqJ (tgt := 932) hC dL_law_927 (by decide) (wI_lt r) (wI_lt r) (fun _ => ?_) (fun q => absurd rfl q)
    refine v_goto (tgt := 2247) hC dL_law_932 (by decide) ?_
    exact v_wide (by omega) (by omega) (v_sub rfl (nx _ _ _ _ _ g2 rfl rfl rfl rfl))
theorem cdl_queueAt (E : String) : cd_queueAt E < 5 ∧ cd_queueAt E ≠ 0 := by
  unfold cd_queueAt
  first | (constructor <;> decide) | (repeat' split) <;> (constructor <;> decide)
theorem hxs_queueAt {σ : SG} {a1 : Int32} {E : String} (h : k_queueAt σ a1 = .inl E) : E = eIOB := by
  have h2 : ON (k_queueAt σ a1) [eIOB] := by
    unfold k_queueAt
    repeat (first | exact on_ret | exact on_err (by simp) | refine on_gR (by simp) (fun _ => ?_) | refine on_ite ?_ ?_)
  simpa using h2 E h
set_option maxHeartbeats 4000000 in
set_option maxRecDepth 100000 in
theorem case_queueAt {X : XT} {G : GT} {mc ms K0 S0 p N : Nat} {sc : Nat → Int32} {ok : KF} {ad : AD} {σ : SG} {A : AS} {e i : Nat} (hl0 : (xl X).stackTraces = false) (hC : Cx X G "BranchyardLaw" cL_law 9 16 mc ms) (hN : NC (xs X)) (hP : Scr G (xs X) p N sc) (hNl : N ≤ 3072) (hI : INV G ok ad σ A e i) (hj : 6 * i + 6 ≤ N) (h1 : K0 + 200 * (i + 1) ≤ mc) (h2 : S0 + 3000 * (i + 1) + 4 * 4700 ≤ ms)
    (nx : ∀ ok' ad' σ' A' e', INV G ok' ad' σ' A' e' (i + 1) → ad' 0 0 0 = ad 0 0 0 → ad' 30 0 0 = ad 30 0 0 → ad' 60 0 0 = ad 60 0 0 → ad' 61 0 0 = ad 61 0 0 → V X G (K0 + 200 * (i + 1)) (S0 + 3000 * (i + 1) + 4 * e') ok' ad' σ' [(0, .ref p), (1, .ref (ad 0 0 0)), (2, .ref (ad 30 0 0)), (3, .ref (ad 60 0 0)), (4, .ref (ad 61 0 0)), (5, iv (6 * i))] 2247 []) : V X G (K0 + 200 * i) (S0 + 3000 * i + 4 * e) ok ad σ [(0, .ref p), (1, .ref (ad 0 0 0)), (2, .ref (ad 30 0 0)), (3, .ref (ad 60 0 0)), (4, .ref (ad 61 0 0)), (5, iv (6 * i))] 1047 [] := by
  obtain ⟨hR, ⟨hCK, hVK⟩, ⟨hArr, hKM⟩, ⟨h60, h61, n57, n58, n62, hO, hQ⟩, c5, c1, c6, cK, cq, ct, ce⟩ := id hI
  have hB := hR.1
  refine v_aload_n hC dL_law_1047 rfl ?_
  refine v_aload_n hC dL_law_1048 rfl ?_
  refine v_iload hC dL_law_1049 rfl ?_
  refine v_iconst (v := nI 1) hC dL_law_1051 (by decide) ?_
  refine v_iaddN hC dL_law_1052 ?_
  refine v_scr (x := 6 * i + 1) hC hP dL_law_1053 (by omega) (by omega) ?_
  refine v_aload_n hC dL_law_1054 rfl ?_
  refine v_callSN hC hN lkw_queueAt dL_law_1055 (w_queueAt hl0 (c_X5_queueAt hl0 hO hB (sc (6 * i + 1))) hO.k0 (fun v μ h => by obtain ⟨r, τ, -, rfl, rfl⟩ := h; exact ⟨⟨r, rfl⟩, h60, rfl⟩) (fun E μ h => hxs_queueAt h.1)) (by omega) (by decide) rfl rfl (Nat.le_of_ble_eq_true rfl) (by omega) (by omega) (fun v μ h => ?_)
  have hAG := law_simple hI (fun E => (cdl_queueAt E).1) (fun τ hτ => ag_queueAt hτ (sc (6 * i + 1)))
  rcases h with ⟨E, ⟨hE, rfl⟩, rfl⟩ | ⟨n, μ0, ⟨r, s', hr, hn, rfl⟩, rfl, rfl⟩
  · dsimp only
    obtain ⟨g1, g2⟩ := hAG.1 E hE
    have cdE := cdl_queueAt E
    refine v_istore hC dL_law_1058 (by decide) ?_
    refine v_aload_n hC dL_law_1060 rfl ?_
    refine v_aload_n hC dL_law_1061 rfl ?_
    refine v_iload hC dL_law_1062 rfl ?_
    refine v_iconst (v := nI 1) hC dL_law_1064 (by decide) ?_
    refine v_iaddN hC dL_law_1065 ?_
    refine v_scr (x := 6 * i + 1) hC hP dL_law_1066 (by omega) (by omega) ?_
    refine v_callV hC lk_L_177 dL_law_1067 (c_X6_queueAt (σ := σ) hl0 hQ hB (sc (6 * i + 1))) (by omega) (by decide) hQ.k30 rfl rfl rfl rfl (Nat.le_of_ble_eq_true rfl) (by omega) (by omega) (fun v μ h => ?_) (fun _ _ h => h.elim)
    rcases h with ⟨k, hk, rfl, rfl⟩ | ⟨r2, τ2, hk, rfl, rfl⟩
    rotate_left
    · rw [g1] at hk
      cases hk
    rw [g1] at hk
    cases hk
    dsimp only
    refine v_istore hC dL_law_1070 (by decide) ?_
    refine v_aload_n hC dL_law_1072 rfl ?_
    refine v_callV_r0 hC lk_L_134 dL_law_1073 (c_X6_thrown hl0 hQ g2.1.1) (by omega) (by decide) hQ.k30 rfl rfl rfl rfl (Nat.le_of_ble_eq_true rfl) (by omega) (by omega) ?_
    rw [show th (th σ 0) (cd_queueAt E) 30 0 0 0 = cd_queueAt E from up_same _ _ _ _ _ _]
    refine v_iload hC dL_law_1076 rfl ?_
    refine v_icmp_eq (tgt := 1083) hC dL_law_1078 (by decide) (fun _ => ?_) (fun q => absurd rfl q)
    refine v_iload hC dL_law_1083 rfl ?_
    refine v_if_neN (tgt := 1100) hC dL_law_1085 (by decide) (by omega) (fun _ => ?_) (fun q => absurd q cdE.2)
    refine v_goto (tgt := 2247) hC dL_law_1100 (by decide) ?_
    exact v_wide (by omega) (by omega) (v_sub rfl (nx _ _ _ _ _ g2 rfl rfl rfl rfl))
  · dsimp only
    obtain ⟨hBw, τ9, A9, g1, g2, g3, g4⟩ := hAG.2 r s' hr (wI n) (wI_lt n)
    refine v_istore hC dL_law_1058 (by decide) ?_
    refine v_aload_n hC dL_law_1060 rfl ?_
    refine v_aload_n hC dL_law_1061 rfl ?_
    refine v_iload hC dL_law_1062 rfl ?_
    refine v_iconst (v := nI 1) hC dL_law_1064 (by decide) ?_
    refine v_iaddN hC dL_law_1065 ?_
    refine v_scr (x := 6 * i + 1) hC hP dL_law_1066 (by omega) (by omega) ?_
    refine v_callV hC lk_L_177 dL_law_1067 (c_X6_queueAt (σ := (up s' 60 0 0 0 (wI n))) hl0 hQ hBw (sc (6 * i + 1))) (by omega) (by decide) hQ.k30 rfl rfl rfl rfl (Nat.le_of_ble_eq_true rfl) (by omega) (by omega) (fun v μ h => ?_) (fun _ _ h => h.elim)
    rcases h with ⟨k, hk, rfl, rfl⟩ | ⟨r2, τ2, hk, rfl, rfl⟩
    skip
    · rw [g1] at hk
      cases hk
    rw [g1] at hk
    cases hk
    dsimp only
    refine v_istore hC dL_law_1070 (by decide) ?_
    refine v_aload_n hC dL_law_1072 rfl ?_
    refine v_callV_r0 hC lk_L_134 dL_law_1073 (c_X6_thrown hl0 hQ g2.1.1) (by omega) (by decide) hQ.k30 rfl rfl rfl rfl (Nat.le_of_ble_eq_true rfl) (by omega) (by omega) ?_
    rw [g3]
    refine v_iload hC dL_law_1076 rfl ?_
    refine v_icmp_eq (tgt := 1083) hC dL_law_1078 (by decide) (fun _ => ?_) (fun q => absurd rfl q)
    refine v_iload hC dL_law_1083 rfl ?_
    refine v_if_neN (tgt := 1100) hC dL_law_1085 (by decide) (by decide) (fun q => absurd rfl q) (fun _ => ?_)
    refine v_aload_n hC dL_law_1088 rfl ?_
    refine v_iconst (v := nI 0) hC dL_law_1089 (by decide) ?_
    refine al_60 hC dL_law_1090 h60 (by decide) ?_
    rw [g4, wI_of hn]
    refine v_iload hC dL_law_1091 rfl ?_
    refine v_i2l (v := lN (wI r)) hC dL_law_1093 (lN_wN _).symm ?_
    refine v_lcmp hC dL_law_1094 ?_
    refine v_if_eqJ (tgt := 1100) hC dL_law_1095 (by decide) (wI_lt r) (wI_lt r) (fun _ => ?_) (fun q => absurd rfl q)
    refine v_goto (tgt := 2247) hC dL_law_1100 (by decide) ?_
    exact v_wide (by omega) (by omega) (v_sub rfl (nx _ _ _ _ _ g2 rfl rfl rfl rfl))
theorem cdl_stateOf (E : String) : cd_stateOf E < 5 ∧ cd_stateOf E ≠ 0 := by
  unfold cd_stateOf
  first | (constructor <;> decide) | (repeat' split) <;> (constructor <;> decide)
theorem hxs_stateOf {σ : SG} {a1 : Int32} {E : String} (h : k_stateOf σ a1 = .inl E) : E = eNSE := by
  have h2 : ON (k_stateOf σ a1) [eNSE] := by
    unfold k_stateOf
    repeat (first | exact on_ret | exact on_err (by simp) | refine on_gR (by simp) (fun _ => ?_) | refine on_ite ?_ ?_)
  simpa using h2 E h
set_option maxHeartbeats 4000000 in
set_option maxRecDepth 100000 in
theorem case_stateOf {X : XT} {G : GT} {mc ms K0 S0 p N : Nat} {sc : Nat → Int32} {ok : KF} {ad : AD} {σ : SG} {A : AS} {e i : Nat} (hl0 : (xl X).stackTraces = false) (hC : Cx X G "BranchyardLaw" cL_law 9 16 mc ms) (hN : NC (xs X)) (hP : Scr G (xs X) p N sc) (hNl : N ≤ 3072) (hI : INV G ok ad σ A e i) (hj : 6 * i + 6 ≤ N) (h1 : K0 + 200 * (i + 1) ≤ mc) (h2 : S0 + 3000 * (i + 1) + 4 * 4700 ≤ ms)
    (nx : ∀ ok' ad' σ' A' e', INV G ok' ad' σ' A' e' (i + 1) → ad' 0 0 0 = ad 0 0 0 → ad' 30 0 0 = ad 30 0 0 → ad' 60 0 0 = ad 60 0 0 → ad' 61 0 0 = ad 61 0 0 → V X G (K0 + 200 * (i + 1)) (S0 + 3000 * (i + 1) + 4 * e') ok' ad' σ' [(0, .ref p), (1, .ref (ad 0 0 0)), (2, .ref (ad 30 0 0)), (3, .ref (ad 60 0 0)), (4, .ref (ad 61 0 0)), (5, iv (6 * i))] 2247 []) : V X G (K0 + 200 * i) (S0 + 3000 * i + 4 * e) ok ad σ [(0, .ref p), (1, .ref (ad 0 0 0)), (2, .ref (ad 30 0 0)), (3, .ref (ad 60 0 0)), (4, .ref (ad 61 0 0)), (5, iv (6 * i))] 1238 [] := by
  obtain ⟨hR, ⟨hCK, hVK⟩, ⟨hArr, hKM⟩, ⟨h60, h61, n57, n58, n62, hO, hQ⟩, c5, c1, c6, cK, cq, ct, ce⟩ := id hI
  have hB := hR.1
  refine v_aload_n hC dL_law_1238 rfl ?_
  refine v_aload_n hC dL_law_1239 rfl ?_
  refine v_iload hC dL_law_1240 rfl ?_
  refine v_iconst (v := nI 1) hC dL_law_1242 (by decide) ?_
  refine v_iaddN hC dL_law_1243 ?_
  refine v_scr (x := 6 * i + 1) hC hP dL_law_1244 (by omega) (by omega) ?_
  refine v_aload_n hC dL_law_1245 rfl ?_
  refine v_callSN hC hN lkw_stateOf dL_law_1246 (w_stateOf hl0 (c_X5_stateOf hl0 hO hB (sc (6 * i + 1))) hO.k0 (fun v μ h => by obtain ⟨r, τ, -, rfl, rfl⟩ := h; exact ⟨⟨r, rfl⟩, h60, rfl⟩) (fun E μ h => hxs_stateOf h.1)) (by omega) (by decide) rfl rfl (Nat.le_of_ble_eq_true rfl) (by omega) (by omega) (fun v μ h => ?_)
  have hAG := law_simple hI (fun E => (cdl_stateOf E).1) (fun τ hτ => ag_stateOf hτ (sc (6 * i + 1)))
  rcases h with ⟨E, ⟨hE, rfl⟩, rfl⟩ | ⟨n, μ0, ⟨r, s', hr, hn, rfl⟩, rfl, rfl⟩
  · dsimp only
    obtain ⟨g1, g2⟩ := hAG.1 E hE
    have cdE := cdl_stateOf E
    refine v_istore hC dL_law_1249 (by decide) ?_
    refine v_aload_n hC dL_law_1251 rfl ?_
    refine v_aload_n hC dL_law_1252 rfl ?_
    refine v_iload hC dL_law_1253 rfl ?_
    refine v_iconst (v := nI 1) hC dL_law_1255 (by decide) ?_
    refine v_iaddN hC dL_law_1256 ?_
    refine v_scr (x := 6 * i + 1) hC hP dL_law_1257 (by omega) (by omega) ?_
    refine v_callV hC lk_L_187 dL_law_1258 (c_X6_stateOf (σ := σ) hl0 hQ hB (sc (6 * i + 1))) (by omega) (by decide) hQ.k30 rfl rfl rfl rfl (Nat.le_of_ble_eq_true rfl) (by omega) (by omega) (fun v μ h => ?_) (fun _ _ h => h.elim)
    rcases h with ⟨k, hk, rfl, rfl⟩ | ⟨r2, τ2, hk, rfl, rfl⟩
    rotate_left
    · rw [g1] at hk
      cases hk
    rw [g1] at hk
    cases hk
    dsimp only
    refine v_istore hC dL_law_1261 (by decide) ?_
    refine v_aload_n hC dL_law_1263 rfl ?_
    refine v_callV_r0 hC lk_L_134 dL_law_1264 (c_X6_thrown hl0 hQ g2.1.1) (by omega) (by decide) hQ.k30 rfl rfl rfl rfl (Nat.le_of_ble_eq_true rfl) (by omega) (by omega) ?_
    rw [show th (th σ 0) (cd_stateOf E) 30 0 0 0 = cd_stateOf E from up_same _ _ _ _ _ _]
    refine v_iload hC dL_law_1267 rfl ?_
    refine v_icmp_eq (tgt := 1274) hC dL_law_1269 (by decide) (fun _ => ?_) (fun q => absurd rfl q)
    refine v_iload hC dL_law_1274 rfl ?_
    refine v_if_neN (tgt := 1291) hC dL_law_1276 (by decide) (by omega) (fun _ => ?_) (fun q => absurd q cdE.2)
    refine v_goto (tgt := 2247) hC dL_law_1291 (by decide) ?_
    exact v_wide (by omega) (by omega) (v_sub rfl (nx _ _ _ _ _ g2 rfl rfl rfl rfl))
  · dsimp only
    obtain ⟨hBw, τ9, A9, g1, g2, g3, g4⟩ := hAG.2 r s' hr (wI n) (wI_lt n)
    refine v_istore hC dL_law_1249 (by decide) ?_
    refine v_aload_n hC dL_law_1251 rfl ?_
    refine v_aload_n hC dL_law_1252 rfl ?_
    refine v_iload hC dL_law_1253 rfl ?_
    refine v_iconst (v := nI 1) hC dL_law_1255 (by decide) ?_
    refine v_iaddN hC dL_law_1256 ?_
    refine v_scr (x := 6 * i + 1) hC hP dL_law_1257 (by omega) (by omega) ?_
    refine v_callV hC lk_L_187 dL_law_1258 (c_X6_stateOf (σ := (up s' 60 0 0 0 (wI n))) hl0 hQ hBw (sc (6 * i + 1))) (by omega) (by decide) hQ.k30 rfl rfl rfl rfl (Nat.le_of_ble_eq_true rfl) (by omega) (by omega) (fun v μ h => ?_) (fun _ _ h => h.elim)
    rcases h with ⟨k, hk, rfl, rfl⟩ | ⟨r2, τ2, hk, rfl, rfl⟩
    skip
    · rw [g1] at hk
      cases hk
    rw [g1] at hk
    cases hk
    dsimp only
    refine v_istore hC dL_law_1261 (by decide) ?_
    refine v_aload_n hC dL_law_1263 rfl ?_
    refine v_callV_r0 hC lk_L_134 dL_law_1264 (c_X6_thrown hl0 hQ g2.1.1) (by omega) (by decide) hQ.k30 rfl rfl rfl rfl (Nat.le_of_ble_eq_true rfl) (by omega) (by omega) ?_
    rw [g3]
    refine v_iload hC dL_law_1267 rfl ?_
    refine v_icmp_eq (tgt := 1274) hC dL_law_1269 (by decide) (fun _ => ?_) (fun q => absurd rfl q)
    refine v_iload hC dL_law_1274 rfl ?_
    refine v_if_neN (tgt := 1291) hC dL_law_1276 (by decide) (by decide) (fun q => absurd rfl q) (fun _ => ?_)
    refine v_aload_n hC dL_law_1279 rfl ?_
    refine v_iconst (v := nI 0) hC dL_law_1280 (by decide) ?_
    refine al_60 hC dL_law_1281 h60 (by decide) ?_
    rw [g4, wI_of hn]
    refine v_iload hC dL_law_1282 rfl ?_
    refine v_i2l (v := lN (wI r)) hC dL_law_1284 (lN_wN _).symm ?_
    refine v_lcmp hC dL_law_1285 ?_
    refine v_if_eqJ (tgt := 1291) hC dL_law_1286 (by decide) (wI_lt r) (wI_lt r) (fun _ => ?_) (fun q => absurd rfl q)
    refine v_goto (tgt := 2247) hC dL_law_1291 (by decide) ?_
    exact v_wide (by omega) (by omega) (v_sub rfl (nx _ _ _ _ _ g2 rfl rfl rfl rfl))
theorem cdl_clashes (E : String) : cd_clashes E < 5 ∧ cd_clashes E ≠ 0 := by
  unfold cd_clashes
  first | (constructor <;> decide) | (repeat' split) <;> (constructor <;> decide)
theorem hxs_clashes {σ : SG} {a1 : Int32} {E : String} (h : k_clashes σ a1 = .inl E) : E = eNSE := by
  have h2 : ON (k_clashes σ a1) [eNSE] := by
    unfold k_clashes
    repeat (first | exact on_ret | exact on_err (by simp) | refine on_gR (by simp) (fun _ => ?_) | refine on_ite ?_ ?_)
  simpa using h2 E h
set_option maxHeartbeats 4000000 in
set_option maxRecDepth 100000 in
theorem case_clashes {X : XT} {G : GT} {mc ms K0 S0 p N : Nat} {sc : Nat → Int32} {ok : KF} {ad : AD} {σ : SG} {A : AS} {e i : Nat} (hl0 : (xl X).stackTraces = false) (hC : Cx X G "BranchyardLaw" cL_law 9 16 mc ms) (hN : NC (xs X)) (hP : Scr G (xs X) p N sc) (hNl : N ≤ 3072) (hI : INV G ok ad σ A e i) (hj : 6 * i + 6 ≤ N) (h1 : K0 + 200 * (i + 1) ≤ mc) (h2 : S0 + 3000 * (i + 1) + 4 * 4700 ≤ ms)
    (nx : ∀ ok' ad' σ' A' e', INV G ok' ad' σ' A' e' (i + 1) → ad' 0 0 0 = ad 0 0 0 → ad' 30 0 0 = ad 30 0 0 → ad' 60 0 0 = ad 60 0 0 → ad' 61 0 0 = ad 61 0 0 → V X G (K0 + 200 * (i + 1)) (S0 + 3000 * (i + 1) + 4 * e') ok' ad' σ' [(0, .ref p), (1, .ref (ad 0 0 0)), (2, .ref (ad 30 0 0)), (3, .ref (ad 60 0 0)), (4, .ref (ad 61 0 0)), (5, iv (6 * i))] 2247 []) : V X G (K0 + 200 * i) (S0 + 3000 * i + 4 * e) ok ad σ [(0, .ref p), (1, .ref (ad 0 0 0)), (2, .ref (ad 30 0 0)), (3, .ref (ad 60 0 0)), (4, .ref (ad 61 0 0)), (5, iv (6 * i))] 1357 [] := by
  obtain ⟨hR, ⟨hCK, hVK⟩, ⟨hArr, hKM⟩, ⟨h60, h61, n57, n58, n62, hO, hQ⟩, c5, c1, c6, cK, cq, ct, ce⟩ := id hI
  have hB := hR.1
  refine v_aload_n hC dL_law_1357 rfl ?_
  refine v_aload_n hC dL_law_1358 rfl ?_
  refine v_iload hC dL_law_1359 rfl ?_
  refine v_iconst (v := nI 1) hC dL_law_1361 (by decide) ?_
  refine v_iaddN hC dL_law_1362 ?_
  refine v_scr (x := 6 * i + 1) hC hP dL_law_1363 (by omega) (by omega) ?_
  refine v_aload_n hC dL_law_1364 rfl ?_
  refine v_callSN hC hN lkw_clashes dL_law_1365 (w_clashes hl0 (c_X5_clashes hl0 hO hB (sc (6 * i + 1))) hO.k0 (fun v μ h => by obtain ⟨r, τ, -, rfl, rfl⟩ := h; exact ⟨⟨r, rfl⟩, h60, rfl⟩) (fun E μ h => hxs_clashes h.1)) (by omega) (by decide) rfl rfl (Nat.le_of_ble_eq_true rfl) (by omega) (by omega) (fun v μ h => ?_)
  have hAG := law_simple hI (fun E => (cdl_clashes E).1) (fun τ hτ => ag_clashes hτ (sc (6 * i + 1)))
  rcases h with ⟨E, ⟨hE, rfl⟩, rfl⟩ | ⟨n, μ0, ⟨r, s', hr, hn, rfl⟩, rfl, rfl⟩
  · dsimp only
    obtain ⟨g1, g2⟩ := hAG.1 E hE
    have cdE := cdl_clashes E
    refine v_istore hC dL_law_1368 (by decide) ?_
    refine v_aload_n hC dL_law_1370 rfl ?_
    refine v_aload_n hC dL_law_1371 rfl ?_
    refine v_iload hC dL_law_1372 rfl ?_
    refine v_iconst (v := nI 1) hC dL_law_1374 (by decide) ?_
    refine v_iaddN hC dL_law_1375 ?_
    refine v_scr (x := 6 * i + 1) hC hP dL_law_1376 (by omega) (by omega) ?_
    refine v_callV hC lk_L_193 dL_law_1377 (c_X6_clashes (σ := σ) hl0 hQ hB (sc (6 * i + 1))) (by omega) (by decide) hQ.k30 rfl rfl rfl rfl (Nat.le_of_ble_eq_true rfl) (by omega) (by omega) (fun v μ h => ?_) (fun _ _ h => h.elim)
    rcases h with ⟨k, hk, rfl, rfl⟩ | ⟨r2, τ2, hk, rfl, rfl⟩
    rotate_left
    · rw [g1] at hk
      cases hk
    rw [g1] at hk
    cases hk
    dsimp only
    refine v_istore hC dL_law_1380 (by decide) ?_
    refine v_aload_n hC dL_law_1382 rfl ?_
    refine v_callV_r0 hC lk_L_134 dL_law_1383 (c_X6_thrown hl0 hQ g2.1.1) (by omega) (by decide) hQ.k30 rfl rfl rfl rfl (Nat.le_of_ble_eq_true rfl) (by omega) (by omega) ?_
    rw [show th (th σ 0) (cd_clashes E) 30 0 0 0 = cd_clashes E from up_same _ _ _ _ _ _]
    refine v_iload hC dL_law_1386 rfl ?_
    refine v_icmp_eq (tgt := 1393) hC dL_law_1388 (by decide) (fun _ => ?_) (fun q => absurd rfl q)
    refine v_iload hC dL_law_1393 rfl ?_
    refine v_if_neN (tgt := 1410) hC dL_law_1395 (by decide) (by omega) (fun _ => ?_) (fun q => absurd q cdE.2)
    refine v_goto (tgt := 2247) hC dL_law_1410 (by decide) ?_
    exact v_wide (by omega) (by omega) (v_sub rfl (nx _ _ _ _ _ g2 rfl rfl rfl rfl))
  · dsimp only
    obtain ⟨hBw, τ9, A9, g1, g2, g3, g4⟩ := hAG.2 r s' hr (wI n) (wI_lt n)
    refine v_istore hC dL_law_1368 (by decide) ?_
    refine v_aload_n hC dL_law_1370 rfl ?_
    refine v_aload_n hC dL_law_1371 rfl ?_
    refine v_iload hC dL_law_1372 rfl ?_
    refine v_iconst (v := nI 1) hC dL_law_1374 (by decide) ?_
    refine v_iaddN hC dL_law_1375 ?_
    refine v_scr (x := 6 * i + 1) hC hP dL_law_1376 (by omega) (by omega) ?_
    refine v_callV hC lk_L_193 dL_law_1377 (c_X6_clashes (σ := (up s' 60 0 0 0 (wI n))) hl0 hQ hBw (sc (6 * i + 1))) (by omega) (by decide) hQ.k30 rfl rfl rfl rfl (Nat.le_of_ble_eq_true rfl) (by omega) (by omega) (fun v μ h => ?_) (fun _ _ h => h.elim)
    rcases h with ⟨k, hk, rfl, rfl⟩ | ⟨r2, τ2, hk, rfl, rfl⟩
    skip
    · rw [g1] at hk
      cases hk
    rw [g1] at hk
    cases hk
    dsimp only
    refine v_istore hC dL_law_1380 (by decide) ?_
    refine v_aload_n hC dL_law_1382 rfl ?_
    refine v_callV_r0 hC lk_L_134 dL_law_1383 (c_X6_thrown hl0 hQ g2.1.1) (by omega) (by decide) hQ.k30 rfl rfl rfl rfl (Nat.le_of_ble_eq_true rfl) (by omega) (by omega) ?_
    rw [g3]
    refine v_iload hC dL_law_1386 rfl ?_
    refine v_icmp_eq (tgt := 1393) hC dL_law_1388 (by decide) (fun _ => ?_) (fun q => absurd rfl q)
    refine v_iload hC dL_law_1393 rfl ?_
    refine v_if_neN (tgt := 1410) hC dL_law_1395 (by decide) (by decide) (fun q => absurd rfl q) (fun _ => ?_)
    refine v_aload_n hC dL_law_1398 rfl ?_
    refine v_iconst (v := nI 0) hC dL_law_1399 (by decide) ?_
    refine al_60 hC dL_law_1400 h60 (by decide) ?_
    rw [g4, wI_of hn]
    refine v_iload hC dL_law_1401 rfl ?_
    refine v_i2l (v := lN (wI r)) hC dL_law_1403 (lN_wN _).symm ?_
    refine v_lcmp hC dL_law_1404 ?_
    refine v_if_eqJ (tgt := 1410) hC dL_law_1405 (by decide) (wI_lt r) (wI_lt r) (fun _ => ?_) (fun q => absurd rfl q)
    refine v_goto (tgt := 2247) hC dL_law_1410 (by decide) ?_
    exact v_wide (by omega) (by omega) (v_sub rfl (nx _ _ _ _ _ g2 rfl rfl rfl rfl))
theorem cdl_update (E : String) : cd_update E < 5 ∧ cd_update E ≠ 0 := by
  unfold cd_update
  first | (constructor <;> decide) | (repeat' split) <;> (constructor <;> decide)
theorem hxs_update {σ : SG} {a1 : Int32} {E : String} (h : k_update σ a1 = .inl E) : E = eNSE ∨ E = eISE := by
  have h2 : ON (k_update σ a1) [eNSE, eISE] := by
    unfold k_update
    repeat (first | exact on_ret | exact on_err (by simp) | refine on_gR (by simp) (fun _ => ?_) | refine on_ite ?_ ?_)
  simpa using h2 E h
set_option maxHeartbeats 4000000 in
set_option maxRecDepth 100000 in
theorem case_update {X : XT} {G : GT} {mc ms K0 S0 p N : Nat} {sc : Nat → Int32} {ok : KF} {ad : AD} {σ : SG} {A : AS} {e i : Nat} (hl0 : (xl X).stackTraces = false) (hC : Cx X G "BranchyardLaw" cL_law 9 16 mc ms) (hN : NC (xs X)) (hP : Scr G (xs X) p N sc) (hNl : N ≤ 3072) (hI : INV G ok ad σ A e i) (hj : 6 * i + 6 ≤ N) (h1 : K0 + 200 * (i + 1) ≤ mc) (h2 : S0 + 3000 * (i + 1) + 4 * 4700 ≤ ms)
    (nx : ∀ ok' ad' σ' A' e', INV G ok' ad' σ' A' e' (i + 1) → ad' 0 0 0 = ad 0 0 0 → ad' 30 0 0 = ad 30 0 0 → ad' 60 0 0 = ad 60 0 0 → ad' 61 0 0 = ad 61 0 0 → V X G (K0 + 200 * (i + 1)) (S0 + 3000 * (i + 1) + 4 * e') ok' ad' σ' [(0, .ref p), (1, .ref (ad 0 0 0)), (2, .ref (ad 30 0 0)), (3, .ref (ad 60 0 0)), (4, .ref (ad 61 0 0)), (5, iv (6 * i))] 2247 []) : V X G (K0 + 200 * i) (S0 + 3000 * i + 4 * e) ok ad σ [(0, .ref p), (1, .ref (ad 0 0 0)), (2, .ref (ad 30 0 0)), (3, .ref (ad 60 0 0)), (4, .ref (ad 61 0 0)), (5, iv (6 * i))] 1413 [] := by
  obtain ⟨hR, ⟨hCK, hVK⟩, ⟨hArr, hKM⟩, ⟨h60, h61, n57, n58, n62, hO, hQ⟩, c5, c1, c6, cK, cq, ct, ce⟩ := id hI
  have hB := hR.1
  refine v_aload_n hC dL_law_1413 rfl ?_
  refine v_aload_n hC dL_law_1414 rfl ?_
  refine v_iload hC dL_law_1415 rfl ?_
  refine v_iconst (v := nI 1) hC dL_law_1417 (by decide) ?_
  refine v_iaddN hC dL_law_1418 ?_
  refine v_scr (x := 6 * i + 1) hC hP dL_law_1419 (by omega) (by omega) ?_
  refine v_aload_n hC dL_law_1420 rfl ?_
  refine v_callSN hC hN lkw_update dL_law_1421 (w_update hl0 (c_X5_update hl0 hO hB (sc (6 * i + 1))) hO.k0 (fun v μ h => by obtain ⟨r, τ, -, rfl, rfl⟩ := h; exact ⟨⟨r, rfl⟩, h60, rfl⟩) (fun E μ h => hxs_update h.1)) (by omega) (by decide) rfl rfl (Nat.le_of_ble_eq_true rfl) (by omega) (by omega) (fun v μ h => ?_)
  have hAG := law_simple hI (fun E => (cdl_update E).1) (fun τ hτ => ag_update hτ (sc (6 * i + 1)))
  rcases h with ⟨E, ⟨hE, rfl⟩, rfl⟩ | ⟨n, μ0, ⟨r, s', hr, hn, rfl⟩, rfl, rfl⟩
  · dsimp only
    obtain ⟨g1, g2⟩ := hAG.1 E hE
    have cdE := cdl_update E
    refine v_istore hC dL_law_1424 (by decide) ?_
    refine v_aload_n hC dL_law_1426 rfl ?_
    refine v_aload_n hC dL_law_1427 rfl ?_
    refine v_iload hC dL_law_1428 rfl ?_
    refine v_iconst (v := nI 1) hC dL_law_1430 (by decide) ?_
    refine v_iaddN hC dL_law_1431 ?_
    refine v_scr (x := 6 * i + 1) hC hP dL_law_1432 (by omega) (by omega) ?_
    refine v_callV hC lk_L_196 dL_law_1433 (c_X6_update (σ := σ) hl0 hQ hB (sc (6 * i + 1))) (by omega) (by decide) hQ.k30 rfl rfl rfl rfl (Nat.le_of_ble_eq_true rfl) (by omega) (by omega) (fun v μ h => ?_) (fun _ _ h => h.elim)
    rcases h with ⟨k, hk, rfl, rfl⟩ | ⟨r2, τ2, hk, rfl, rfl⟩
    rotate_left
    · rw [g1] at hk
      cases hk
    rw [g1] at hk
    cases hk
    dsimp only
    refine v_istore hC dL_law_1436 (by decide) ?_
    refine v_aload_n hC dL_law_1438 rfl ?_
    refine v_callV_r0 hC lk_L_134 dL_law_1439 (c_X6_thrown hl0 hQ g2.1.1) (by omega) (by decide) hQ.k30 rfl rfl rfl rfl (Nat.le_of_ble_eq_true rfl) (by omega) (by omega) ?_
    rw [show th (th σ 0) (cd_update E) 30 0 0 0 = cd_update E from up_same _ _ _ _ _ _]
    refine v_iload hC dL_law_1442 rfl ?_
    refine v_icmp_eq (tgt := 1449) hC dL_law_1444 (by decide) (fun _ => ?_) (fun q => absurd rfl q)
    refine v_iload hC dL_law_1449 rfl ?_
    refine v_if_neN (tgt := 1466) hC dL_law_1451 (by decide) (by omega) (fun _ => ?_) (fun q => absurd q cdE.2)
    refine v_goto (tgt := 2247) hC dL_law_1466 (by decide) ?_
    exact v_wide (by omega) (by omega) (v_sub rfl (nx _ _ _ _ _ g2 rfl rfl rfl rfl))
  · dsimp only
    obtain ⟨hBw, τ9, A9, g1, g2, g3, g4⟩ := hAG.2 r s' hr (wI n) (wI_lt n)
    refine v_istore hC dL_law_1424 (by decide) ?_
    refine v_aload_n hC dL_law_1426 rfl ?_
    refine v_aload_n hC dL_law_1427 rfl ?_
    refine v_iload hC dL_law_1428 rfl ?_
    refine v_iconst (v := nI 1) hC dL_law_1430 (by decide) ?_
    refine v_iaddN hC dL_law_1431 ?_
    refine v_scr (x := 6 * i + 1) hC hP dL_law_1432 (by omega) (by omega) ?_
    refine v_callV hC lk_L_196 dL_law_1433 (c_X6_update (σ := (up s' 60 0 0 0 (wI n))) hl0 hQ hBw (sc (6 * i + 1))) (by omega) (by decide) hQ.k30 rfl rfl rfl rfl (Nat.le_of_ble_eq_true rfl) (by omega) (by omega) (fun v μ h => ?_) (fun _ _ h => h.elim)
    rcases h with ⟨k, hk, rfl, rfl⟩ | ⟨r2, τ2, hk, rfl, rfl⟩
    skip
    · rw [g1] at hk
      cases hk
    rw [g1] at hk
    cases hk
    dsimp only
    refine v_istore hC dL_law_1436 (by decide) ?_
    refine v_aload_n hC dL_law_1438 rfl ?_
    refine v_callV_r0 hC lk_L_134 dL_law_1439 (c_X6_thrown hl0 hQ g2.1.1) (by omega) (by decide) hQ.k30 rfl rfl rfl rfl (Nat.le_of_ble_eq_true rfl) (by omega) (by omega) ?_
    rw [g3]
    refine v_iload hC dL_law_1442 rfl ?_
    refine v_icmp_eq (tgt := 1449) hC dL_law_1444 (by decide) (fun _ => ?_) (fun q => absurd rfl q)
    refine v_iload hC dL_law_1449 rfl ?_
    refine v_if_neN (tgt := 1466) hC dL_law_1451 (by decide) (by decide) (fun q => absurd rfl q) (fun _ => ?_)
    refine v_aload_n hC dL_law_1454 rfl ?_
    refine v_iconst (v := nI 0) hC dL_law_1455 (by decide) ?_
    refine al_60 hC dL_law_1456 h60 (by decide) ?_
    rw [g4, wI_of hn]
    refine v_iload hC dL_law_1457 rfl ?_
    refine v_i2l (v := lN (wI r)) hC dL_law_1459 (lN_wN _).symm ?_
    refine v_lcmp hC dL_law_1460 ?_
    refine v_if_eqJ (tgt := 1466) hC dL_law_1461 (by decide) (wI_lt r) (wI_lt r) (fun _ => ?_) (fun q => absurd rfl q)
    refine v_goto (tgt := 2247) hC dL_law_1466 (by decide) ?_
    exact v_wide (by omega) (by omega) (v_sub rfl (nx _ _ _ _ _ g2 rfl rfl rfl rfl))
theorem cdl_value (E : String) : cd_value E < 5 ∧ cd_value E ≠ 0 := by
  unfold cd_value
  first | (constructor <;> decide) | (repeat' split) <;> (constructor <;> decide)
theorem hxs_value {σ : SG} {a1 a2 : Int32} {E : String} (h : k_value σ a1 a2 = .inl E) : E = eIOB := by
  have h2 : ON (k_value σ a1 a2) [eIOB] := by
    unfold k_value
    repeat (first | exact on_ret | exact on_err (by simp) | refine on_gR (by simp) (fun _ => ?_) | refine on_ite ?_ ?_)
  simpa using h2 E h
set_option maxHeartbeats 4000000 in
set_option maxRecDepth 100000 in
theorem case_value {X : XT} {G : GT} {mc ms K0 S0 p N : Nat} {sc : Nat → Int32} {ok : KF} {ad : AD} {σ : SG} {A : AS} {e i : Nat} (hl0 : (xl X).stackTraces = false) (hC : Cx X G "BranchyardLaw" cL_law 9 16 mc ms) (hN : NC (xs X)) (hP : Scr G (xs X) p N sc) (hNl : N ≤ 3072) (hI : INV G ok ad σ A e i) (hj : 6 * i + 6 ≤ N) (h1 : K0 + 200 * (i + 1) ≤ mc) (h2 : S0 + 3000 * (i + 1) + 4 * 4700 ≤ ms)
    (nx : ∀ ok' ad' σ' A' e', INV G ok' ad' σ' A' e' (i + 1) → ad' 0 0 0 = ad 0 0 0 → ad' 30 0 0 = ad 30 0 0 → ad' 60 0 0 = ad 60 0 0 → ad' 61 0 0 = ad 61 0 0 → V X G (K0 + 200 * (i + 1)) (S0 + 3000 * (i + 1) + 4 * e') ok' ad' σ' [(0, .ref p), (1, .ref (ad 0 0 0)), (2, .ref (ad 30 0 0)), (3, .ref (ad 60 0 0)), (4, .ref (ad 61 0 0)), (5, iv (6 * i))] 2247 []) : V X G (K0 + 200 * i) (S0 + 3000 * i + 4 * e) ok ad σ [(0, .ref p), (1, .ref (ad 0 0 0)), (2, .ref (ad 30 0 0)), (3, .ref (ad 60 0 0)), (4, .ref (ad 61 0 0)), (5, iv (6 * i))] 1629 [] := by
  obtain ⟨hR, ⟨hCK, hVK⟩, ⟨hArr, hKM⟩, ⟨h60, h61, n57, n58, n62, hO, hQ⟩, c5, c1, c6, cK, cq, ct, ce⟩ := id hI
  have hB := hR.1
  refine v_aload_n hC dL_law_1629 rfl ?_
  refine v_aload_n hC dL_law_1630 rfl ?_
  refine v_iload hC dL_law_1631 rfl ?_
  refine v_iconst (v := nI 1) hC dL_law_1633 (by decide) ?_
  refine v_iaddN hC dL_law_1634 ?_
  refine v_scr (x := 6 * i + 1) hC hP dL_law_1635 (by omega) (by omega) ?_
  refine v_aload_n hC dL_law_1636 rfl ?_
  refine v_iload hC dL_law_1637 rfl ?_
  refine v_iconst (v := nI 2) hC dL_law_1639 (by decide) ?_
  refine v_iaddN hC dL_law_1640 ?_
  refine v_scr (x := 6 * i + 2) hC hP dL_law_1641 (by omega) (by omega) ?_
  refine v_aload_n hC dL_law_1642 rfl ?_
  refine v_callSN hC hN lkw_value dL_law_1643 (w_value hl0 (c_X5_value hl0 hO hB (sc (6 * i + 1)) (sc (6 * i + 2))) hO.k0 (fun v μ h => by obtain ⟨r, τ, -, rfl, rfl⟩ := h; exact ⟨⟨r, rfl⟩, h60, rfl⟩) (fun E μ h => hxs_value h.1)) (by omega) (by decide) rfl rfl (Nat.le_of_ble_eq_true rfl) (by omega) (by omega) (fun v μ h => ?_)
  have hAG := law_simple hI (fun E => (cdl_value E).1) (fun τ hτ => ag_value hτ (sc (6 * i + 1)) (sc (6 * i + 2)))
  rcases h with ⟨E, ⟨hE, rfl⟩, rfl⟩ | ⟨n, μ0, ⟨r, s', hr, hn, rfl⟩, rfl, rfl⟩
  · dsimp only
    obtain ⟨g1, g2⟩ := hAG.1 E hE
    have cdE := cdl_value E
    refine v_istore hC dL_law_1646 (by decide) ?_
    refine v_aload_n hC dL_law_1648 rfl ?_
    refine v_aload_n hC dL_law_1649 rfl ?_
    refine v_iload hC dL_law_1650 rfl ?_
    refine v_iconst (v := nI 1) hC dL_law_1652 (by decide) ?_
    refine v_iaddN hC dL_law_1653 ?_
    refine v_scr (x := 6 * i + 1) hC hP dL_law_1654 (by omega) (by omega) ?_
    refine v_aload_n hC dL_law_1655 rfl ?_
    refine v_iload hC dL_law_1656 rfl ?_
    refine v_iconst (v := nI 2) hC dL_law_1658 (by decide) ?_
    refine v_iaddN hC dL_law_1659 ?_
    refine v_scr (x := 6 * i + 2) hC hP dL_law_1660 (by omega) (by omega) ?_
    refine v_callV hC lk_L_206 dL_law_1661 (c_X6_value (σ := σ) hl0 hQ hB (sc (6 * i + 1)) (sc (6 * i + 2))) (by omega) (by decide) hQ.k30 rfl rfl rfl rfl (Nat.le_of_ble_eq_true rfl) (by omega) (by omega) (fun v μ h => ?_) (fun _ _ h => h.elim)
    rcases h with ⟨k, hk, rfl, rfl⟩ | ⟨r2, τ2, hk, rfl, rfl⟩
    rotate_left
    · rw [g1] at hk
      cases hk
    rw [g1] at hk
    cases hk
    dsimp only
    refine v_istore hC dL_law_1664 (by decide) ?_
    refine v_aload_n hC dL_law_1666 rfl ?_
    refine v_callV_r0 hC lk_L_134 dL_law_1667 (c_X6_thrown hl0 hQ g2.1.1) (by omega) (by decide) hQ.k30 rfl rfl rfl rfl (Nat.le_of_ble_eq_true rfl) (by omega) (by omega) ?_
    rw [show th (th σ 0) (cd_value E) 30 0 0 0 = cd_value E from up_same _ _ _ _ _ _]
    refine v_iload hC dL_law_1670 rfl ?_
    refine v_icmp_eq (tgt := 1677) hC dL_law_1672 (by decide) (fun _ => ?_) (fun q => absurd rfl q)
    refine v_iload hC dL_law_1677 rfl ?_
    refine v_if_neN (tgt := 1694) hC dL_law_1679 (by decide) (by omega) (fun _ => ?_) (fun q => absurd q cdE.2)
    refine v_goto (tgt := 2247) hC dL_law_1694 (by decide) ?_
    exact v_wide (by omega) (by omega) (v_sub rfl (nx _ _ _ _ _ g2 rfl rfl rfl rfl))
  · dsimp only
    obtain ⟨hBw, τ9, A9, g1, g2, g3, g4⟩ := hAG.2 r s' hr (wI n) (wI_lt n)
    refine v_istore hC dL_law_1646 (by decide) ?_
    refine v_aload_n hC dL_law_1648 rfl ?_
    refine v_aload_n hC dL_law_1649 rfl ?_
    refine v_iload hC dL_law_1650 rfl ?_
    refine v_iconst (v := nI 1) hC dL_law_1652 (by decide) ?_
    refine v_iaddN hC dL_law_1653 ?_
    refine v_scr (x := 6 * i + 1) hC hP dL_law_1654 (by omega) (by omega) ?_
    refine v_aload_n hC dL_law_1655 rfl ?_
    refine v_iload hC dL_law_1656 rfl ?_
    refine v_iconst (v := nI 2) hC dL_law_1658 (by decide) ?_
    refine v_iaddN hC dL_law_1659 ?_
    refine v_scr (x := 6 * i + 2) hC hP dL_law_1660 (by omega) (by omega) ?_
    refine v_callV hC lk_L_206 dL_law_1661 (c_X6_value (σ := (up s' 60 0 0 0 (wI n))) hl0 hQ hBw (sc (6 * i + 1)) (sc (6 * i + 2))) (by omega) (by decide) hQ.k30 rfl rfl rfl rfl (Nat.le_of_ble_eq_true rfl) (by omega) (by omega) (fun v μ h => ?_) (fun _ _ h => h.elim)
    rcases h with ⟨k, hk, rfl, rfl⟩ | ⟨r2, τ2, hk, rfl, rfl⟩
    skip
    · rw [g1] at hk
      cases hk
    rw [g1] at hk
    cases hk
    dsimp only
    refine v_istore hC dL_law_1664 (by decide) ?_
    refine v_aload_n hC dL_law_1666 rfl ?_
    refine v_callV_r0 hC lk_L_134 dL_law_1667 (c_X6_thrown hl0 hQ g2.1.1) (by omega) (by decide) hQ.k30 rfl rfl rfl rfl (Nat.le_of_ble_eq_true rfl) (by omega) (by omega) ?_
    rw [g3]
    refine v_iload hC dL_law_1670 rfl ?_
    refine v_icmp_eq (tgt := 1677) hC dL_law_1672 (by decide) (fun _ => ?_) (fun q => absurd rfl q)
    refine v_iload hC dL_law_1677 rfl ?_
    refine v_if_neN (tgt := 1694) hC dL_law_1679 (by decide) (by decide) (fun q => absurd rfl q) (fun _ => ?_)
    refine v_aload_n hC dL_law_1682 rfl ?_
    refine v_iconst (v := nI 0) hC dL_law_1683 (by decide) ?_
    refine al_60 hC dL_law_1684 h60 (by decide) ?_
    rw [g4, wI_of hn]
    refine v_iload hC dL_law_1685 rfl ?_
    refine v_i2l (v := lN (wI r)) hC dL_law_1687 (lN_wN _).symm ?_
    refine v_lcmp hC dL_law_1688 ?_
    refine v_if_eqJ (tgt := 1694) hC dL_law_1689 (by decide) (wI_lt r) (wI_lt r) (fun _ => ?_) (fun q => absurd rfl q)
    refine v_goto (tgt := 2247) hC dL_law_1694 (by decide) ?_
    exact v_wide (by omega) (by omega) (v_sub rfl (nx _ _ _ _ _ g2 rfl rfl rfl rfl))
theorem cdl_valueByMerges (E : String) : cd_valueByMerges E < 5 ∧ cd_valueByMerges E ≠ 0 := by
  unfold cd_valueByMerges
  first | (constructor <;> decide) | (repeat' split) <;> (constructor <;> decide)
theorem hxs_valueByMerges {σ : SG} {a1 a2 : Int32} {E : String} (h : k_valueByMerges σ a1 a2 = .inl E) : E = eIOB := by
  have h2 : ON (k_valueByMerges σ a1 a2) [eIOB] := by
    unfold k_valueByMerges
    repeat (first | exact on_ret | exact on_err (by simp) | refine on_gR (by simp) (fun _ => ?_) | refine on_ite ?_ ?_)
  simpa using h2 E h
set_option maxHeartbeats 4000000 in
set_option maxRecDepth 100000 in
theorem case_valueByMerges {X : XT} {G : GT} {mc ms K0 S0 p N : Nat} {sc : Nat → Int32} {ok : KF} {ad : AD} {σ : SG} {A : AS} {e i : Nat} (hl0 : (xl X).stackTraces = false) (hC : Cx X G "BranchyardLaw" cL_law 9 16 mc ms) (hN : NC (xs X)) (hP : Scr G (xs X) p N sc) (hNl : N ≤ 3072) (hI : INV G ok ad σ A e i) (hj : 6 * i + 6 ≤ N) (h1 : K0 + 200 * (i + 1) ≤ mc) (h2 : S0 + 3000 * (i + 1) + 4 * 4700 ≤ ms)
    (nx : ∀ ok' ad' σ' A' e', INV G ok' ad' σ' A' e' (i + 1) → ad' 0 0 0 = ad 0 0 0 → ad' 30 0 0 = ad 30 0 0 → ad' 60 0 0 = ad 60 0 0 → ad' 61 0 0 = ad 61 0 0 → V X G (K0 + 200 * (i + 1)) (S0 + 3000 * (i + 1) + 4 * e') ok' ad' σ' [(0, .ref p), (1, .ref (ad 0 0 0)), (2, .ref (ad 30 0 0)), (3, .ref (ad 60 0 0)), (4, .ref (ad 61 0 0)), (5, iv (6 * i))] 2247 []) : V X G (K0 + 200 * i) (S0 + 3000 * i + 4 * e) ok ad σ [(0, .ref p), (1, .ref (ad 0 0 0)), (2, .ref (ad 30 0 0)), (3, .ref (ad 60 0 0)), (4, .ref (ad 61 0 0)), (5, iv (6 * i))] 1697 [] := by
  obtain ⟨hR, ⟨hCK, hVK⟩, ⟨hArr, hKM⟩, ⟨h60, h61, n57, n58, n62, hO, hQ⟩, c5, c1, c6, cK, cq, ct, ce⟩ := id hI
  have hB := hR.1
  refine v_aload_n hC dL_law_1697 rfl ?_
  refine v_aload_n hC dL_law_1698 rfl ?_
  refine v_iload hC dL_law_1699 rfl ?_
  refine v_iconst (v := nI 1) hC dL_law_1701 (by decide) ?_
  refine v_iaddN hC dL_law_1702 ?_
  refine v_scr (x := 6 * i + 1) hC hP dL_law_1703 (by omega) (by omega) ?_
  refine v_aload_n hC dL_law_1704 rfl ?_
  refine v_iload hC dL_law_1705 rfl ?_
  refine v_iconst (v := nI 2) hC dL_law_1707 (by decide) ?_
  refine v_iaddN hC dL_law_1708 ?_
  refine v_scr (x := 6 * i + 2) hC hP dL_law_1709 (by omega) (by omega) ?_
  refine v_aload_n hC dL_law_1710 rfl ?_
  refine v_callSN hC hN lkw_valueByMerges dL_law_1711 (w_valueByMerges hl0 (c_X5_valueByMerges hl0 hO hB (sc (6 * i + 1)) (sc (6 * i + 2))) hO.k0 (fun v μ h => by obtain ⟨r, τ, -, rfl, rfl⟩ := h; exact ⟨⟨r, rfl⟩, h60, rfl⟩) (fun E μ h => hxs_valueByMerges h.1)) (by omega) (by decide) rfl rfl (Nat.le_of_ble_eq_true rfl) (by omega) (by omega) (fun v μ h => ?_)
  have hAG := law_simple hI (fun E => (cdl_valueByMerges E).1) (fun τ hτ => ag_valueByMerges hτ (sc (6 * i + 1)) (sc (6 * i + 2)))
  rcases h with ⟨E, ⟨hE, rfl⟩, rfl⟩ | ⟨n, μ0, ⟨r, s', hr, hn, rfl⟩, rfl, rfl⟩
  · dsimp only
    obtain ⟨g1, g2⟩ := hAG.1 E hE
    have cdE := cdl_valueByMerges E
    refine v_istore hC dL_law_1714 (by decide) ?_
    refine v_aload_n hC dL_law_1716 rfl ?_
    refine v_aload_n hC dL_law_1717 rfl ?_
    refine v_iload hC dL_law_1718 rfl ?_
    refine v_iconst (v := nI 1) hC dL_law_1720 (by decide) ?_
    refine v_iaddN hC dL_law_1721 ?_
    refine v_scr (x := 6 * i + 1) hC hP dL_law_1722 (by omega) (by omega) ?_
    refine v_aload_n hC dL_law_1723 rfl ?_
    refine v_iload hC dL_law_1724 rfl ?_
    refine v_iconst (v := nI 2) hC dL_law_1726 (by decide) ?_
    refine v_iaddN hC dL_law_1727 ?_
    refine v_scr (x := 6 * i + 2) hC hP dL_law_1728 (by omega) (by omega) ?_
    refine v_callV hC lk_L_209 dL_law_1729 (c_X6_valueByMerges (σ := σ) hl0 hQ hB (sc (6 * i + 1)) (sc (6 * i + 2))) (by omega) (by decide) hQ.k30 rfl rfl rfl rfl (Nat.le_of_ble_eq_true rfl) (by omega) (by omega) (fun v μ h => ?_) (fun _ _ h => h.elim)
    rcases h with ⟨k, hk, rfl, rfl⟩ | ⟨r2, τ2, hk, rfl, rfl⟩
    rotate_left
    · rw [g1] at hk
      cases hk
    rw [g1] at hk
    cases hk
    dsimp only
    refine v_istore hC dL_law_1732 (by decide) ?_
    refine v_aload_n hC dL_law_1734 rfl ?_
    refine v_callV_r0 hC lk_L_134 dL_law_1735 (c_X6_thrown hl0 hQ g2.1.1) (by omega) (by decide) hQ.k30 rfl rfl rfl rfl (Nat.le_of_ble_eq_true rfl) (by omega) (by omega) ?_
    rw [show th (th σ 0) (cd_valueByMerges E) 30 0 0 0 = cd_valueByMerges E from up_same _ _ _ _ _ _]
    refine v_iload hC dL_law_1738 rfl ?_
    refine v_icmp_eq (tgt := 1745) hC dL_law_1740 (by decide) (fun _ => ?_) (fun q => absurd rfl q)
    refine v_iload hC dL_law_1745 rfl ?_
    refine v_if_neN (tgt := 1762) hC dL_law_1747 (by decide) (by omega) (fun _ => ?_) (fun q => absurd q cdE.2)
    refine v_goto (tgt := 2247) hC dL_law_1762 (by decide) ?_
    exact v_wide (by omega) (by omega) (v_sub rfl (nx _ _ _ _ _ g2 rfl rfl rfl rfl))
  · dsimp only
    obtain ⟨hBw, τ9, A9, g1, g2, g3, g4⟩ := hAG.2 r s' hr (wI n) (wI_lt n)
    refine v_istore hC dL_law_1714 (by decide) ?_
    refine v_aload_n hC dL_law_1716 rfl ?_
    refine v_aload_n hC dL_law_1717 rfl ?_
    refine v_iload hC dL_law_1718 rfl ?_
    refine v_iconst (v := nI 1) hC dL_law_1720 (by decide) ?_
    refine v_iaddN hC dL_law_1721 ?_
    refine v_scr (x := 6 * i + 1) hC hP dL_law_1722 (by omega) (by omega) ?_
    refine v_aload_n hC dL_law_1723 rfl ?_
    refine v_iload hC dL_law_1724 rfl ?_
    refine v_iconst (v := nI 2) hC dL_law_1726 (by decide) ?_
    refine v_iaddN hC dL_law_1727 ?_
    refine v_scr (x := 6 * i + 2) hC hP dL_law_1728 (by omega) (by omega) ?_
    refine v_callV hC lk_L_209 dL_law_1729 (c_X6_valueByMerges (σ := (up s' 60 0 0 0 (wI n))) hl0 hQ hBw (sc (6 * i + 1)) (sc (6 * i + 2))) (by omega) (by decide) hQ.k30 rfl rfl rfl rfl (Nat.le_of_ble_eq_true rfl) (by omega) (by omega) (fun v μ h => ?_) (fun _ _ h => h.elim)
    rcases h with ⟨k, hk, rfl, rfl⟩ | ⟨r2, τ2, hk, rfl, rfl⟩
    skip
    · rw [g1] at hk
      cases hk
    rw [g1] at hk
    cases hk
    dsimp only
    refine v_istore hC dL_law_1732 (by decide) ?_
    refine v_aload_n hC dL_law_1734 rfl ?_
    refine v_callV_r0 hC lk_L_134 dL_law_1735 (c_X6_thrown hl0 hQ g2.1.1) (by omega) (by decide) hQ.k30 rfl rfl rfl rfl (Nat.le_of_ble_eq_true rfl) (by omega) (by omega) ?_
    rw [g3]
    refine v_iload hC dL_law_1738 rfl ?_
    refine v_icmp_eq (tgt := 1745) hC dL_law_1740 (by decide) (fun _ => ?_) (fun q => absurd rfl q)
    refine v_iload hC dL_law_1745 rfl ?_
    refine v_if_neN (tgt := 1762) hC dL_law_1747 (by decide) (by decide) (fun q => absurd rfl q) (fun _ => ?_)
    refine v_aload_n hC dL_law_1750 rfl ?_
    refine v_iconst (v := nI 0) hC dL_law_1751 (by decide) ?_
    refine al_60 hC dL_law_1752 h60 (by decide) ?_
    rw [g4, wI_of hn]
    refine v_iload hC dL_law_1753 rfl ?_
    refine v_i2l (v := lN (wI r)) hC dL_law_1755 (lN_wN _).symm ?_
    refine v_lcmp hC dL_law_1756 ?_
    refine v_if_eqJ (tgt := 1762) hC dL_law_1757 (by decide) (wI_lt r) (wI_lt r) (fun _ => ?_) (fun q => absurd rfl q)
    refine v_goto (tgt := 2247) hC dL_law_1762 (by decide) ?_
    exact v_wide (by omega) (by omega) (v_sub rfl (nx _ _ _ _ _ g2 rfl rfl rfl rfl))
theorem cdl_valueWith (E : String) : cd_valueWith E < 5 ∧ cd_valueWith E ≠ 0 := by
  unfold cd_valueWith
  first | (constructor <;> decide) | (repeat' split) <;> (constructor <;> decide)
theorem hxs_valueWith {σ : SG} {a1 a2 a3 : Int32} {E : String} (h : k_valueWith σ a1 a2 a3 = .inl E) : E = eNSE ∨ E = eIOB := by
  have h2 : ON (k_valueWith σ a1 a2 a3) [eNSE, eIOB] := by
    unfold k_valueWith
    repeat (first | exact on_ret | exact on_err (by simp) | refine on_gR (by simp) (fun _ => ?_) | refine on_ite ?_ ?_)
  simpa using h2 E h
set_option maxHeartbeats 4000000 in
set_option maxRecDepth 100000 in
theorem case_valueWith {X : XT} {G : GT} {mc ms K0 S0 p N : Nat} {sc : Nat → Int32} {ok : KF} {ad : AD} {σ : SG} {A : AS} {e i : Nat} (hl0 : (xl X).stackTraces = false) (hC : Cx X G "BranchyardLaw" cL_law 9 16 mc ms) (hN : NC (xs X)) (hP : Scr G (xs X) p N sc) (hNl : N ≤ 3072) (hI : INV G ok ad σ A e i) (hj : 6 * i + 6 ≤ N) (h1 : K0 + 200 * (i + 1) ≤ mc) (h2 : S0 + 3000 * (i + 1) + 4 * 4700 ≤ ms)
    (nx : ∀ ok' ad' σ' A' e', INV G ok' ad' σ' A' e' (i + 1) → ad' 0 0 0 = ad 0 0 0 → ad' 30 0 0 = ad 30 0 0 → ad' 60 0 0 = ad 60 0 0 → ad' 61 0 0 = ad 61 0 0 → V X G (K0 + 200 * (i + 1)) (S0 + 3000 * (i + 1) + 4 * e') ok' ad' σ' [(0, .ref p), (1, .ref (ad 0 0 0)), (2, .ref (ad 30 0 0)), (3, .ref (ad 60 0 0)), (4, .ref (ad 61 0 0)), (5, iv (6 * i))] 2247 []) : V X G (K0 + 200 * i) (S0 + 3000 * i + 4 * e) ok ad σ [(0, .ref p), (1, .ref (ad 0 0 0)), (2, .ref (ad 30 0 0)), (3, .ref (ad 60 0 0)), (4, .ref (ad 61 0 0)), (5, iv (6 * i))] 1765 [] := by
  obtain ⟨hR, ⟨hCK, hVK⟩, ⟨hArr, hKM⟩, ⟨h60, h61, n57, n58, n62, hO, hQ⟩, c5, c1, c6, cK, cq, ct, ce⟩ := id hI
  have hB := hR.1
  refine v_aload_n hC dL_law_1765 rfl ?_
  refine v_aload_n hC dL_law_1766 rfl ?_
  refine v_iload hC dL_law_1767 rfl ?_
  refine v_iconst (v := nI 1) hC dL_law_1769 (by decide) ?_
  refine v_iaddN hC dL_law_1770 ?_
  refine v_scr (x := 6 * i + 1) hC hP dL_law_1771 (by omega) (by omega) ?_
  refine v_aload_n hC dL_law_1772 rfl ?_
  refine v_iload hC dL_law_1773 rfl ?_
  refine v_iconst (v := nI 2) hC dL_law_1775 (by decide) ?_
  refine v_iaddN hC dL_law_1776 ?_
  refine v_scr (x := 6 * i + 2) hC hP dL_law_1777 (by omega) (by omega) ?_
  refine v_aload_n hC dL_law_1778 rfl ?_
  refine v_iload hC dL_law_1779 rfl ?_
  refine v_iconst (v := nI 3) hC dL_law_1781 (by decide) ?_
  refine v_iaddN hC dL_law_1782 ?_
  refine v_scr (x := 6 * i + 3) hC hP dL_law_1783 (by omega) (by omega) ?_
  refine v_aload_n hC dL_law_1784 rfl ?_
  refine v_callSN hC hN lkw_valueWith dL_law_1785 (w_valueWith hl0 (c_X5_valueWith hl0 hO hB (sc (6 * i + 1)) (sc (6 * i + 2)) (sc (6 * i + 3))) hO.k0 (fun v μ h => by obtain ⟨r, τ, -, rfl, rfl⟩ := h; exact ⟨⟨r, rfl⟩, h60, rfl⟩) (fun E μ h => hxs_valueWith h.1)) (by omega) (by decide) rfl rfl (Nat.le_of_ble_eq_true rfl) (by omega) (by omega) (fun v μ h => ?_)
  have hAG := law_simple hI (fun E => (cdl_valueWith E).1) (fun τ hτ => ag_valueWith hτ (sc (6 * i + 1)) (sc (6 * i + 2)) (sc (6 * i + 3)))
  rcases h with ⟨E, ⟨hE, rfl⟩, rfl⟩ | ⟨n, μ0, ⟨r, s', hr, hn, rfl⟩, rfl, rfl⟩
  · dsimp only
    obtain ⟨g1, g2⟩ := hAG.1 E hE
    have cdE := cdl_valueWith E
    refine v_istore hC dL_law_1788 (by decide) ?_
    refine v_aload_n hC dL_law_1790 rfl ?_
    refine v_aload_n hC dL_law_1791 rfl ?_
    refine v_iload hC dL_law_1792 rfl ?_
    refine v_iconst (v := nI 1) hC dL_law_1794 (by decide) ?_
    refine v_iaddN hC dL_law_1795 ?_
    refine v_scr (x := 6 * i + 1) hC hP dL_law_1796 (by omega) (by omega) ?_
    refine v_aload_n hC dL_law_1797 rfl ?_
    refine v_iload hC dL_law_1798 rfl ?_
    refine v_iconst (v := nI 2) hC dL_law_1800 (by decide) ?_
    refine v_iaddN hC dL_law_1801 ?_
    refine v_scr (x := 6 * i + 2) hC hP dL_law_1802 (by omega) (by omega) ?_
    refine v_aload_n hC dL_law_1803 rfl ?_
    refine v_iload hC dL_law_1804 rfl ?_
    refine v_iconst (v := nI 3) hC dL_law_1806 (by decide) ?_
    refine v_iaddN hC dL_law_1807 ?_
    refine v_scr (x := 6 * i + 3) hC hP dL_law_1808 (by omega) (by omega) ?_
    refine v_callV hC lk_L_212 dL_law_1809 (c_X6_valueWith (σ := σ) hl0 hQ hB (sc (6 * i + 1)) (sc (6 * i + 2)) (sc (6 * i + 3))) (by omega) (by decide) hQ.k30 rfl rfl rfl rfl (Nat.le_of_ble_eq_true rfl) (by omega) (by omega) (fun v μ h => ?_) (fun _ _ h => h.elim)
    rcases h with ⟨k, hk, rfl, rfl⟩ | ⟨r2, τ2, hk, rfl, rfl⟩
    rotate_left
    · rw [g1] at hk
      cases hk
    rw [g1] at hk
    cases hk
    dsimp only
    refine v_istore hC dL_law_1812 (by decide) ?_
    refine v_aload_n hC dL_law_1814 rfl ?_
    refine v_callV_r0 hC lk_L_134 dL_law_1815 (c_X6_thrown hl0 hQ g2.1.1) (by omega) (by decide) hQ.k30 rfl rfl rfl rfl (Nat.le_of_ble_eq_true rfl) (by omega) (by omega) ?_
    rw [show th (th σ 0) (cd_valueWith E) 30 0 0 0 = cd_valueWith E from up_same _ _ _ _ _ _]
    refine v_iload hC dL_law_1818 rfl ?_
    refine v_icmp_eq (tgt := 1825) hC dL_law_1820 (by decide) (fun _ => ?_) (fun q => absurd rfl q)
    refine v_iload hC dL_law_1825 rfl ?_
    refine v_if_neN (tgt := 1842) hC dL_law_1827 (by decide) (by omega) (fun _ => ?_) (fun q => absurd q cdE.2)
    refine v_goto (tgt := 2247) hC dL_law_1842 (by decide) ?_
    exact v_wide (by omega) (by omega) (v_sub rfl (nx _ _ _ _ _ g2 rfl rfl rfl rfl))
  · dsimp only
    obtain ⟨hBw, τ9, A9, g1, g2, g3, g4⟩ := hAG.2 r s' hr (wI n) (wI_lt n)
    refine v_istore hC dL_law_1788 (by decide) ?_
    refine v_aload_n hC dL_law_1790 rfl ?_
    refine v_aload_n hC dL_law_1791 rfl ?_
    refine v_iload hC dL_law_1792 rfl ?_
    refine v_iconst (v := nI 1) hC dL_law_1794 (by decide) ?_
    refine v_iaddN hC dL_law_1795 ?_
    refine v_scr (x := 6 * i + 1) hC hP dL_law_1796 (by omega) (by omega) ?_
    refine v_aload_n hC dL_law_1797 rfl ?_
    refine v_iload hC dL_law_1798 rfl ?_
    refine v_iconst (v := nI 2) hC dL_law_1800 (by decide) ?_
    refine v_iaddN hC dL_law_1801 ?_
    refine v_scr (x := 6 * i + 2) hC hP dL_law_1802 (by omega) (by omega) ?_
    refine v_aload_n hC dL_law_1803 rfl ?_
    refine v_iload hC dL_law_1804 rfl ?_
    refine v_iconst (v := nI 3) hC dL_law_1806 (by decide) ?_
    refine v_iaddN hC dL_law_1807 ?_
    refine v_scr (x := 6 * i + 3) hC hP dL_law_1808 (by omega) (by omega) ?_
    refine v_callV hC lk_L_212 dL_law_1809 (c_X6_valueWith (σ := (up s' 60 0 0 0 (wI n))) hl0 hQ hBw (sc (6 * i + 1)) (sc (6 * i + 2)) (sc (6 * i + 3))) (by omega) (by decide) hQ.k30 rfl rfl rfl rfl (Nat.le_of_ble_eq_true rfl) (by omega) (by omega) (fun v μ h => ?_) (fun _ _ h => h.elim)
    rcases h with ⟨k, hk, rfl, rfl⟩ | ⟨r2, τ2, hk, rfl, rfl⟩
    skip
    · rw [g1] at hk
      cases hk
    rw [g1] at hk
    cases hk
    dsimp only
    refine v_istore hC dL_law_1812 (by decide) ?_
    refine v_aload_n hC dL_law_1814 rfl ?_
    refine v_callV_r0 hC lk_L_134 dL_law_1815 (c_X6_thrown hl0 hQ g2.1.1) (by omega) (by decide) hQ.k30 rfl rfl rfl rfl (Nat.le_of_ble_eq_true rfl) (by omega) (by omega) ?_
    rw [g3]
    refine v_iload hC dL_law_1818 rfl ?_
    refine v_icmp_eq (tgt := 1825) hC dL_law_1820 (by decide) (fun _ => ?_) (fun q => absurd rfl q)
    refine v_iload hC dL_law_1825 rfl ?_
    refine v_if_neN (tgt := 1842) hC dL_law_1827 (by decide) (by decide) (fun q => absurd rfl q) (fun _ => ?_)
    refine v_aload_n hC dL_law_1830 rfl ?_
    refine v_iconst (v := nI 0) hC dL_law_1831 (by decide) ?_
    refine al_60 hC dL_law_1832 h60 (by decide) ?_
    rw [g4, wI_of hn]
    refine v_iload hC dL_law_1833 rfl ?_
    refine v_i2l (v := lN (wI r)) hC dL_law_1835 (lN_wN _).symm ?_
    refine v_lcmp hC dL_law_1836 ?_
    refine v_if_eqJ (tgt := 1842) hC dL_law_1837 (by decide) (wI_lt r) (wI_lt r) (fun _ => ?_) (fun q => absurd rfl q)
    refine v_goto (tgt := 2247) hC dL_law_1842 (by decide) ?_
    exact v_wide (by omega) (by omega) (v_sub rfl (nx _ _ _ _ _ g2 rfl rfl rfl rfl))
theorem cdl_mergedAt (E : String) : cd_mergedAt E < 5 ∧ cd_mergedAt E ≠ 0 := by
  unfold cd_mergedAt
  first | (constructor <;> decide) | (repeat' split) <;> (constructor <;> decide)
theorem hxs_mergedAt {σ : SG} {a1 : Int32} {E : String} (h : k_mergedAt σ a1 = .inl E) : E = eIOB := by
  have h2 : ON (k_mergedAt σ a1) [eIOB] := by
    unfold k_mergedAt
    repeat (first | exact on_ret | exact on_err (by simp) | refine on_gR (by simp) (fun _ => ?_) | refine on_ite ?_ ?_)
  simpa using h2 E h
set_option maxHeartbeats 4000000 in
set_option maxRecDepth 100000 in
theorem case_mergedAt {X : XT} {G : GT} {mc ms K0 S0 p N : Nat} {sc : Nat → Int32} {ok : KF} {ad : AD} {σ : SG} {A : AS} {e i : Nat} (hl0 : (xl X).stackTraces = false) (hC : Cx X G "BranchyardLaw" cL_law 9 16 mc ms) (hN : NC (xs X)) (hP : Scr G (xs X) p N sc) (hNl : N ≤ 3072) (hI : INV G ok ad σ A e i) (hj : 6 * i + 6 ≤ N) (h1 : K0 + 200 * (i + 1) ≤ mc) (h2 : S0 + 3000 * (i + 1) + 4 * 4700 ≤ ms)
    (nx : ∀ ok' ad' σ' A' e', INV G ok' ad' σ' A' e' (i + 1) → ad' 0 0 0 = ad 0 0 0 → ad' 30 0 0 = ad 30 0 0 → ad' 60 0 0 = ad 60 0 0 → ad' 61 0 0 = ad 61 0 0 → V X G (K0 + 200 * (i + 1)) (S0 + 3000 * (i + 1) + 4 * e') ok' ad' σ' [(0, .ref p), (1, .ref (ad 0 0 0)), (2, .ref (ad 30 0 0)), (3, .ref (ad 60 0 0)), (4, .ref (ad 61 0 0)), (5, iv (6 * i))] 2247 []) : V X G (K0 + 200 * i) (S0 + 3000 * i + 4 * e) ok ad σ [(0, .ref p), (1, .ref (ad 0 0 0)), (2, .ref (ad 30 0 0)), (3, .ref (ad 60 0 0)), (4, .ref (ad 61 0 0)), (5, iv (6 * i))] 1957 [] := by
  obtain ⟨hR, ⟨hCK, hVK⟩, ⟨hArr, hKM⟩, ⟨h60, h61, n57, n58, n62, hO, hQ⟩, c5, c1, c6, cK, cq, ct, ce⟩ := id hI
  have hB := hR.1
  refine v_aload_n hC dL_law_1957 rfl ?_
  refine v_aload_n hC dL_law_1958 rfl ?_
  refine v_iload hC dL_law_1959 rfl ?_
  refine v_iconst (v := nI 1) hC dL_law_1961 (by decide) ?_
  refine v_iaddN hC dL_law_1962 ?_
  refine v_scr (x := 6 * i + 1) hC hP dL_law_1963 (by omega) (by omega) ?_
  refine v_aload_n hC dL_law_1964 rfl ?_
  refine v_callSN hC hN lkw_mergedAt dL_law_1965 (w_mergedAt hl0 (c_X5_mergedAt hl0 hO hB (sc (6 * i + 1))) hO.k0 (fun v μ h => by obtain ⟨r, τ, -, rfl, rfl⟩ := h; exact ⟨⟨r, rfl⟩, h60, rfl⟩) (fun E μ h => hxs_mergedAt h.1)) (by omega) (by decide) rfl rfl (Nat.le_of_ble_eq_true rfl) (by omega) (by omega) (fun v μ h => ?_)
  have hAG := law_simple hI (fun E => (cdl_mergedAt E).1) (fun τ hτ => ag_mergedAt hτ (sc (6 * i + 1)))
  rcases h with ⟨E, ⟨hE, rfl⟩, rfl⟩ | ⟨n, μ0, ⟨r, s', hr, hn, rfl⟩, rfl, rfl⟩
  · dsimp only
    obtain ⟨g1, g2⟩ := hAG.1 E hE
    have cdE := cdl_mergedAt E
    refine v_istore hC dL_law_1968 (by decide) ?_
    refine v_aload_n hC dL_law_1970 rfl ?_
    refine v_aload_n hC dL_law_1971 rfl ?_
    refine v_iload hC dL_law_1972 rfl ?_
    refine v_iconst (v := nI 1) hC dL_law_1974 (by decide) ?_
    refine v_iaddN hC dL_law_1975 ?_
    refine v_scr (x := 6 * i + 1) hC hP dL_law_1976 (by omega) (by omega) ?_
    refine v_callV hC lk_L_221 dL_law_1977 (c_X6_mergedAt (σ := σ) hl0 hQ hB (sc (6 * i + 1))) (by omega) (by decide) hQ.k30 rfl rfl rfl rfl (Nat.le_of_ble_eq_true rfl) (by omega) (by omega) (fun v μ h => ?_) (fun _ _ h => h.elim)
    rcases h with ⟨k, hk, rfl, rfl⟩ | ⟨r2, τ2, hk, rfl, rfl⟩
    rotate_left
    · rw [g1] at hk
      cases hk
    rw [g1] at hk
    cases hk
    dsimp only
    refine v_istore hC dL_law_1980 (by decide) ?_
    refine v_aload_n hC dL_law_1982 rfl ?_
    refine v_callV_r0 hC lk_L_134 dL_law_1983 (c_X6_thrown hl0 hQ g2.1.1) (by omega) (by decide) hQ.k30 rfl rfl rfl rfl (Nat.le_of_ble_eq_true rfl) (by omega) (by omega) ?_
    rw [show th (th σ 0) (cd_mergedAt E) 30 0 0 0 = cd_mergedAt E from up_same _ _ _ _ _ _]
    refine v_iload hC dL_law_1986 rfl ?_
    refine v_icmp_eq (tgt := 1993) hC dL_law_1988 (by decide) (fun _ => ?_) (fun q => absurd rfl q)
    refine v_iload hC dL_law_1993 rfl ?_
    refine v_if_neN (tgt := 2010) hC dL_law_1995 (by decide) (by omega) (fun _ => ?_) (fun q => absurd q cdE.2)
    refine v_goto (tgt := 2247) hC dL_law_2010 (by decide) ?_
    exact v_wide (by omega) (by omega) (v_sub rfl (nx _ _ _ _ _ g2 rfl rfl rfl rfl))
  · dsimp only
    obtain ⟨hBw, τ9, A9, g1, g2, g3, g4⟩ := hAG.2 r s' hr (wI n) (wI_lt n)
    refine v_istore hC dL_law_1968 (by decide) ?_
    refine v_aload_n hC dL_law_1970 rfl ?_
    refine v_aload_n hC dL_law_1971 rfl ?_
    refine v_iload hC dL_law_1972 rfl ?_
    refine v_iconst (v := nI 1) hC dL_law_1974 (by decide) ?_
    refine v_iaddN hC dL_law_1975 ?_
    refine v_scr (x := 6 * i + 1) hC hP dL_law_1976 (by omega) (by omega) ?_
    refine v_callV hC lk_L_221 dL_law_1977 (c_X6_mergedAt (σ := (up s' 60 0 0 0 (wI n))) hl0 hQ hBw (sc (6 * i + 1))) (by omega) (by decide) hQ.k30 rfl rfl rfl rfl (Nat.le_of_ble_eq_true rfl) (by omega) (by omega) (fun v μ h => ?_) (fun _ _ h => h.elim)
    rcases h with ⟨k, hk, rfl, rfl⟩ | ⟨r2, τ2, hk, rfl, rfl⟩
    skip
    · rw [g1] at hk
      cases hk
    rw [g1] at hk
    cases hk
    dsimp only
    refine v_istore hC dL_law_1980 (by decide) ?_
    refine v_aload_n hC dL_law_1982 rfl ?_
    refine v_callV_r0 hC lk_L_134 dL_law_1983 (c_X6_thrown hl0 hQ g2.1.1) (by omega) (by decide) hQ.k30 rfl rfl rfl rfl (Nat.le_of_ble_eq_true rfl) (by omega) (by omega) ?_
    rw [g3]
    refine v_iload hC dL_law_1986 rfl ?_
    refine v_icmp_eq (tgt := 1993) hC dL_law_1988 (by decide) (fun _ => ?_) (fun q => absurd rfl q)
    refine v_iload hC dL_law_1993 rfl ?_
    refine v_if_neN (tgt := 2010) hC dL_law_1995 (by decide) (by decide) (fun q => absurd rfl q) (fun _ => ?_)
    refine v_aload_n hC dL_law_1998 rfl ?_
    refine v_iconst (v := nI 0) hC dL_law_1999 (by decide) ?_
    refine al_60 hC dL_law_2000 h60 (by decide) ?_
    rw [g4, wI_of hn]
    refine v_iload hC dL_law_2001 rfl ?_
    refine v_i2l (v := lN (wI r)) hC dL_law_2003 (lN_wN _).symm ?_
    refine v_lcmp hC dL_law_2004 ?_
    refine v_if_eqJ (tgt := 2010) hC dL_law_2005 (by decide) (wI_lt r) (wI_lt r) (fun _ => ?_) (fun q => absurd rfl q)
    refine v_goto (tgt := 2247) hC dL_law_2010 (by decide) ?_
    exact v_wide (by omega) (by omega) (v_sub rfl (nx _ _ _ _ _ g2 rfl rfl rfl rfl))
