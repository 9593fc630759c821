def ON (f : OC) (L : List String) : Prop := ∀ E, f = .inl E → E ∈ L
theorem on_ret {q : Nat × SG} {L : List String} : ON (.inr q) L := fun _ h => by cases h
theorem on_err {E : String} {L : List String} (h : E ∈ L) : ON (.inl E) L := fun _ q => by cases q; exact h
theorem on_gR {x : Int32} {N : Nat} {E : String} {f : Nat → OC} {L : List String} (h : E ∈ L) (h2 : ∀ n, ON (f n) L) : ON (gR x N E f) L := by
  unfold gR
  cases inR x N with
  | none => exact on_err h
  | some n => exact h2 n
theorem on_ite {c : Prop} [Decidable c] {f g : OC} {L : List String} (h : ON f L) (h2 : ON g L) : ON (if c then f else g) L := by
  by_cases q : c
  · rw [if_pos q]; exact h
  · rw [if_neg q]; exact h2
theorem wB_of {n r : Nat} (h : some (iv n) = some (iv r)) : wB n = wB r := by
  have : nI n = nI r := by injection h with h; injection h
  unfold wB
  rw [this]
theorem wI_lt (n : Nat) : wI n < 2 ^ 64 := UInt64.toNat_lt _
theorem wB_lt (n : Nat) : wB n < 2 ^ 64 := by unfold wB; split <;> decide
theorem wI_of {n r : Nat} (h : some (iv n) = some (iv r)) : wI n = wI r := by
  have : nI n = nI r := by injection h with h; injection h
  unfold wI
  rw [this]
theorem cdl_setOwner (E : String) : cd_setOwner E < 5 ∧ cd_setOwner E ≠ 0 := by
  unfold cd_setOwner
  first | (constructor <;> decide) | (repeat' split) <;> (constructor <;> decide)
theorem hxs_setOwner {σ : SG} {a1 : Int32} {a2 : Int32} {a3 : Int32} {E : String} (h : k_setOwner σ a1 a2 a3 = .inl E) : E = eIOB ∨ E = eIAE := by
  have h2 : ON (k_setOwner σ a1 a2 a3) [eIOB, eIAE] := by
    unfold k_setOwner
    repeat (first | exact on_ret | exact on_err (by simp) | refine on_gR (by simp) (fun _ => ?_) | refine on_ite ?_ ?_)
  simpa using h2 E h
set_option maxHeartbeats 4000000 in
set_option maxRecDepth 100000 in
theorem case_setOwner {X : XT} {G : GT} {mc ms K0 S0 p N : Nat} {sc : Nat → Int32} {ok : KF} {ad : AD} {σ : SG} {A : AS} {e i : Nat} (hl0 : (xl X).stackTraces = false) (hC : Cx X G "BranchyardLaw" cL_law 9 16 mc ms) (hN : NC (xs X)) (hP : Scr G (xs X) p N sc) (hNl : N ≤ 3072) (hI : INV G ok ad σ A e i) (hj : 6 * i + 6 ≤ N) (h1 : K0 + 200 * (i + 1) ≤ mc) (h2 : S0 + 3000 * (i + 1) + 4 * 4700 ≤ ms)
    (nx : ∀ ok' ad' σ' A' e', INV G ok' ad' σ' A' e' (i + 1) → ad' 0 0 0 = ad 0 0 0 → ad' 30 0 0 = ad 30 0 0 → ad' 60 0 0 = ad 60 0 0 → ad' 61 0 0 = ad 61 0 0 → V X G (K0 + 200 * (i + 1)) (S0 + 3000 * (i + 1) + 4 * e') ok' ad' σ' [(0, .ref p), (1, .ref (ad 0 0 0)), (2, .ref (ad 30 0 0)), (3, .ref (ad 60 0 0)), (4, .ref (ad 61 0 0)), (5, iv (6 * i))] 2247 []) : V X G (K0 + 200 * i) (S0 + 3000 * i + 4 * e) ok ad σ [(0, .ref p), (1, .ref (ad 0 0 0)), (2, .ref (ad 30 0 0)), (3, .ref (ad 60 0 0)), (4, .ref (ad 61 0 0)), (5, iv (6 * i))] 192 [] := by
  obtain ⟨hR, ⟨hCK, hVK⟩, ⟨hArr, hKM⟩, ⟨h60, h61, n57, n58, n62, hO, hQ⟩, c5, c1, c6, cK, cq, ct, ce⟩ := id hI
  have hB := hR.1
  refine v_aload_n hC dL_law_192 rfl ?_
  refine v_aload_n hC dL_law_193 rfl ?_
  refine v_iload hC dL_law_194 rfl ?_
  refine v_iconst (v := nI 1) hC dL_law_196 (by decide) ?_
  refine v_iaddN hC dL_law_197 ?_
  refine v_scr (x := 6 * i + 1) hC hP dL_law_198 (by omega) (by omega) ?_
  refine v_aload_n hC dL_law_199 rfl ?_
  refine v_iload hC dL_law_200 rfl ?_
  refine v_iconst (v := nI 2) hC dL_law_202 (by decide) ?_
  refine v_iaddN hC dL_law_203 ?_
  refine v_scr (x := 6 * i + 2) hC hP dL_law_204 (by omega) (by omega) ?_
  refine v_aload_n hC dL_law_205 rfl ?_
  refine v_iload hC dL_law_206 rfl ?_
  refine v_iconst (v := nI 3) hC dL_law_208 (by decide) ?_
  refine v_iaddN hC dL_law_209 ?_
  refine v_scr (x := 6 * i + 3) hC hP dL_law_210 (by omega) (by omega) ?_
  refine v_aload_n hC dL_law_211 rfl ?_
  refine v_callSN hC hN lkw_setOwner dL_law_212 (w_setOwner hl0 (c_X5_setOwner hl0 hO hB (sc (6 * i + 1)) (sc (6 * i + 2)) (sc (6 * i + 3))) hO.k0 (fun v μ h => by obtain ⟨r, τ, -, rfl, rfl⟩ := h; exact ⟨⟨r, rfl⟩, h60, rfl⟩) (fun E μ h => hxs_setOwner h.1)) (by omega) (by decide) rfl rfl (Nat.le_of_ble_eq_true rfl) (by omega) (by omega) (fun v μ h => ?_)
  have hAG := law_simple hI (fun E => (cdl_setOwner E).1) (fun τ hτ => ag_setOwner hτ (sc (6 * i + 1)) (sc (6 * i + 2)) (sc (6 * i + 3)))
  rcases h with ⟨E, ⟨hE, rfl⟩, rfl⟩ | ⟨n, μ0, ⟨r, s', hr, hn, rfl⟩, rfl, rfl⟩
  · dsimp only
    obtain ⟨g1, g2⟩ := hAG.1 E hE
    have cdE := cdl_setOwner E
    refine v_istore hC dL_law_215 (by decide) ?_
    refine v_aload_n hC dL_law_217 rfl ?_
    refine v_aload_n hC dL_law_218 rfl ?_
    refine v_iload hC dL_law_219 rfl ?_
    refine v_iconst (v := nI 1) hC dL_law_221 (by decide) ?_
    refine v_iaddN hC dL_law_222 ?_
    refine v_scr (x := 6 * i + 1) hC hP dL_law_223 (by omega) (by omega) ?_
    refine v_aload_n hC dL_law_224 rfl ?_
    refine v_iload hC dL_law_225 rfl ?_
    refine v_iconst (v := nI 2) hC dL_law_227 (by decide) ?_
    refine v_iaddN hC dL_law_228 ?_
    refine v_scr (x := 6 * i + 2) hC hP dL_law_229 (by omega) (by omega) ?_
    refine v_aload_n hC dL_law_230 rfl ?_
    refine v_iload hC dL_law_231 rfl ?_
    refine v_iconst (v := nI 3) hC dL_law_233 (by decide) ?_
    refine v_iaddN hC dL_law_234 ?_
    refine v_scr (x := 6 * i + 3) hC hP dL_law_235 (by omega) (by omega) ?_
    refine v_callV hC lk_L_133 dL_law_236 (c_X6_setOwner (σ := σ) hl0 hQ hB (sc (6 * i + 1)) (sc (6 * i + 2)) (sc (6 * i + 3))) (by omega) (by decide) hQ.k30 rfl rfl rfl rfl (Nat.le_of_ble_eq_true rfl) (by omega) (by omega) (fun v μ h => ?_) (fun _ _ h => h.elim)
    rcases h with ⟨k, hk, rfl, rfl⟩ | ⟨r2, τ2, hk, rfl, rfl⟩
    rotate_left
    · rw [g1] at hk
      cases hk
    rw [g1] at hk
    cases hk
    dsimp only
    refine v_istore hC dL_law_239 (by decide) ?_
    refine v_aload_n hC dL_law_241 rfl ?_
    refine v_callV_r0 hC lk_L_134 dL_law_242 (c_X6_thrown hl0 hQ g2.1.1) (by omega) (by decide) hQ.k30 rfl rfl rfl rfl (Nat.le_of_ble_eq_true rfl) (by omega) (by omega) ?_
    rw [show th (th σ 0) (cd_setOwner E) 30 0 0 0 = cd_setOwner E from up_same _ _ _ _ _ _]
    refine v_iload hC dL_law_245 rfl ?_
    refine v_icmp_eq (tgt := 252) hC dL_law_247 (by decide) (fun _ => ?_) (fun q => absurd rfl q)
    refine v_iload hC dL_law_252 rfl ?_
    refine v_if_neN (tgt := 269) hC dL_law_254 (by decide) (by omega) (fun _ => ?_) (fun q => absurd q cdE.2)
    refine v_goto (tgt := 2247) hC dL_law_269 (by decide) ?_
    exact v_wide (by omega) (by omega) (v_sub rfl (nx _ _ _ _ _ g2 rfl rfl rfl rfl))
  · dsimp only
    obtain ⟨hBw, hRw, τ9, A9, g1, g2, g3, g4⟩ := hAG.2 r s' hr (wI n) (wI_lt n)
    refine v_istore hC dL_law_215 (by decide) ?_
    refine v_aload_n hC dL_law_217 rfl ?_
    refine v_aload_n hC dL_law_218 rfl ?_
    refine v_iload hC dL_law_219 rfl ?_
    refine v_iconst (v := nI 1) hC dL_law_221 (by decide) ?_
    refine v_iaddN hC dL_law_222 ?_
    refine v_scr (x := 6 * i + 1) hC hP dL_law_223 (by omega) (by omega) ?_
    refine v_aload_n hC dL_law_224 rfl ?_
    refine v_iload hC dL_law_225 rfl ?_
    refine v_iconst (v := nI 2) hC dL_law_227 (by decide) ?_
    refine v_iaddN hC dL_law_228 ?_
    refine v_scr (x := 6 * i + 2) hC hP dL_law_229 (by omega) (by omega) ?_
    refine v_aload_n hC dL_law_230 rfl ?_
    refine v_iload hC dL_law_231 rfl ?_
    refine v_iconst (v := nI 3) hC dL_law_233 (by decide) ?_
    refine v_iaddN hC dL_law_234 ?_
    refine v_scr (x := 6 * i + 3) hC hP dL_law_235 (by omega) (by omega) ?_
    refine v_callV hC lk_L_133 dL_law_236 (c_X6_setOwner (σ := (up s' 60 0 0 0 (wI n))) hl0 hQ hBw (sc (6 * i + 1)) (sc (6 * i + 2)) (sc (6 * i + 3))) (by omega) (by decide) hQ.k30 rfl rfl rfl rfl (Nat.le_of_ble_eq_true rfl) (by omega) (by omega) (fun v μ h => ?_) (fun _ _ h => h.elim)
    rcases h with ⟨k, hk, rfl, rfl⟩ | ⟨r2, τ2, hk, rfl, rfl⟩
    skip
    · rw [g1] at hk
      cases hk
    rw [g1] at hk
    cases hk
    dsimp only
    refine v_istore hC dL_law_239 (by decide) ?_
    refine v_aload_n hC dL_law_241 rfl ?_
    refine v_callV_r0 hC lk_L_134 dL_law_242 (c_X6_thrown hl0 hQ g2.1.1) (by omega) (by decide) hQ.k30 rfl rfl rfl rfl (Nat.le_of_ble_eq_true rfl) (by omega) (by omega) ?_
    rw [g3]
    refine v_iload hC dL_law_245 rfl ?_
    refine v_icmp_eq (tgt := 252) hC dL_law_247 (by decide) (fun _ => ?_) (fun q => absurd rfl q)
    refine v_iload hC dL_law_252 rfl ?_
    refine v_if_neN (tgt := 269) hC dL_law_254 (by decide) (by decide) (fun q => absurd rfl q) (fun _ => ?_)
    refine v_aload_n hC dL_law_257 rfl ?_
    refine v_iconst (v := nI 0) hC dL_law_258 (by decide) ?_
    refine al_60 hC dL_law_259 h60 (by decide) ?_
    rw [g4, wI_of hn]
    refine v_iload hC dL_law_260 rfl ?_
    refine v_i2l (v := lN (wI r)) hC dL_law_262 (lN_wN _).symm ?_
    refine v_lcmp hC dL_law_263 ?_
    refine v_if_eqJ (tgt := 269) hC dL_law_264 (by decide) (wI_lt r) (wI_lt r) (fun _ => ?_) (fun q => absurd rfl q)
    refine v_goto (tgt := 2247) hC dL_law_269 (by decide) ?_
    exact v_wide (by omega) (by omega) (v_sub rfl (nx _ _ _ _ _ g2 rfl rfl rfl rfl))
theorem cdl_open (E : String) : cd_open E < 5 ∧ cd_open E ≠ 0 := by
  unfold cd_open
  first | (constructor <;> decide) | (repeat' split) <;> (constructor <;> decide)
theorem hxs_open {σ : SG} {a1 : Int32} {E : String} (h : k_open σ a1 = .inl E) : E = eIAE ∨ E = eISE := by
  have h2 : ON (k_open σ a1) [eIAE, eISE] := by
    unfold k_open
    repeat (first | exact on_ret | exact on_err (by simp) | refine on_gR (by simp) (fun _ => ?_) | refine on_ite ?_ ?_)
  simpa using h2 E h
set_option maxHeartbeats 4000000 in
set_option maxRecDepth 100000 in
theorem case_open {X : XT} {G : GT} {mc ms K0 S0 p N : Nat} {sc : Nat → Int32} {ok : KF} {ad : AD} {σ : SG} {A : AS} {e i : Nat} (hl0 : (xl X).stackTraces = false) (hC : Cx X G "BranchyardLaw" cL_law 9 16 mc ms) (hN : NC (xs X)) (hP : Scr G (xs X) p N sc) (hNl : N ≤ 3072) (hI : INV G ok ad σ A e i) (hj : 6 * i + 6 ≤ N) (h1 : K0 + 200 * (i + 1) ≤ mc) (h2 : S0 + 3000 * (i + 1) + 4 * 4700 ≤ ms)
    (nx : ∀ ok' ad' σ' A' e', INV G ok' ad' σ' A' e' (i + 1) → ad' 0 0 0 = ad 0 0 0 → ad' 30 0 0 = ad 30 0 0 → ad' 60 0 0 = ad 60 0 0 → ad' 61 0 0 = ad 61 0 0 → V X G (K0 + 200 * (i + 1)) (S0 + 3000 * (i + 1) + 4 * e') ok' ad' σ' [(0, .ref p), (1, .ref (ad 0 0 0)), (2, .ref (ad 30 0 0)), (3, .ref (ad 60 0 0)), (4, .ref (ad 61 0 0)), (5, iv (6 * i))] 2247 []) : V X G (K0 + 200 * i) (S0 + 3000 * i + 4 * e) ok ad σ [(0, .ref p), (1, .ref (ad 0 0 0)), (2, .ref (ad 30 0 0)), (3, .ref (ad 60 0 0)), (4, .ref (ad 61 0 0)), (5, iv (6 * i))] 363 [] := by
  obtain ⟨hR, ⟨hCK, hVK⟩, ⟨hArr, hKM⟩, ⟨h60, h61, n57, n58, n62, hO, hQ⟩, c5, c1, c6, cK, cq, ct, ce⟩ := id hI
  have hB := hR.1
  refine v_aload_n hC dL_law_363 rfl ?_
  refine v_aload_n hC dL_law_364 rfl ?_
  refine v_iload hC dL_law_365 rfl ?_
  refine v_iconst (v := nI 1) hC dL_law_367 (by decide) ?_
  refine v_iaddN hC dL_law_368 ?_
  refine v_scr (x := 6 * i + 1) hC hP dL_law_369 (by omega) (by omega) ?_
  refine v_aload_n hC dL_law_370 rfl ?_
  refine v_callSN hC hN lkw_open dL_law_371 (w_open hl0 (c_X5_open hl0 hO hB (sc (6 * i + 1))) hO.k0 (fun v μ h => by obtain ⟨r, τ, -, rfl, rfl⟩ := h; exact ⟨⟨r, rfl⟩, h60, rfl⟩) (fun E μ h => hxs_open h.1)) (by omega) (by decide) rfl rfl (Nat.le_of_ble_eq_true rfl) (by omega) (by omega) (fun v μ h => ?_)
  have hAG := law_simple hI (fun E => (cdl_open E).1) (fun τ hτ => ag_open hτ (sc (6 * i + 1)))
  rcases h with ⟨E, ⟨hE, rfl⟩, rfl⟩ | ⟨n, μ0, ⟨r, s', hr, hn, rfl⟩, rfl, rfl⟩
  · dsimp only
    obtain ⟨g1, g2⟩ := hAG.1 E hE
    have cdE := cdl_open E
    refine v_istore hC dL_law_374 (by decide) ?_
    refine v_aload_n hC dL_law_376 rfl ?_
    refine v_aload_n hC dL_law_377 rfl ?_
    refine v_iload hC dL_law_378 rfl ?_
    refine v_iconst (v := nI 1) hC dL_law_380 (by decide) ?_
    refine v_iaddN hC dL_law_381 ?_
    refine v_scr (x := 6 * i + 1) hC hP dL_law_382 (by omega) (by omega) ?_
    refine v_callV hC lk_L_144 dL_law_383 (c_X6_open (σ := σ) hl0 hQ hB (sc (6 * i + 1))) (by omega) (by decide) hQ.k30 rfl rfl rfl rfl (Nat.le_of_ble_eq_true rfl) (by omega) (by omega) (fun v μ h => ?_) (fun _ _ h => h.elim)
    rcases h with ⟨k, hk, rfl, rfl⟩ | ⟨r2, τ2, hk, rfl, rfl⟩
    rotate_left
    · rw [g1] at hk
      cases hk
    rw [g1] at hk
    cases hk
    dsimp only
    refine v_istore hC dL_law_386 (by decide) ?_
    refine v_aload_n hC dL_law_388 rfl ?_
    refine v_callV_r0 hC lk_L_134 dL_law_389 (c_X6_thrown hl0 hQ g2.1.1) (by omega) (by decide) hQ.k30 rfl rfl rfl rfl (Nat.le_of_ble_eq_true rfl) (by omega) (by omega) ?_
    rw [show th (th σ 0) (cd_open E) 30 0 0 0 = cd_open E from up_same _ _ _ _ _ _]
    refine v_iload hC dL_law_392 rfl ?_
    refine v_icmp_eq (tgt := 399) hC dL_law_394 (by decide) (fun _ => ?_) (fun q => absurd rfl q)
    refine v_iload hC dL_law_399 rfl ?_
    refine v_if_neN (tgt := 416) hC dL_law_401 (by decide) (by omega) (fun _ => ?_) (fun q => absurd q cdE.2)
    refine v_goto (tgt := 2247) hC dL_law_416 (by decide) ?_
    exact v_wide (by omega) (by omega) (v_sub rfl (nx _ _ _ _ _ g2 rfl rfl rfl rfl))
  · dsimp only
    obtain ⟨hBw, hRw, τ9, A9, g1, g2, g3, g4⟩ := hAG.2 r s' hr (wI n) (wI_lt n)
    refine v_istore hC dL_law_374 (by decide) ?_
    refine v_aload_n hC dL_law_376 rfl ?_
    refine v_aload_n hC dL_law_377 rfl ?_
    refine v_iload hC dL_law_378 rfl ?_
    refine v_iconst (v := nI 1) hC dL_law_380 (by decide) ?_
    refine v_iaddN hC dL_law_381 ?_
    refine v_scr (x := 6 * i + 1) hC hP dL_law_382 (by omega) (by omega) ?_
    refine v_callV hC lk_L_144 dL_law_383 (c_X6_open (σ := (up s' 60 0 0 0 (wI n))) hl0 hQ hBw (sc (6 * i + 1))) (by omega) (by decide) hQ.k30 rfl rfl rfl rfl (Nat.le_of_ble_eq_true rfl) (by omega) (by omega) (fun v μ h => ?_) (fun _ _ h => h.elim)
    rcases h with ⟨k, hk, rfl, rfl⟩ | ⟨r2, τ2, hk, rfl, rfl⟩
    skip
    · rw [g1] at hk
      cases hk
    rw [g1] at hk
    cases hk
    dsimp only
    refine v_istore hC dL_law_386 (by decide) ?_
    refine v_aload_n hC dL_law_388 rfl ?_
    refine v_callV_r0 hC lk_L_134 dL_law_389 (c_X6_thrown hl0 hQ g2.1.1) (by omega) (by decide) hQ.k30 rfl rfl rfl rfl (Nat.le_of_ble_eq_true rfl) (by omega) (by omega) ?_
    rw [g3]
    refine v_iload hC dL_law_392 rfl ?_
    refine v_icmp_eq (tgt := 399) hC dL_law_394 (by decide) (fun _ => ?_) (fun q => absurd rfl q)
    refine v_iload hC dL_law_399 rfl ?_
    refine v_if_neN (tgt := 416) hC dL_law_401 (by decide) (by decide) (fun q => absurd rfl q) (fun _ => ?_)
    refine v_aload_n hC dL_law_404 rfl ?_
    refine v_iconst (v := nI 0) hC dL_law_405 (by decide) ?_
    refine al_60 hC dL_law_406 h60 (by decide) ?_
    rw [g4, wI_of hn]
    refine v_iload hC dL_law_407 rfl ?_
    refine v_i2l (v := lN (wI r)) hC dL_law_409 (lN_wN _).symm ?_
    refine v_lcmp hC dL_law_410 ?_
    refine v_if_eqJ (tgt := 416) hC dL_law_411 (by decide) (wI_lt r) (wI_lt r) (fun _ => ?_) (fun q => absurd rfl q)
    refine v_goto (tgt := 2247) hC dL_law_416 (by decide) ?_
    exact v_wide (by omega) (by omega) (v_sub rfl (nx _ _ _ _ _ g2 rfl rfl rfl rfl))
theorem cdl_edit (E : String) : cd_edit E < 5 ∧ cd_edit E ≠ 0 := by
  unfold cd_edit
  first | (constructor <;> decide) | (repeat' split) <;> (constructor <;> decide)
theorem hxs_edit {σ : SG} {a1 : Int32} {a2 : Int32} {a3 : Int32} {a4 : Int32} {E : String} (h : k_edit σ a1 a2 a3 a4 = .inl E) : E = eNSE ∨ E = eIOB ∨ E = eIAE ∨ E = eISE := by
  have h2 : ON (k_edit σ a1 a2 a3 a4) [eNSE, eIOB, eIAE, eISE] := by
    unfold k_edit
    repeat (first | exact on_ret | exact on_err (by simp) | refine on_gR (by simp) (fun _ => ?_) | refine on_ite ?_ ?_)
  simpa using h2 E h
set_option maxHeartbeats 4000000 in
set_option maxRecDepth 100000 in
theorem case_edit {X : XT} {G : GT} {mc ms K0 S0 p N : Nat} {sc : Nat → Int32} {ok : KF} {ad : AD} {σ : SG} {A : AS} {e i : Nat} (hl0 : (xl X).stackTraces = false) (hC : Cx X G "BranchyardLaw" cL_law 9 16 mc ms) (hN : NC (xs X)) (hP : Scr G (xs X) p N sc) (hNl : N ≤ 3072) (hI : INV G ok ad σ A e i) (hj : 6 * i + 6 ≤ N) (h1 : K0 + 200 * (i + 1) ≤ mc) (h2 : S0 + 3000 * (i + 1) + 4 * 4700 ≤ ms)
    (nx : ∀ ok' ad' σ' A' e', INV G ok' ad' σ' A' e' (i + 1) → ad' 0 0 0 = ad 0 0 0 → ad' 30 0 0 = ad 30 0 0 → ad' 60 0 0 = ad 60 0 0 → ad' 61 0 0 = ad 61 0 0 → V X G (K0 + 200 * (i + 1)) (S0 + 3000 * (i + 1) + 4 * e') ok' ad' σ' [(0, .ref p), (1, .ref (ad 0 0 0)), (2, .ref (ad 30 0 0)), (3, .ref (ad 60 0 0)), (4, .ref (ad 61 0 0)), (5, iv (6 * i))] 2247 []) : V X G (K0 + 200 * i) (S0 + 3000 * i + 4 * e) ok ad σ [(0, .ref p), (1, .ref (ad 0 0 0)), (2, .ref (ad 30 0 0)), (3, .ref (ad 60 0 0)), (4, .ref (ad 61 0 0)), (5, iv (6 * i))] 419 [] := by
  obtain ⟨hR, ⟨hCK, hVK⟩, ⟨hArr, hKM⟩, ⟨h60, h61, n57, n58, n62, hO, hQ⟩, c5, c1, c6, cK, cq, ct, ce⟩ := id hI
  have hB := hR.1
  refine v_aload_n hC dL_law_419 rfl ?_
  refine v_aload_n hC dL_law_420 rfl ?_
  refine v_iload hC dL_law_421 rfl ?_
  refine v_iconst (v := nI 1) hC dL_law_423 (by decide) ?_
  refine v_iaddN hC dL_law_424 ?_
  refine v_scr (x := 6 * i + 1) hC hP dL_law_425 (by omega) (by omega) ?_
  refine v_aload_n hC dL_law_426 rfl ?_
  refine v_iload hC dL_law_427 rfl ?_
  refine v_iconst (v := nI 2) hC dL_law_429 (by decide) ?_
  refine v_iaddN hC dL_law_430 ?_
  refine v_scr (x := 6 * i + 2) hC hP dL_law_431 (by omega) (by omega) ?_
  refine v_aload_n hC dL_law_432 rfl ?_
  refine v_iload hC dL_law_433 rfl ?_
  refine v_iconst (v := nI 3) hC dL_law_435 (by decide) ?_
  refine v_iaddN hC dL_law_436 ?_
  refine v_scr (x := 6 * i + 3) hC hP dL_law_437 (by omega) (by omega) ?_
  refine v_aload_n hC dL_law_438 rfl ?_
  refine v_iload hC dL_law_439 rfl ?_
  refine v_iconst (v := nI 4) hC dL_law_441 (by decide) ?_
  refine v_iaddN hC dL_law_442 ?_
  refine v_scr (x := 6 * i + 4) hC hP dL_law_443 (by omega) (by omega) ?_
  refine v_aload_n hC dL_law_444 rfl ?_
  refine v_callSN hC hN lkw_edit dL_law_445 (w_edit hl0 (c_X5_edit hl0 hO hB (sc (6 * i + 1)) (sc (6 * i + 2)) (sc (6 * i + 3)) (sc (6 * i + 4))) hO.k0 (fun v μ h => by obtain ⟨r, τ, -, rfl, rfl⟩ := h; exact ⟨⟨r, rfl⟩, h60, rfl⟩) (fun E μ h => hxs_edit h.1)) (by omega) (by decide) rfl rfl (Nat.le_of_ble_eq_true rfl) (by omega) (by omega) (fun v μ h => ?_)
  have hAG := law_simple hI (fun E => (cdl_edit E).1) (fun τ hτ => ag_edit hτ (sc (6 * i + 1)) (sc (6 * i + 2)) (sc (6 * i + 3)) (sc (6 * i + 4)))
  rcases h with ⟨E, ⟨hE, rfl⟩, rfl⟩ | ⟨n, μ0, ⟨r, s', hr, hn, rfl⟩, rfl, rfl⟩
  · dsimp only
    obtain ⟨g1, g2⟩ := hAG.1 E hE
    have cdE := cdl_edit E
    refine v_istore hC dL_law_448 (by decide) ?_
    refine v_aload_n hC dL_law_450 rfl ?_
    refine v_aload_n hC dL_law_451 rfl ?_
    refine v_iload hC dL_law_452 rfl ?_
    refine v_iconst (v := nI 1) hC dL_law_454 (by decide) ?_
    refine v_iaddN hC dL_law_455 ?_
    refine v_scr (x := 6 * i + 1) hC hP dL_law_456 (by omega) (by omega) ?_
    refine v_aload_n hC dL_law_457 rfl ?_
    refine v_iload hC dL_law_458 rfl ?_
    refine v_iconst (v := nI 2) hC dL_law_460 (by decide) ?_
    refine v_iaddN hC dL_law_461 ?_
    refine v_scr (x := 6 * i + 2) hC hP dL_law_462 (by omega) (by omega) ?_
    refine v_aload_n hC dL_law_463 rfl ?_
    refine v_iload hC dL_law_464 rfl ?_
    refine v_iconst (v := nI 3) hC dL_law_466 (by decide) ?_
    refine v_iaddN hC dL_law_467 ?_
    refine v_scr (x := 6 * i + 3) hC hP dL_law_468 (by omega) (by omega) ?_
    refine v_aload_n hC dL_law_469 rfl ?_
    refine v_iload hC dL_law_470 rfl ?_
    refine v_iconst (v := nI 4) hC dL_law_472 (by decide) ?_
    refine v_iaddN hC dL_law_473 ?_
    refine v_scr (x := 6 * i + 4) hC hP dL_law_474 (by omega) (by omega) ?_
    refine v_callV hC lk_L_148 dL_law_475 (c_X6_edit (σ := σ) hl0 hQ hB (sc (6 * i + 1)) (sc (6 * i + 2)) (sc (6 * i + 3)) (sc (6 * i + 4))) (by omega) (by decide) hQ.k30 rfl rfl rfl rfl (Nat.le_of_ble_eq_true rfl) (by omega) (by omega) (fun v μ h => ?_) (fun _ _ h => h.elim)
    rcases h with ⟨k, hk, rfl, rfl⟩ | ⟨r2, τ2, hk, rfl, rfl⟩
    rotate_left
    · rw [g1] at hk
      cases hk
    rw [g1] at hk
    cases hk
    dsimp only
    refine v_istore hC dL_law_478 (by decide) ?_
    refine v_aload_n hC dL_law_480 rfl ?_
    refine v_callV_r0 hC lk_L_134 dL_law_481 (c_X6_thrown hl0 hQ g2.1.1) (by omega) (by decide) hQ.k30 rfl rfl rfl rfl (Nat.le_of_ble_eq_true rfl) (by omega) (by omega) ?_
    rw [show th (th σ 0) (cd_edit E) 30 0 0 0 = cd_edit E from up_same _ _ _ _ _ _]
    refine v_iload hC dL_law_484 rfl ?_
    refine v_icmp_eq (tgt := 491) hC dL_law_486 (by decide) (fun _ => ?_) (fun q => absurd rfl q)
    refine v_iload hC dL_law_491 rfl ?_
    refine v_if_neN (tgt := 508) hC dL_law_493 (by decide) (by omega) (fun _ => ?_) (fun q => absurd q cdE.2)
    refine v_goto (tgt := 2247) hC dL_law_508 (by decide) ?_
    exact v_wide (by omega) (by omega) (v_sub rfl (nx _ _ _ _ _ g2 rfl rfl rfl rfl))
  · dsimp only
    obtain ⟨hBw, hRw, τ9, A9, g1, g2, g3, g4⟩ := hAG.2 r s' hr (wI n) (wI_lt n)
    refine v_istore hC dL_law_448 (by decide) ?_
    refine v_aload_n hC dL_law_450 rfl ?_
    refine v_aload_n hC dL_law_451 rfl ?_
    refine v_iload hC dL_law_452 rfl ?_
    refine v_iconst (v := nI 1) hC dL_law_454 (by decide) ?_
    refine v_iaddN hC dL_law_455 ?_
    refine v_scr (x := 6 * i + 1) hC hP dL_law_456 (by omega) (by omega) ?_
    refine v_aload_n hC dL_law_457 rfl ?_
    refine v_iload hC dL_law_458 rfl ?_
    refine v_iconst (v := nI 2) hC dL_law_460 (by decide) ?_
    refine v_iaddN hC dL_law_461 ?_
    refine v_scr (x := 6 * i + 2) hC hP dL_law_462 (by omega) (by omega) ?_
    refine v_aload_n hC dL_law_463 rfl ?_
    refine v_iload hC dL_law_464 rfl ?_
    refine v_iconst (v := nI 3) hC dL_law_466 (by decide) ?_
    refine v_iaddN hC dL_law_467 ?_
    refine v_scr (x := 6 * i + 3) hC hP dL_law_468 (by omega) (by omega) ?_
    refine v_aload_n hC dL_law_469 rfl ?_
    refine v_iload hC dL_law_470 rfl ?_
    refine v_iconst (v := nI 4) hC dL_law_472 (by decide) ?_
    refine v_iaddN hC dL_law_473 ?_
    refine v_scr (x := 6 * i + 4) hC hP dL_law_474 (by omega) (by omega) ?_
    refine v_callV hC lk_L_148 dL_law_475 (c_X6_edit (σ := (up s' 60 0 0 0 (wI n))) hl0 hQ hBw (sc (6 * i + 1)) (sc (6 * i + 2)) (sc (6 * i + 3)) (sc (6 * i + 4))) (by omega) (by decide) hQ.k30 rfl rfl rfl rfl (Nat.le_of_ble_eq_true rfl) (by omega) (by omega) (fun v μ h => ?_) (fun _ _ h => h.elim)
    rcases h with ⟨k, hk, rfl, rfl⟩ | ⟨r2, τ2, hk, rfl, rfl⟩
    skip
    · rw [g1] at hk
      cases hk
    rw [g1] at hk
    cases hk
    dsimp only
    refine v_istore hC dL_law_478 (by decide) ?_
    refine v_aload_n hC dL_law_480 rfl ?_
    refine v_callV_r0 hC lk_L_134 dL_law_481 (c_X6_thrown hl0 hQ g2.1.1) (by omega) (by decide) hQ.k30 rfl rfl rfl rfl (Nat.le_of_ble_eq_true rfl) (by omega) (by omega) ?_
    rw [g3]
    refine v_iload hC dL_law_484 rfl ?_
    refine v_icmp_eq (tgt := 491) hC dL_law_486 (by decide) (fun _ => ?_) (fun q => absurd rfl q)
    refine v_iload hC dL_law_491 rfl ?_
    refine v_if_neN (tgt := 508) hC dL_law_493 (by decide) (by decide) (fun q => absurd rfl q) (fun _ => ?_)
    refine v_aload_n hC dL_law_496 rfl ?_
    refine v_iconst (v := nI 0) hC dL_law_497 (by decide) ?_
    refine al_60 hC dL_law_498 h60 (by decide) ?_
    rw [g4, wI_of hn]
    refine v_iload hC dL_law_499 rfl ?_
    refine v_i2l (v := lN (wI r)) hC dL_law_501 (lN_wN _).symm ?_
    refine v_lcmp hC dL_law_502 ?_
    refine v_if_eqJ (tgt := 508) hC dL_law_503 (by decide) (wI_lt r) (wI_lt r) (fun _ => ?_) (fun q => absurd rfl q)
    refine v_goto (tgt := 2247) hC dL_law_508 (by decide) ?_
    exact v_wide (by omega) (by omega) (v_sub rfl (nx _ _ _ _ _ g2 rfl rfl rfl rfl))
theorem cdl_take (E : String) : cd_take E < 5 ∧ cd_take E ≠ 0 := by
  unfold cd_take
  first | (constructor <;> decide) | (repeat' split) <;> (constructor <;> decide)
theorem hxs_take {σ : SG} {a1 : Int32} {a2 : Int32} {a3 : Int32} {E : String} (h : k_take σ a1 a2 a3 = .inl E) : E = eNSE ∨ E = eIOB ∨ E = eISE := by
  have h2 : ON (k_take σ a1 a2 a3) [eNSE, eIOB, eISE] := by
    unfold k_take
    repeat (first | exact on_ret | exact on_err (by simp) | refine on_gR (by simp) (fun _ => ?_) | refine on_ite ?_ ?_)
  simpa using h2 E h
set_option maxHeartbeats 4000000 in
set_option maxRecDepth 100000 in
theorem case_take {X : XT} {G : GT} {mc ms K0 S0 p N : Nat} {sc : Nat → Int32} {ok : KF} {ad : AD} {σ : SG} {A : AS} {e i : Nat} (hl0 : (xl X).stackTraces = false) (hC : Cx X G "BranchyardLaw" cL_law 9 16 mc ms) (hN : NC (xs X)) (hP : Scr G (xs X) p N sc) (hNl : N ≤ 3072) (hI : INV G ok ad σ A e i) (hj : 6 * i + 6 ≤ N) (h1 : K0 + 200 * (i + 1) ≤ mc) (h2 : S0 + 3000 * (i + 1) + 4 * 4700 ≤ ms)
    (nx : ∀ ok' ad' σ' A' e', INV G ok' ad' σ' A' e' (i + 1) → ad' 0 0 0 = ad 0 0 0 → ad' 30 0 0 = ad 30 0 0 → ad' 60 0 0 = ad 60 0 0 → ad' 61 0 0 = ad 61 0 0 → V X G (K0 + 200 * (i + 1)) (S0 + 3000 * (i + 1) + 4 * e') ok' ad' σ' [(0, .ref p), (1, .ref (ad 0 0 0)), (2, .ref (ad 30 0 0)), (3, .ref (ad 60 0 0)), (4, .ref (ad 61 0 0)), (5, iv (6 * i))] 2247 []) : V X G (K0 + 200 * i) (S0 + 3000 * i + 4 * e) ok ad σ [(0, .ref p), (1, .ref (ad 0 0 0)), (2, .ref (ad 30 0 0)), (3, .ref (ad 60 0 0)), (4, .ref (ad 61 0 0)), (5, iv (6 * i))] 511 [] := by
  obtain ⟨hR, ⟨hCK, hVK⟩, ⟨hArr, hKM⟩, ⟨h60, h61, n57, n58, n62, hO, hQ⟩, c5, c1, c6, cK, cq, ct, ce⟩ := id hI
  have hB := hR.1
  refine v_aload_n hC dL_law_511 rfl ?_
  refine v_aload_n hC dL_law_512 rfl ?_
  refine v_iload hC dL_law_513 rfl ?_
  refine v_iconst (v := nI 1) hC dL_law_515 (by decide) ?_
  refine v_iaddN hC dL_law_516 ?_
  refine v_scr (x := 6 * i + 1) hC hP dL_law_517 (by omega) (by omega) ?_
  refine v_aload_n hC dL_law_518 rfl ?_
  refine v_iload hC dL_law_519 rfl ?_
  refine v_iconst (v := nI 2) hC dL_law_521 (by decide) ?_
  refine v_iaddN hC dL_law_522 ?_
  refine v_scr (x := 6 * i + 2) hC hP dL_law_523 (by omega) (by omega) ?_
  refine v_aload_n hC dL_law_524 rfl ?_
  refine v_iload hC dL_law_525 rfl ?_
  refine v_iconst (v := nI 3) hC dL_law_527 (by decide) ?_
  refine v_iaddN hC dL_law_528 ?_
  refine v_scr (x := 6 * i + 3) hC hP dL_law_529 (by omega) (by omega) ?_
  refine v_aload_n hC dL_law_530 rfl ?_
  refine v_callSN hC hN lkw_take dL_law_531 (w_take hl0 (c_X5_take hl0 hO hB (sc (6 * i + 1)) (sc (6 * i + 2)) (sc (6 * i + 3))) hO.k0 (fun v μ h => by obtain ⟨r, τ, -, rfl, rfl⟩ := h; exact ⟨⟨r, rfl⟩, h60, rfl⟩) (fun E μ h => hxs_take h.1)) (by omega) (by decide) rfl rfl (Nat.le_of_ble_eq_true rfl) (by omega) (by omega) (fun v μ h => ?_)
  have hAG := law_simple hI (fun E => (cdl_take E).1) (fun τ hτ => ag_take hτ (sc (6 * i + 1)) (sc (6 * i + 2)) (sc (6 * i + 3)))
  rcases h with ⟨E, ⟨hE, rfl⟩, rfl⟩ | ⟨n, μ0, ⟨r, s', hr, hn, rfl⟩, rfl, rfl⟩
  · dsimp only
    obtain ⟨g1, g2⟩ := hAG.1 E hE
    have cdE := cdl_take E
    refine v_istore hC dL_law_534 (by decide) ?_
    refine v_aload_n hC dL_law_536 rfl ?_
    refine v_aload_n hC dL_law_537 rfl ?_
    refine v_iload hC dL_law_538 rfl ?_
    refine v_iconst (v := nI 1) hC dL_law_540 (by decide) ?_
    refine v_iaddN hC dL_law_541 ?_
    refine v_scr (x := 6 * i + 1) hC hP dL_law_542 (by omega) (by omega) ?_
    refine v_aload_n hC dL_law_543 rfl ?_
    refine v_iload hC dL_law_544 rfl ?_
    refine v_iconst (v := nI 2) hC dL_law_546 (by decide) ?_
    refine v_iaddN hC dL_law_547 ?_
    refine v_scr (x := 6 * i + 2) hC hP dL_law_548 (by omega) (by omega) ?_
    refine v_aload_n hC dL_law_549 rfl ?_
    refine v_iload hC dL_law_550 rfl ?_
    refine v_iconst (v := nI 3) hC dL_law_552 (by decide) ?_
    refine v_iaddN hC dL_law_553 ?_
    refine v_scr (x := 6 * i + 3) hC hP dL_law_554 (by omega) (by omega) ?_
    refine v_callV hC lk_L_151 dL_law_555 (c_X6_take (σ := σ) hl0 hQ hB (sc (6 * i + 1)) (sc (6 * i + 2)) (sc (6 * i + 3))) (by omega) (by decide) hQ.k30 rfl rfl rfl rfl (Nat.le_of_ble_eq_true rfl) (by omega) (by omega) (fun v μ h => ?_) (fun _ _ h => h.elim)
    rcases h with ⟨k, hk, rfl, rfl⟩ | ⟨r2, τ2, hk, rfl, rfl⟩
    rotate_left
    · rw [g1] at hk
      cases hk
    rw [g1] at hk
    cases hk
    dsimp only
    refine v_istore hC dL_law_558 (by decide) ?_
    refine v_aload_n hC dL_law_560 rfl ?_
    refine v_callV_r0 hC lk_L_134 dL_law_561 (c_X6_thrown hl0 hQ g2.1.1) (by omega) (by decide) hQ.k30 rfl rfl rfl rfl (Nat.le_of_ble_eq_true rfl) (by omega) (by omega) ?_
    rw [show th (th σ 0) (cd_take E) 30 0 0 0 = cd_take E from up_same _ _ _ _ _ _]
    refine v_iload hC dL_law_564 rfl ?_
    refine v_icmp_eq (tgt := 571) hC dL_law_566 (by decide) (fun _ => ?_) (fun q => absurd rfl q)
    refine v_iload hC dL_law_571 rfl ?_
    refine v_if_neN (tgt := 588) hC dL_law_573 (by decide) (by omega) (fun _ => ?_) (fun q => absurd q cdE.2)
    refine v_goto (tgt := 2247) hC dL_law_588 (by decide) ?_
    exact v_wide (by omega) (by omega) (v_sub rfl (nx _ _ _ _ _ g2 rfl rfl rfl rfl))
  · dsimp only
    obtain ⟨hBw, hRw, τ9, A9, g1, g2, g3, g4⟩ := hAG.2 r s' hr (wI n) (wI_lt n)
    refine v_istore hC dL_law_534 (by decide) ?_
    refine v_aload_n hC dL_law_536 rfl ?_
    refine v_aload_n hC dL_law_537 rfl ?_
    refine v_iload hC dL_law_538 rfl ?_
    refine v_iconst (v := nI 1) hC dL_law_540 (by decide) ?_
    refine v_iaddN hC dL_law_541 ?_
    refine v_scr (x := 6 * i + 1) hC hP dL_law_542 (by omega) (by omega) ?_
    refine v_aload_n hC dL_law_543 rfl ?_
    refine v_iload hC dL_law_544 rfl ?_
    refine v_iconst (v := nI 2) hC dL_law_546 (by decide) ?_
    refine v_iaddN hC dL_law_547 ?_
    refine v_scr (x := 6 * i + 2) hC hP dL_law_548 (by omega) (by omega) ?_
    refine v_aload_n hC dL_law_549 rfl ?_
    refine v_iload hC dL_law_550 rfl ?_
    refine v_iconst (v := nI 3) hC dL_law_552 (by decide) ?_
    refine v_iaddN hC dL_law_553 ?_
    refine v_scr (x := 6 * i + 3) hC hP dL_law_554 (by omega) (by omega) ?_
    refine v_callV hC lk_L_151 dL_law_555 (c_X6_take (σ := (up s' 60 0 0 0 (wI n))) hl0 hQ hBw (sc (6 * i + 1)) (sc (6 * i + 2)) (sc (6 * i + 3))) (by omega) (by decide) hQ.k30 rfl rfl rfl rfl (Nat.le_of_ble_eq_true rfl) (by omega) (by omega) (fun v μ h => ?_) (fun _ _ h => h.elim)
    rcases h with ⟨k, hk, rfl, rfl⟩ | ⟨r2, τ2, hk, rfl, rfl⟩
    skip
    · rw [g1] at hk
      cases hk
    rw [g1] at hk
    cases hk
    dsimp only
    refine v_istore hC dL_law_558 (by decide) ?_
    refine v_aload_n hC dL_law_560 rfl ?_
    refine v_callV_r0 hC lk_L_134 dL_law_561 (c_X6_thrown hl0 hQ g2.1.1) (by omega) (by decide) hQ.k30 rfl rfl rfl rfl (Nat.le_of_ble_eq_true rfl) (by omega) (by omega) ?_
    rw [g3]
    refine v_iload hC dL_law_564 rfl ?_
    refine v_icmp_eq (tgt := 571) hC dL_law_566 (by decide) (fun _ => ?_) (fun q => absurd rfl q)
    refine v_iload hC dL_law_571 rfl ?_
    refine v_if_neN (tgt := 588) hC dL_law_573 (by decide) (by decide) (fun q => absurd rfl q) (fun _ => ?_)
    refine v_aload_n hC dL_law_576 rfl ?_
    refine v_iconst (v := nI 0) hC dL_law_577 (by decide) ?_
    refine al_60 hC dL_law_578 h60 (by decide) ?_
    rw [g4, wI_of hn]
    refine v_iload hC dL_law_579 rfl ?_
    refine v_i2l (v := lN (wI r)) hC dL_law_581 (lN_wN _).symm ?_
    refine v_lcmp hC dL_law_582 ?_
    refine v_if_eqJ (tgt := 588) hC dL_law_583 (by decide) (wI_lt r) (wI_lt r) (fun _ => ?_) (fun q => absurd rfl q)
    refine v_goto (tgt := 2247) hC dL_law_588 (by decide) ?_
    exact v_wide (by omega) (by omega) (v_sub rfl (nx _ _ _ _ _ g2 rfl rfl rfl rfl))
theorem cdl_close (E : String) : cd_close E < 5 ∧ cd_close E ≠ 0 := by
  unfold cd_close
  first | (constructor <;> decide) | (repeat' split) <;> (constructor <;> decide)
theorem hxs_close {σ : SG} {a1 : Int32} {E : String} (h : k_close σ a1 = .inl E) : E = eNSE ∨ E = eISE := by
  have h2 : ON (k_close σ a1) [eNSE, eISE] := by
    unfold k_close
    repeat (first | exact on_ret | exact on_err (by simp) | refine on_gR (by simp) (fun _ => ?_) | refine on_ite ?_ ?_)
  simpa using h2 E h
set_option maxHeartbeats 4000000 in
set_option maxRecDepth 100000 in
theorem case_close {X : XT} {G : GT} {mc ms K0 S0 p N : Nat} {sc : Nat → Int32} {ok : KF} {ad : AD} {σ : SG} {A : AS} {e i : Nat} (hl0 : (xl X).stackTraces = false) (hC : Cx X G "BranchyardLaw" cL_law 9 16 mc ms) (hN : NC (xs X)) (hP : Scr G (xs X) p N sc) (hNl : N ≤ 3072) (hI : INV G ok ad σ A e i) (hj : 6 * i + 6 ≤ N) (h1 : K0 + 200 * (i + 1) ≤ mc) (h2 : S0 + 3000 * (i + 1) + 4 * 4700 ≤ ms)
    (nx : ∀ ok' ad' σ' A' e', INV G ok' ad' σ' A' e' (i + 1) → ad' 0 0 0 = ad 0 0 0 → ad' 30 0 0 = ad 30 0 0 → ad' 60 0 0 = ad 60 0 0 → ad' 61 0 0 = ad 61 0 0 → V X G (K0 + 200 * (i + 1)) (S0 + 3000 * (i + 1) + 4 * e') ok' ad' σ' [(0, .ref p), (1, .ref (ad 0 0 0)), (2, .ref (ad 30 0 0)), (3, .ref (ad 60 0 0)), (4, .ref (ad 61 0 0)), (5, iv (6 * i))] 2247 []) : V X G (K0 + 200 * i) (S0 + 3000 * i + 4 * e) ok ad σ [(0, .ref p), (1, .ref (ad 0 0 0)), (2, .ref (ad 30 0 0)), (3, .ref (ad 60 0 0)), (4, .ref (ad 61 0 0)), (5, iv (6 * i))] 591 [] := by
  obtain ⟨hR, ⟨hCK, hVK⟩, ⟨hArr, hKM⟩, ⟨h60, h61, n57, n58, n62, hO, hQ⟩, c5, c1, c6, cK, cq, ct, ce⟩ := id hI
  have hB := hR.1
  refine v_aload_n hC dL_law_591 rfl ?_
  refine v_aload_n hC dL_law_592 rfl ?_
  refine v_iload hC dL_law_593 rfl ?_
  refine v_iconst (v := nI 1) hC dL_law_595 (by decide) ?_
  refine v_iaddN hC dL_law_596 ?_
  refine v_scr (x := 6 * i + 1) hC hP dL_law_597 (by omega) (by omega) ?_
  refine v_aload_n hC dL_law_598 rfl ?_
  refine v_callSN hC hN lkw_close dL_law_599 (w_close hl0 (c_X5_close hl0 hO hB (sc (6 * i + 1))) hO.k0 (fun v μ h => by obtain ⟨r, τ, -, rfl, rfl⟩ := h; exact ⟨⟨r, rfl⟩, h60, rfl⟩) (fun E μ h => hxs_close h.1)) (by omega) (by decide) rfl rfl (Nat.le_of_ble_eq_true rfl) (by omega) (by omega) (fun v μ h => ?_)
  have hAG := law_simple hI (fun E => (cdl_close E).1) (fun τ hτ => ag_close hτ (sc (6 * i + 1)))
  rcases h with ⟨E, ⟨hE, rfl⟩, rfl⟩ | ⟨n, μ0, ⟨r, s', hr, hn, rfl⟩, rfl, rfl⟩
  · dsimp only
    obtain ⟨g1, g2⟩ := hAG.1 E hE
    have cdE := cdl_close E
    refine v_istore hC dL_law_602 (by decide) ?_
    refine v_aload_n hC dL_law_604 rfl ?_
    refine v_aload_n hC dL_law_605 rfl ?_
    refine v_iload hC dL_law_606 rfl ?_
    refine v_iconst (v := nI 1) hC dL_law_608 (by decide) ?_
    refine v_iaddN hC dL_law_609 ?_
    refine v_scr (x := 6 * i + 1) hC hP dL_law_610 (by omega) (by omega) ?_
    refine v_callV hC lk_L_154 dL_law_611 (c_X6_close (σ := σ) hl0 hQ hB (sc (6 * i + 1))) (by omega) (by decide) hQ.k30 rfl rfl rfl rfl (Nat.le_of_ble_eq_true rfl) (by omega) (by omega) (fun v μ h => ?_) (fun _ _ h => h.elim)
    rcases h with ⟨k, hk, rfl, rfl⟩ | ⟨r2, τ2, hk, rfl, rfl⟩
    rotate_left
    · rw [g1] at hk
      cases hk
    rw [g1] at hk
    cases hk
    dsimp only
    refine v_istore hC dL_law_614 (by decide) ?_
    refine v_aload_n hC dL_law_616 rfl ?_
    refine v_callV_r0 hC lk_L_134 dL_law_617 (c_X6_thrown hl0 hQ g2.1.1) (by omega) (by decide) hQ.k30 rfl rfl rfl rfl (Nat.le_of_ble_eq_true rfl) (by omega) (by omega) ?_
    rw [show th (th σ 0) (cd_close E) 30 0 0 0 = cd_close E from up_same _ _ _ _ _ _]
    refine v_iload hC dL_law_620 rfl ?_
    refine v_icmp_eq (tgt := 627) hC dL_law_622 (by decide) (fun _ => ?_) (fun q => absurd rfl q)
    refine v_iload hC dL_law_627 rfl ?_
    refine v_if_neN (tgt := 644) hC dL_law_629 (by decide) (by omega) (fun _ => ?_) (fun q => absurd q cdE.2)
    refine v_goto (tgt := 2247) hC dL_law_644 (by decide) ?_
    exact v_wide (by omega) (by omega) (v_sub rfl (nx _ _ _ _ _ g2 rfl rfl rfl rfl))
  · dsimp only
    obtain ⟨hBw, hRw, τ9, A9, g1, g2, g3, g4⟩ := hAG.2 r s' hr (wI n) (wI_lt n)
    refine v_istore hC dL_law_602 (by decide) ?_
    refine v_aload_n hC dL_law_604 rfl ?_
    refine v_aload_n hC dL_law_605 rfl ?_
    refine v_iload hC dL_law_606 rfl ?_
    refine v_iconst (v := nI 1) hC dL_law_608 (by decide) ?_
    refine v_iaddN hC dL_law_609 ?_
    refine v_scr (x := 6 * i + 1) hC hP dL_law_610 (by omega) (by omega) ?_
    refine v_callV hC lk_L_154 dL_law_611 (c_X6_close (σ := (up s' 60 0 0 0 (wI n))) hl0 hQ hBw (sc (6 * i + 1))) (by omega) (by decide) hQ.k30 rfl rfl rfl rfl (Nat.le_of_ble_eq_true rfl) (by omega) (by omega) (fun v μ h => ?_) (fun _ _ h => h.elim)
    rcases h with ⟨k, hk, rfl, rfl⟩ | ⟨r2, τ2, hk, rfl, rfl⟩
    skip
    · rw [g1] at hk
      cases hk
    rw [g1] at hk
    cases hk
    dsimp only
    refine v_istore hC dL_law_614 (by decide) ?_
    refine v_aload_n hC dL_law_616 rfl ?_
    refine v_callV_r0 hC lk_L_134 dL_law_617 (c_X6_thrown hl0 hQ g2.1.1) (by omega) (by decide) hQ.k30 rfl rfl rfl rfl (Nat.le_of_ble_eq_true rfl) (by omega) (by omega) ?_
    rw [g3]
    refine v_iload hC dL_law_620 rfl ?_
    refine v_icmp_eq (tgt := 627) hC dL_law_622 (by decide) (fun _ => ?_) (fun q => absurd rfl q)
    refine v_iload hC dL_law_627 rfl ?_
    refine v_if_neN (tgt := 644) hC dL_law_629 (by decide) (by decide) (fun q => absurd rfl q) (fun _ => ?_)
    refine v_aload_n hC dL_law_632 rfl ?_
    refine v_iconst (v := nI 0) hC dL_law_633 (by decide) ?_
    refine al_60 hC dL_law_634 h60 (by decide) ?_
    rw [g4, wI_of hn]
    refine v_iload hC dL_law_635 rfl ?_
    refine v_i2l (v := lN (wI r)) hC dL_law_637 (lN_wN _).symm ?_
    refine v_lcmp hC dL_law_638 ?_
    refine v_if_eqJ (tgt := 644) hC dL_law_639 (by decide) (wI_lt r) (wI_lt r) (fun _ => ?_) (fun q => absurd rfl q)
    refine v_goto (tgt := 2247) hC dL_law_644 (by decide) ?_
    exact v_wide (by omega) (by omega) (v_sub rfl (nx _ _ _ _ _ g2 rfl rfl rfl rfl))
theorem cdl_verdict (E : String) : cd_verdict E < 5 ∧ cd_verdict E ≠ 0 := by
  unfold cd_verdict
  first | (constructor <;> decide) | (repeat' split) <;> (constructor <;> decide)
theorem hxs_verdict {σ : SG} {a1 : Int32} {a2 : Int32} {E : String} (h : k_verdict σ a1 a2 = .inl E) : E = eNSE ∨ E = eIOB := by
  have h2 : ON (k_verdict σ a1 a2) [eNSE, eIOB] := by
    unfold k_verdict
    repeat (first | exact on_ret | exact on_err (by simp) | refine on_gR (by simp) (fun _ => ?_) | refine on_ite ?_ ?_)
  simpa using h2 E h
set_option maxHeartbeats 4000000 in
set_option maxRecDepth 100000 in
theorem case_verdict {X : XT} {G : GT} {mc ms K0 S0 p N : Nat} {sc : Nat → Int32} {ok : KF} {ad : AD} {σ : SG} {A : AS} {e i : Nat} (hl0 : (xl X).stackTraces = false) (hC : Cx X G "BranchyardLaw" cL_law 9 16 mc ms) (hN : NC (xs X)) (hP : Scr G (xs X) p N sc) (hNl : N ≤ 3072) (hI : INV G ok ad σ A e i) (hj : 6 * i + 6 ≤ N) (h1 : K0 + 200 * (i + 1) ≤ mc) (h2 : S0 + 3000 * (i + 1) + 4 * 4700 ≤ ms)
    (nx : ∀ ok' ad' σ' A' e', INV G ok' ad' σ' A' e' (i + 1) → ad' 0 0 0 = ad 0 0 0 → ad' 30 0 0 = ad 30 0 0 → ad' 60 0 0 = ad 60 0 0 → ad' 61 0 0 = ad 61 0 0 → V X G (K0 + 200 * (i + 1)) (S0 + 3000 * (i + 1) + 4 * e') ok' ad' σ' [(0, .ref p), (1, .ref (ad 0 0 0)), (2, .ref (ad 30 0 0)), (3, .ref (ad 60 0 0)), (4, .ref (ad 61 0 0)), (5, iv (6 * i))] 2247 []) : V X G (K0 + 200 * i) (S0 + 3000 * i + 4 * e) ok ad σ [(0, .ref p), (1, .ref (ad 0 0 0)), (2, .ref (ad 30 0 0)), (3, .ref (ad 60 0 0)), (4, .ref (ad 61 0 0)), (5, iv (6 * i))] 743 [] := by
  obtain ⟨hR, ⟨hCK, hVK⟩, ⟨hArr, hKM⟩, ⟨h60, h61, n57, n58, n62, hO, hQ⟩, c5, c1, c6, cK, cq, ct, ce⟩ := id hI
  have hB := hR.1
  refine v_aload_n hC dL_law_743 rfl ?_
  refine v_aload_n hC dL_law_744 rfl ?_
  refine v_iload hC dL_law_745 rfl ?_
  refine v_iconst (v := nI 1) hC dL_law_747 (by decide) ?_
  refine v_iaddN hC dL_law_748 ?_
  refine v_scr (x := 6 * i + 1) hC hP dL_law_749 (by omega) (by omega) ?_
  refine v_aload_n hC dL_law_750 rfl ?_
  refine v_iload hC dL_law_751 rfl ?_
  refine v_iconst (v := nI 2) hC dL_law_753 (by decide) ?_
  refine v_iaddN hC dL_law_754 ?_
  refine v_scr (x := 6 * i + 2) hC hP dL_law_755 (by omega) (by omega) ?_
  refine v_aload_n hC dL_law_756 rfl ?_
  refine v_callSN hC hN lkw_verdict dL_law_757 (w_verdict hl0 (c_X5_verdict hl0 hO hB (sc (6 * i + 1)) (sc (6 * i + 2))) hO.k0 (fun v μ h => by obtain ⟨r, τ, -, rfl, rfl⟩ := h; exact ⟨⟨r, rfl⟩, h60, rfl⟩) (fun E μ h => hxs_verdict h.1)) (by omega) (by decide) rfl rfl (Nat.le_of_ble_eq_true rfl) (by omega) (by omega) (fun v μ h => ?_)
  have hAG := law_simple hI (fun E => (cdl_verdict E).1) (fun τ hτ => ag_verdict hτ (sc (6 * i + 1)) (sc (6 * i + 2)))
  rcases h with ⟨E, ⟨hE, rfl⟩, rfl⟩ | ⟨n, μ0, ⟨r, s', hr, hn, rfl⟩, rfl, rfl⟩
  · dsimp only
    obtain ⟨g1, g2⟩ := hAG.1 E hE
    have cdE := cdl_verdict E
    refine v_istore hC dL_law_760 (by decide) ?_
    refine v_aload_n hC dL_law_762 rfl ?_
    refine v_aload_n hC dL_law_763 rfl ?_
    refine v_iload hC dL_law_764 rfl ?_
    refine v_iconst (v := nI 1) hC dL_law_766 (by decide) ?_
    refine v_iaddN hC dL_law_767 ?_
    refine v_scr (x := 6 * i + 1) hC hP dL_law_768 (by omega) (by omega) ?_
    refine v_aload_n hC dL_law_769 rfl ?_
    refine v_iload hC dL_law_770 rfl ?_
    refine v_iconst (v := nI 2) hC dL_law_772 (by decide) ?_
    refine v_iaddN hC dL_law_773 ?_
    refine v_scr (x := 6 * i + 2) hC hP dL_law_774 (by omega) (by omega) ?_
    refine v_callV hC lk_L_162 dL_law_775 (c_X6_verdict (σ := σ) hl0 hQ hB (sc (6 * i + 1)) (sc (6 * i + 2))) (by omega) (by decide) hQ.k30 rfl rfl rfl rfl (Nat.le_of_ble_eq_true rfl) (by omega) (by omega) (fun v μ h => ?_) (fun _ _ h => h.elim)
    rcases h with ⟨k, hk, rfl, rfl⟩ | ⟨r2, τ2, hk, rfl, rfl⟩
    rotate_left
    · rw [g1] at hk
      cases hk
    rw [g1] at hk
    cases hk
    dsimp only
    refine v_istore hC dL_law_778 (by decide) ?_
    refine v_aload_n hC dL_law_780 rfl ?_
    refine v_callV_r0 hC lk_L_134 dL_law_781 (c_X6_thrown hl0 hQ g2.1.1) (by omega) (by decide) hQ.k30 rfl rfl rfl rfl (Nat.le_of_ble_eq_true rfl) (by omega) (by omega) ?_
    rw [show th (th σ 0) (cd_verdict E) 30 0 0 0 = cd_verdict E from up_same _ _ _ _ _ _]
    refine v_iload hC dL_law_784 rfl ?_
    refine v_icmp_eq (tgt := 791) hC dL_law_786 (by decide) (fun _ => ?_) (fun q => absurd rfl q)
    refine v_iload hC dL_law_791 rfl ?_
    refine v_if_neN (tgt := 808) hC dL_law_793 (by decide) (by omega) (fun _ => ?_) (fun q => absurd q cdE.2)
    refine v_goto (tgt := 2247) hC dL_law_808 (by decide) ?_
    exact v_wide (by omega) (by omega) (v_sub rfl (nx _ _ _ _ _ g2 rfl rfl rfl rfl))
  · dsimp only
    obtain ⟨hBw, hRw, τ9, A9, g1, g2, g3, g4⟩ := hAG.2 r s' hr (wI n) (wI_lt n)
    refine v_istore hC dL_law_760 (by decide) ?_
    refine v_aload_n hC dL_law_762 rfl ?_
    refine v_aload_n hC dL_law_763 rfl ?_
    refine v_iload hC dL_law_764 rfl ?_
    refine v_iconst (v := nI 1) hC dL_law_766 (by decide) ?_
    refine v_iaddN hC dL_law_767 ?_
    refine v_scr (x := 6 * i + 1) hC hP dL_law_768 (by omega) (by omega) ?_
    refine v_aload_n hC dL_law_769 rfl ?_
    refine v_iload hC dL_law_770 rfl ?_
    refine v_iconst (v := nI 2) hC dL_law_772 (by decide) ?_
    refine v_iaddN hC dL_law_773 ?_
    refine v_scr (x := 6 * i + 2) hC hP dL_law_774 (by omega) (by omega) ?_
    refine v_callV hC lk_L_162 dL_law_775 (c_X6_verdict (σ := (up s' 60 0 0 0 (wI n))) hl0 hQ hBw (sc (6 * i + 1)) (sc (6 * i + 2))) (by omega) (by decide) hQ.k30 rfl rfl rfl rfl (Nat.le_of_ble_eq_true rfl) (by omega) (by omega) (fun v μ h => ?_) (fun _ _ h => h.elim)
    rcases h with ⟨k, hk, rfl, rfl⟩ | ⟨r2, τ2, hk, rfl, rfl⟩
    skip
    · rw [g1] at hk
      cases hk
    rw [g1] at hk
    cases hk
    dsimp only
    refine v_istore hC dL_law_778 (by decide) ?_
    refine v_aload_n hC dL_law_780 rfl ?_
    refine v_callV_r0 hC lk_L_134 dL_law_781 (c_X6_thrown hl0 hQ g2.1.1) (by omega) (by decide) hQ.k30 rfl rfl rfl rfl (Nat.le_of_ble_eq_true rfl) (by omega) (by omega) ?_
    rw [g3]
    refine v_iload hC dL_law_784 rfl ?_
    refine v_icmp_eq (tgt := 791) hC dL_law_786 (by decide) (fun _ => ?_) (fun q => absurd rfl q)
    refine v_iload hC dL_law_791 rfl ?_
    refine v_if_neN (tgt := 808) hC dL_law_793 (by decide) (by decide) (fun q => absurd rfl q) (fun _ => ?_)
    refine v_aload_n hC dL_law_796 rfl ?_
    refine v_iconst (v := nI 0) hC dL_law_797 (by decide) ?_
    refine al_60 hC dL_law_798 h60 (by decide) ?_
    rw [g4, wI_of hn]
    refine v_iload hC dL_law_799 rfl ?_
    refine v_i2l (v := lN (wI r)) hC dL_law_801 (lN_wN _).symm ?_
    refine v_lcmp hC dL_law_802 ?_
    refine v_if_eqJ (tgt := 808) hC dL_law_803 (by decide) (wI_lt r) (wI_lt r) (fun _ => ?_) (fun q => absurd rfl q)
    refine v_goto (tgt := 2247) hC dL_law_808 (by decide) ?_
    exact v_wide (by omega) (by omega) (v_sub rfl (nx _ _ _ _ _ g2 rfl rfl rfl rfl))
theorem cdl_asked (E : String) : cd_asked E < 5 ∧ cd_asked E ≠ 0 := by
  unfold cd_asked
  first | (constructor <;> decide) | (repeat' split) <;> (constructor <;> decide)
theorem hxs_asked {σ : SG} {a1 : Int32} {a2 : Int32} {E : String} (h : k_asked σ a1 a2 = .inl E) : E = eNSE ∨ E = eIOB := by
  have h2 : ON (k_asked σ a1 a2) [eNSE, eIOB] := by
    unfold k_asked
    repeat (first | exact on_ret | exact on_err (by simp) | refine on_gR (by simp) (fun _ => ?_) | refine on_ite ?_ ?_)
  simpa using h2 E h
set_option maxHeartbeats 4000000 in
set_option maxRecDepth 100000 in
theorem case_asked {X : XT} {G : GT} {mc ms K0 S0 p N : Nat} {sc : Nat → Int32} {ok : KF} {ad : AD} {σ : SG} {A : AS} {e i : Nat} (hl0 : (xl X).stackTraces = false) (hC : Cx X G "BranchyardLaw" cL_law 9 16 mc ms) (hN : NC (xs X)) (hP : Scr G (xs X) p N sc) (hNl : N ≤ 3072) (hI : INV G ok ad σ A e i) (hj : 6 * i + 6 ≤ N) (h1 : K0 + 200 * (i + 1) ≤ mc) (h2 : S0 + 3000 * (i + 1) + 4 * 4700 ≤ ms)
    (nx : ∀ ok' ad' σ' A' e', INV G ok' ad' σ' A' e' (i + 1) → ad' 0 0 0 = ad 0 0 0 → ad' 30 0 0 = ad 30 0 0 → ad' 60 0 0 = ad 60 0 0 → ad' 61 0 0 = ad 61 0 0 → V X G (K0 + 200 * (i + 1)) (S0 + 3000 * (i + 1) + 4 * e') ok' ad' σ' [(0, .ref p), (1, .ref (ad 0 0 0)), (2, .ref (ad 30 0 0)), (3, .ref (ad 60 0 0)), (4, .ref (ad 61 0 0)), (5, iv (6 * i))] 2247 []) : V X G (K0 + 200 * i) (S0 + 3000 * i + 4 * e) ok ad σ [(0, .ref p), (1, .ref (ad 0 0 0)), (2, .ref (ad 30 0 0)), (3, .ref (ad 60 0 0)), (4, .ref (ad 61 0 0)), (5, iv (6 * i))] 811 [] := by
  obtain ⟨hR, ⟨hCK, hVK⟩, ⟨hArr, hKM⟩, ⟨h60, h61, n57, n58, n62, hO, hQ⟩, c5, c1, c6, cK, cq, ct, ce⟩ := id hI
  have hB := hR.1
  refine v_aload_n hC dL_law_811 rfl ?_
  refine v_aload_n hC dL_law_812 rfl ?_
  refine v_iload hC dL_law_813 rfl ?_
  refine v_iconst (v := nI 1) hC dL_law_815 (by decide) ?_
  refine v_iaddN hC dL_law_816 ?_
  refine v_scr (x := 6 * i + 1) hC hP dL_law_817 (by omega) (by omega) ?_
  refine v_aload_n hC dL_law_818 rfl ?_
  refine v_iload hC dL_law_819 rfl ?_
  refine v_iconst (v := nI 2) hC dL_law_821 (by decide) ?_
  refine v_iaddN hC dL_law_822 ?_
  refine v_scr (x := 6 * i + 2) hC hP dL_law_823 (by omega) (by omega) ?_
  refine v_aload_n hC dL_law_824 rfl ?_
  refine v_callSN hC hN lkw_asked dL_law_825 (w_asked hl0 (c_X5_asked hl0 hO hB (sc (6 * i + 1)) (sc (6 * i + 2))) hO.k0 (fun v μ h => by obtain ⟨r, τ, -, rfl, rfl⟩ := h; exact ⟨⟨r, rfl⟩, h60, rfl⟩) (fun E μ h => hxs_asked h.1)) (by omega) (by decide) rfl rfl (Nat.le_of_ble_eq_true rfl) (by omega) (by omega) (fun v μ h => ?_)
  have hAG := law_simple hI (fun E => (cdl_asked E).1) (fun τ hτ => ag_asked hτ (sc (6 * i + 1)) (sc (6 * i + 2)))
  rcases h with ⟨E, ⟨hE, rfl⟩, rfl⟩ | ⟨n, μ0, ⟨r, s', hr, hn, rfl⟩, rfl, rfl⟩
  · dsimp only
    obtain ⟨g1, g2⟩ := hAG.1 E hE
    have cdE := cdl_asked E
    refine v_istore hC dL_law_828 (by decide) ?_
    refine v_aload_n hC dL_law_830 rfl ?_
    refine v_aload_n hC dL_law_831 rfl ?_
    refine v_iload hC dL_law_832 rfl ?_
    refine v_iconst (v := nI 1) hC dL_law_834 (by decide) ?_
    refine v_iaddN hC dL_law_835 ?_
    refine v_scr (x := 6 * i + 1) hC hP dL_law_836 (by omega) (by omega) ?_
    refine v_aload_n hC dL_law_837 rfl ?_
    refine v_iload hC dL_law_838 rfl ?_
    refine v_iconst (v := nI 2) hC dL_law_840 (by decide) ?_
    refine v_iaddN hC dL_law_841 ?_
    refine v_scr (x := 6 * i + 2) hC hP dL_law_842 (by omega) (by omega) ?_
    refine v_callV hC lk_L_165 dL_law_843 (c_X6_asked (σ := σ) hl0 hQ hB (sc (6 * i + 1)) (sc (6 * i + 2))) (by omega) (by decide) hQ.k30 rfl rfl rfl rfl (Nat.le_of_ble_eq_true rfl) (by omega) (by omega) (fun v μ h => ?_) (fun _ _ h => h.elim)
    rcases h with ⟨k, hk, rfl, rfl⟩ | ⟨r2, τ2, hk, rfl, rfl⟩
    rotate_left
    · rw [g1] at hk
      cases hk
    rw [g1] at hk
    cases hk
    dsimp only
    refine v_istore hC dL_law_846 (by decide) ?_
    refine v_aload_n hC dL_law_848 rfl ?_
    refine v_callV_r0 hC lk_L_134 dL_law_849 (c_X6_thrown hl0 hQ g2.1.1) (by omega) (by decide) hQ.k30 rfl rfl rfl rfl (Nat.le_of_ble_eq_true rfl) (by omega) (by omega) ?_
    rw [show th (th σ 0) (cd_asked E) 30 0 0 0 = cd_asked E from up_same _ _ _ _ _ _]
    refine v_iload hC dL_law_852 rfl ?_
    refine v_icmp_eq (tgt := 859) hC dL_law_854 (by decide) (fun _ => ?_) (fun q => absurd rfl q)
    refine v_iload hC dL_law_859 rfl ?_
    refine v_if_neN (tgt := 876) hC dL_law_861 (by decide) (by omega) (fun _ => ?_) (fun q => absurd q cdE.2)
    refine v_goto (tgt := 2247) hC dL_law_876 (by decide) ?_
    exact v_wide (by omega) (by omega) (v_sub rfl (nx _ _ _ _ _ g2 rfl rfl rfl rfl))
  · dsimp only
    obtain ⟨hBw, hRw, τ9, A9, g1, g2, g3, g4⟩ := hAG.2 r s' hr (wI n) (wI_lt n)
    refine v_istore hC dL_law_828 (by decide) ?_
    refine v_aload_n hC dL_law_830 rfl ?_
    refine v_aload_n hC dL_law_831 rfl ?_
    refine v_iload hC dL_law_832 rfl ?_
    refine v_iconst (v := nI 1) hC dL_law_834 (by decide) ?_
    refine v_iaddN hC dL_law_835 ?_
    refine v_scr (x := 6 * i + 1) hC hP dL_law_836 (by omega) (by omega) ?_
    refine v_aload_n hC dL_law_837 rfl ?_
    refine v_iload hC dL_law_838 rfl ?_
    refine v_iconst (v := nI 2) hC dL_law_840 (by decide) ?_
    refine v_iaddN hC dL_law_841 ?_
    refine v_scr (x := 6 * i + 2) hC hP dL_law_842 (by omega) (by omega) ?_
    refine v_callV hC lk_L_165 dL_law_843 (c_X6_asked (σ := (up s' 60 0 0 0 (wI n))) hl0 hQ hBw (sc (6 * i + 1)) (sc (6 * i + 2))) (by omega) (by decide) hQ.k30 rfl rfl rfl rfl (Nat.le_of_ble_eq_true rfl) (by omega) (by omega) (fun v μ h => ?_) (fun _ _ h => h.elim)
    rcases h with ⟨k, hk, rfl, rfl⟩ | ⟨r2, τ2, hk, rfl, rfl⟩
    skip
    · rw [g1] at hk
      cases hk
    rw [g1] at hk
    cases hk
    dsimp only
    refine v_istore hC dL_law_846 (by decide) ?_
    refine v_aload_n hC dL_law_848 rfl ?_
    refine v_callV_r0 hC lk_L_134 dL_law_849 (c_X6_thrown hl0 hQ g2.1.1) (by omega) (by decide) hQ.k30 rfl rfl rfl rfl (Nat.le_of_ble_eq_true rfl) (by omega) (by omega) ?_
    rw [g3]
    refine v_iload hC dL_law_852 rfl ?_
    refine v_icmp_eq (tgt := 859) hC dL_law_854 (by decide) (fun _ => ?_) (fun q => absurd rfl q)
    refine v_iload hC dL_law_859 rfl ?_
    refine v_if_neN (tgt := 876) hC dL_law_861 (by decide) (by decide) (fun q => absurd rfl q) (fun _ => ?_)
    refine v_aload_n hC dL_law_864 rfl ?_
    refine v_iconst (v := nI 0) hC dL_law_865 (by decide) ?_
    refine al_60 hC dL_law_866 h60 (by decide) ?_
    rw [g4, wI_of hn]
    refine v_iload hC dL_law_867 rfl ?_
    refine v_i2l (v := lN (wI r)) hC dL_law_869 (lN_wN _).symm ?_
    refine v_lcmp hC dL_law_870 ?_
    refine v_if_eqJ (tgt := 876) hC dL_law_871 (by decide) (wI_lt r) (wI_lt r) (fun _ => ?_) (fun q => absurd rfl q)
    refine v_goto (tgt := 2247) hC dL_law_876 (by decide) ?_
    exact v_wide (by omega) (by omega) (v_sub rfl (nx _ _ _ _ _ g2 rfl rfl rfl rfl))
theorem cdl_missing (E : String) : cd_missing E < 5 ∧ cd_missing E ≠ 0 := by
  unfold cd_missing
  first | (constructor <;> decide) | (repeat' split) <;> (constructor <;> decide)
theorem hxs_missing {σ : SG} {a1 : Int32} {E : String} (h : k_missing σ a1 = .inl E) : E = eNSE := by
  have h2 : ON (k_missing σ a1) [eNSE] := by
    unfold k_missing
    repeat (first | exact on_ret | exact on_err (by simp) | refine on_gR (by simp) (fun _ => ?_) | refine on_ite ?_ ?_)
  simpa using h2 E h
set_option maxHeartbeats 4000000 in
set_option maxRecDepth 100000 in
theorem case_missing {X : XT} {G : GT} {mc ms K0 S0 p N : Nat} {sc : Nat → Int32} {ok : KF} {ad : AD} {σ : SG} {A : AS} {e i : Nat} (hl0 : (xl X).stackTraces = false) (hC : Cx X G "BranchyardLaw" cL_law 9 16 mc ms) (hN : NC (xs X)) (hP : Scr G (xs X) p N sc) (hNl : N ≤ 3072) (hI : INV G ok ad σ A e i) (hj : 6 * i + 6 ≤ N) (h1 : K0 + 200 * (i + 1) ≤ mc) (h2 : S0 + 3000 * (i + 1) + 4 * 4700 ≤ ms)
    (nx : ∀ ok' ad' σ' A' e', INV G ok' ad' σ' A' e' (i + 1) → ad' 0 0 0 = ad 0 0 0 → ad' 30 0 0 = ad 30 0 0 → ad' 60 0 0 = ad 60 0 0 → ad' 61 0 0 = ad 61 0 0 → V X G (K0 + 200 * (i + 1)) (S0 + 3000 * (i + 1) + 4 * e') ok' ad' σ' [(0, .ref p), (1, .ref (ad 0 0 0)), (2, .ref (ad 30 0 0)), (3, .ref (ad 60 0 0)), (4, .ref (ad 61 0 0)), (5, iv (6 * i))] 2247 []) : V X G (K0 + 200 * i) (S0 + 3000 * i + 4 * e) ok ad σ [(0, .ref p), (1, .ref (ad 0 0 0)), (2, .ref (ad 30 0 0)), (3, .ref (ad 60 0 0)), (4, .ref (ad 61 0 0)), (5, iv (6 * i))] 879 [] := by
  obtain ⟨hR, ⟨hCK, hVK⟩, ⟨hArr, hKM⟩, ⟨h60, h61, n57, n58, n62, hO, hQ⟩, c5, c1, c6, cK, cq, ct, ce⟩ := id hI
  have hB := hR.1
  refine v_aload_n hC dL_law_879 rfl ?_
  refine v_aload_n hC dL_law_880 rfl ?_
  refine v_iload hC dL_law_881 rfl ?_
  refine v_iconst (v := nI 1) hC dL_law_883 (by decide) ?_
  refine v_iaddN hC dL_law_884 ?_
  refine v_scr (x := 6 * i + 1) hC hP dL_law_885 (by omega) (by omega) ?_
  refine v_aload_n hC dL_law_886 rfl ?_
  refine v_callSN hC hN lkw_missing dL_law_887 (w_missing hl0 (c_X5_missing hl0 hO hB (sc (6 * i + 1))) hO.k0 (fun v μ h => by obtain ⟨r, τ, -, rfl, rfl⟩ := h; exact ⟨⟨r, rfl⟩, h60, rfl⟩) (fun E μ h => hxs_missing h.1)) (by omega) (by decide) rfl rfl (Nat.le_of_ble_eq_true rfl) (by omega) (by omega) (fun v μ h => ?_)
  have hAG := law_simple hI (fun E => (cdl_missing E).1) (fun τ hτ => ag_missing hτ (sc (6 * i + 1)))
  rcases h with ⟨E, ⟨hE, rfl⟩, rfl⟩ | ⟨n, μ0, ⟨r, s', hr, hn, rfl⟩, rfl, rfl⟩
  · dsimp only
    obtain ⟨g1, g2⟩ := hAG.1 E hE
    have cdE := cdl_missing E
    refine v_istore hC dL_law_890 (by decide) ?_
    refine v_aload_n hC dL_law_892 rfl ?_
    refine v_aload_n hC dL_law_893 rfl ?_
    refine v_iload hC dL_law_894 rfl ?_
    refine v_iconst (v := nI 1) hC dL_law_896 (by decide) ?_
    refine v_iaddN hC dL_law_897 ?_
    refine v_scr (x := 6 * i + 1) hC hP dL_law_898 (by omega) (by omega) ?_
    refine v_callV hC lk_L_168 dL_law_899 (c_X6_missing (σ := σ) hl0 hQ hB (sc (6 * i + 1))) (by omega) (by decide) hQ.k30 rfl rfl rfl rfl (Nat.le_of_ble_eq_true rfl) (by omega) (by omega) (fun v μ h => ?_) (fun _ _ h => h.elim)
    rcases h with ⟨k, hk, rfl, rfl⟩ | ⟨r2, τ2, hk, rfl, rfl⟩
    rotate_left
    · rw [g1] at hk
      cases hk
    rw [g1] at hk
    cases hk
    dsimp only
    refine v_istore hC dL_law_902 (by decide) ?_
    refine v_aload_n hC dL_law_904 rfl ?_
    refine v_callV_r0 hC lk_L_134 dL_law_905 (c_X6_thrown hl0 hQ g2.1.1) (by omega) (by decide) hQ.k30 rfl rfl rfl rfl (Nat.le_of_ble_eq_true rfl) (by omega) (by omega) ?_
    rw [show th (th σ 0) (cd_missing E) 30 0 0 0 = cd_missing E from up_same _ _ _ _ _ _]
    refine v_iload hC dL_law_908 rfl ?_
    refine v_icmp_eq (tgt := 915) hC dL_law_910 (by decide) (fun _ => ?_) (fun q => absurd rfl q)
    refine v_iload hC dL_law_915 rfl ?_
    refine v_if_neN (tgt := 932) hC dL_law_917 (by decide) (by omega) (fun _ => ?_) (fun q => absurd q cdE.2)
    refine v_goto (tgt := 2247) hC dL_law_932 (by decide) ?_
    exact v_wide (by omega) (by omega) (v_sub rfl (nx _ _ _ _ _ g2 rfl rfl rfl rfl))
  · dsimp only
    obtain ⟨hBw, hRw, τ9, A9, g1, g2, g3, g4⟩ := hAG.2 r s' hr (wI n) (wI_lt n)
    refine v_istore hC dL_law_890 (by decide) ?_
    refine v_aload_n hC dL_law_892 rfl ?_
    refine v_aload_n hC dL_law_893 rfl ?_
    refine v_iload hC dL_law_894 rfl ?_
    refine v_iconst (v := nI 1) hC dL_law_896 (by decide) ?_
    refine v_iaddN hC dL_law_897 ?_
    refine v_scr (x := 6 * i + 1) hC hP dL_law_898 (by omega) (by omega) ?_
    refine v_callV hC lk_L_168 dL_law_899 (c_X6_missing (σ := (up s' 60 0 0 0 (wI n))) hl0 hQ hBw (sc (6 * i + 1))) (by omega) (by decide) hQ.k30 rfl rfl rfl rfl (Nat.le_of_ble_eq_true rfl) (by omega) (by omega) (fun v μ h => ?_) (fun _ _ h => h.elim)
    rcases h with ⟨k, hk, rfl, rfl⟩ | ⟨r2, τ2, hk, rfl, rfl⟩
    skip
    · rw [g1] at hk
      cases hk
    rw [g1] at hk
    cases hk
    dsimp only
    refine v_istore hC dL_law_902 (by decide) ?_
    refine v_aload_n hC dL_law_904 rfl ?_
    refine v_callV_r0 hC lk_L_134 dL_law_905 (c_X6_thrown hl0 hQ g2.1.1) (by omega) (by decide) hQ.k30 rfl rfl rfl rfl (Nat.le_of_ble_eq_true rfl) (by omega) (by omega) ?_
    rw [g3]
    refine v_iload hC dL_law_908 rfl ?_
    refine v_icmp_eq (tgt := 915) hC dL_law_910 (by decide) (fun _ => ?_) (fun q => absurd rfl q)
    refine v_iload hC dL_law_915 rfl ?_
    refine v_if_neN (tgt := 932) hC dL_law_917 (by decide) (by decide) (fun q => absurd rfl q) (fun _ => ?_)
    refine v_aload_n hC dL_law_920 rfl ?_
    refine v_iconst (v := nI 0) hC dL_law_921 (by decide) ?_
    refine al_60 hC dL_law_922 h60 (by decide) ?_
    rw [g4, wI_of hn]
    refine v_iload hC dL_law_923 rfl ?_
    refine v_i2l (v := lN (wI r)) hC dL_law_925 (lN_wN _).symm ?_
    refine v_lcmp hC dL_law_926 ?_
    refine v_if_eqJ (tgt := 932) hC dL_law_927 (by decide) (wI_lt r) (wI_lt r) (fun _ => ?_) (fun q => absurd rfl q)
    refine v_goto (tgt := 2247) hC dL_law_932 (by decide) ?_
    exact v_wide (by omega) (by omega) (v_sub rfl (nx _ _ _ _ _ g2 rfl rfl rfl rfl))
theorem cdl_queueAt (E : String) : cd_queueAt E < 5 ∧ cd_queueAt E ≠ 0 := by
  unfold cd_queueAt
  first | (constructor <;> decide) | (repeat' split) <;> (constructor <;> decide)
theorem hxs_queueAt {σ : SG} {a1 : Int32} {E : String} (h : k_queueAt σ a1 = .inl E) : E = eIOB := by
  have h2 : ON (k_queueAt σ a1) [eIOB] := by
    unfold k_queueAt
    repeat (first | exact on_ret | exact on_err (by simp) | refine on_gR (by simp) (fun _ => ?_) | refine on_ite ?_ ?_)
  simpa using h2 E h
set_option maxHeartbeats 4000000 in
set_option maxRecDepth 100000 in
theorem case_queueAt {X : XT} {G : GT} {mc ms K0 S0 p N : Nat} {sc : Nat → Int32} {ok : KF} {ad : AD} {σ : SG} {A : AS} {e i : Nat} (hl0 : (xl X).stackTraces = false) (hC : Cx X G "BranchyardLaw" cL_law 9 16 mc ms) (hN : NC (xs X)) (hP : Scr G (xs X) p N sc) (hNl : N ≤ 3072) (hI : INV G ok ad σ A e i) (hj : 6 * i + 6 ≤ N) (h1 : K0 + 200 * (i + 1) ≤ mc) (h2 : S0 + 3000 * (i + 1) + 4 * 4700 ≤ ms)
    (nx : ∀ ok' ad' σ' A' e', INV G ok' ad' σ' A' e' (i + 1) → ad' 0 0 0 = ad 0 0 0 → ad' 30 0 0 = ad 30 0 0 → ad' 60 0 0 = ad 60 0 0 → ad' 61 0 0 = ad 61 0 0 → V X G (K0 + 200 * (i + 1)) (S0 + 3000 * (i + 1) + 4 * e') ok' ad' σ' [(0, .ref p), (1, .ref (ad 0 0 0)), (2, .ref (ad 30 0 0)), (3, .ref (ad 60 0 0)), (4, .ref (ad 61 0 0)), (5, iv (6 * i))] 2247 []) : V X G (K0 + 200 * i) (S0 + 3000 * i + 4 * e) ok ad σ [(0, .ref p), (1, .ref (ad 0 0 0)), (2, .ref (ad 30 0 0)), (3, .ref (ad 60 0 0)), (4, .ref (ad 61 0 0)), (5, iv (6 * i))] 1047 [] := by
  obtain ⟨hR, ⟨hCK, hVK⟩, ⟨hArr, hKM⟩, ⟨h60, h61, n57, n58, n62, hO, hQ⟩, c5, c1, c6, cK, cq, ct, ce⟩ := id hI
  have hB := hR.1
  refine v_aload_n hC dL_law_1047 rfl ?_
  refine v_aload_n hC dL_law_1048 rfl ?_
  refine v_iload hC dL_law_1049 rfl ?_
  refine v_iconst (v := nI 1) hC dL_law_1051 (by decide) ?_
  refine v_iaddN hC dL_law_1052 ?_
  refine v_scr (x := 6 * i + 1) hC hP dL_law_1053 (by omega) (by omega) ?_
  refine v_aload_n hC dL_law_1054 rfl ?_
  refine v_callSN hC hN lkw_queueAt dL_law_1055 (w_queueAt hl0 (c_X5_queueAt hl0 hO hB (sc (6 * i + 1))) hO.k0 (fun v μ h => by obtain ⟨r, τ, -, rfl, rfl⟩ := h; exact ⟨⟨r, rfl⟩, h60, rfl⟩) (fun E μ h => hxs_queueAt h.1)) (by omega) (by decide) rfl rfl (Nat.le_of_ble_eq_true rfl) (by omega) (by omega) (fun v μ h => ?_)
  have hAG := law_simple hI (fun E => (cdl_queueAt E).1) (fun τ hτ => ag_queueAt hτ (sc (6 * i + 1)))
  rcases h with ⟨E, ⟨hE, rfl⟩, rfl⟩ | ⟨n, μ0, ⟨r, s', hr, hn, rfl⟩, rfl, rfl⟩
  · dsimp only
    obtain ⟨g1, g2⟩ := hAG.1 E hE
    have cdE := cdl_queueAt E
    refine v_istore hC dL_law_1058 (by decide) ?_
    refine v_aload_n hC dL_law_1060 rfl ?_
    refine v_aload_n hC dL_law_1061 rfl ?_
    refine v_iload hC dL_law_1062 rfl ?_
    refine v_iconst (v := nI 1) hC dL_law_1064 (by decide) ?_
    refine v_iaddN hC dL_law_1065 ?_
    refine v_scr (x := 6 * i + 1) hC hP dL_law_1066 (by omega) (by omega) ?_
    refine v_callV hC lk_L_177 dL_law_1067 (c_X6_queueAt (σ := σ) hl0 hQ hB (sc (6 * i + 1))) (by omega) (by decide) hQ.k30 rfl rfl rfl rfl (Nat.le_of_ble_eq_true rfl) (by omega) (by omega) (fun v μ h => ?_) (fun _ _ h => h.elim)
    rcases h with ⟨k, hk, rfl, rfl⟩ | ⟨r2, τ2, hk, rfl, rfl⟩
    rotate_left
    · rw [g1] at hk
      cases hk
    rw [g1] at hk
    cases hk
    dsimp only
    refine v_istore hC dL_law_1070 (by decide) ?_
    refine v_aload_n hC dL_law_1072 rfl ?_
    refine v_callV_r0 hC lk_L_134 dL_law_1073 (c_X6_thrown hl0 hQ g2.1.1) (by omega) (by decide) hQ.k30 rfl rfl rfl rfl (Nat.le_of_ble_eq_true rfl) (by omega) (by omega) ?_
    rw [show th (th σ 0) (cd_queueAt E) 30 0 0 0 = cd_queueAt E from up_same _ _ _ _ _ _]
    refine v_iload hC dL_law_1076 rfl ?_
    refine v_icmp_eq (tgt := 1083) hC dL_law_1078 (by decide) (fun _ => ?_) (fun q => absurd rfl q)
    refine v_iload hC dL_law_1083 rfl ?_
    refine v_if_neN (tgt := 1100) hC dL_law_1085 (by decide) (by omega) (fun _ => ?_) (fun q => absurd q cdE.2)
    refine v_goto (tgt := 2247) hC dL_law_1100 (by decide) ?_
    exact v_wide (by omega) (by omega) (v_sub rfl (nx _ _ _ _ _ g2 rfl rfl rfl rfl))
  · dsimp only
    obtain ⟨hBw, hRw, τ9, A9, g1, g2, g3, g4⟩ := hAG.2 r s' hr (wI n) (wI_lt n)
    refine v_istore hC dL_law_1058 (by decide) ?_
    refine v_aload_n hC dL_law_1060 rfl ?_
    refine v_aload_n hC dL_law_1061 rfl ?_
    refine v_iload hC dL_law_1062 rfl ?_
    refine v_iconst (v := nI 1) hC dL_law_1064 (by decide) ?_
    refine v_iaddN hC dL_law_1065 ?_
    refine v_scr (x := 6 * i + 1) hC hP dL_law_1066 (by omega) (by omega) ?_
    refine v_callV hC lk_L_177 dL_law_1067 (c_X6_queueAt (σ := (up s' 60 0 0 0 (wI n))) hl0 hQ hBw (sc (6 * i + 1))) (by omega) (by decide) hQ.k30 rfl rfl rfl rfl (Nat.le_of_ble_eq_true rfl) (by omega) (by omega) (fun v μ h => ?_) (fun _ _ h => h.elim)
    rcases h with ⟨k, hk, rfl, rfl⟩ | ⟨r2, τ2, hk, rfl, rfl⟩
    skip
    · rw [g1] at hk
      cases hk
    rw [g1] at hk
    cases hk
    dsimp only
    refine v_istore hC dL_law_1070 (by decide) ?_
    refine v_aload_n hC dL_law_1072 rfl ?_
    refine v_callV_r0 hC lk_L_134 dL_law_1073 (c_X6_thrown hl0 hQ g2.1.1) (by omega) (by decide) hQ.k30 rfl rfl rfl rfl (Nat.le_of_ble_eq_true rfl) (by omega) (by omega) ?_
    rw [g3]
    refine v_iload hC dL_law_1076 rfl ?_
    refine v_icmp_eq (tgt := 1083) hC dL_law_1078 (by decide) (fun _ => ?_) (fun q => absurd rfl q)
    refine v_iload hC dL_law_1083 rfl ?_
    refine v_if_neN (tgt := 1100) hC dL_law_1085 (by decide) (by decide) (fun q => absurd rfl q) (fun _ => ?_)
    refine v_aload_n hC dL_law_1088 rfl ?_
    refine v_iconst (v := nI 0) hC dL_law_1089 (by decide) ?_
    refine al_60 hC dL_law_1090 h60 (by decide) ?_
    rw [g4, wI_of hn]
    refine v_iload hC dL_law_1091 rfl ?_
    refine v_i2l (v := lN (wI r)) hC dL_law_1093 (lN_wN _).symm ?_
    refine v_lcmp hC dL_law_1094 ?_
    refine v_if_eqJ (tgt := 1100) hC dL_law_1095 (by decide) (wI_lt r) (wI_lt r) (fun _ => ?_) (fun q => absurd rfl q)
    refine v_goto (tgt := 2247) hC dL_law_1100 (by decide) ?_
    exact v_wide (by omega) (by omega) (v_sub rfl (nx _ _ _ _ _ g2 rfl rfl rfl rfl))
theorem cdl_stateOf (E : String) : cd_stateOf E < 5 ∧ cd_stateOf E ≠ 0 := by
  unfold cd_stateOf
  first | (constructor <;> decide) | (repeat' split) <;> (constructor <;> decide)
theorem hxs_stateOf {σ : SG} {a1 : Int32} {E : String} (h : k_stateOf σ a1 = .inl E) : E = eNSE := by
  have h2 : ON (k_stateOf σ a1) [eNSE] := by
    unfold k_stateOf
    repeat (first | exact on_ret | exact on_err (by simp) | refine on_gR (by simp) (fun _ => ?_) | refine on_ite ?_ ?_)
  simpa using h2 E h
set_option maxHeartbeats 4000000 in
set_option maxRecDepth 100000 in
theorem case_stateOf {X : XT} {G : GT} {mc ms K0 S0 p N : Nat} {sc : Nat → Int32} {ok : KF} {ad : AD} {σ : SG} {A : AS} {e i : Nat} (hl0 : (xl X).stackTraces = false) (hC : Cx X G "BranchyardLaw" cL_law 9 16 mc ms) (hN : NC (xs X)) (hP : Scr G (xs X) p N sc) (hNl : N ≤ 3072) (hI : INV G ok ad σ A e i) (hj : 6 * i + 6 ≤ N) (h1 : K0 + 200 * (i + 1) ≤ mc) (h2 : S0 + 3000 * (i + 1) + 4 * 4700 ≤ ms)
    (nx : ∀ ok' ad' σ' A' e', INV G ok' ad' σ' A' e' (i + 1) → ad' 0 0 0 = ad 0 0 0 → ad' 30 0 0 = ad 30 0 0 → ad' 60 0 0 = ad 60 0 0 → ad' 61 0 0 = ad 61 0 0 → V X G (K0 + 200 * (i + 1)) (S0 + 3000 * (i + 1) + 4 * e') ok' ad' σ' [(0, .ref p), (1, .ref (ad 0 0 0)), (2, .ref (ad 30 0 0)), (3, .ref (ad 60 0 0)), (4, .ref (ad 61 0 0)), (5, iv (6 * i))] 2247 []) : V X G (K0 + 200 * i) (S0 + 3000 * i + 4 * e) ok ad σ [(0, .ref p), (1, .ref (ad 0 0 0)), (2, .ref (ad 30 0 0)), (3, .ref (ad 60 0 0)), (4, .ref (ad 61 0 0)), (5, iv (6 * i))] 1238 [] := by
  obtain ⟨hR, ⟨hCK, hVK⟩, ⟨hArr, hKM⟩, ⟨h60, h61, n57, n58, n62, hO, hQ⟩, c5, c1, c6, cK, cq, ct, ce⟩ := id hI
  have hB := hR.1
  refine v_aload_n hC dL_law_1238 rfl ?_
  refine v_aload_n hC dL_law_1239 rfl ?_
  refine v_iload hC dL_law_1240 rfl ?_
  refine v_iconst (v := nI 1) hC dL_law_1242 (by decide) ?_
  refine v_iaddN hC dL_law_1243 ?_
  refine v_scr (x := 6 * i + 1) hC hP dL_law_1244 (by omega) (by omega) ?_
  refine v_aload_n hC dL_law_1245 rfl ?_
  refine v_callSN hC hN lkw_stateOf dL_law_1246 (w_stateOf hl0 (c_X5_stateOf hl0 hO hB (sc (6 * i + 1))) hO.k0 (fun v μ h => by obtain ⟨r, τ, -, rfl, rfl⟩ := h; exact ⟨⟨r, rfl⟩, h60, rfl⟩) (fun E μ h => hxs_stateOf h.1)) (by omega) (by decide) rfl rfl (Nat.le_of_ble_eq_true rfl) (by omega) (by omega) (fun v μ h => ?_)
  have hAG := law_simple hI (fun E => (cdl_stateOf E).1) (fun τ hτ => ag_stateOf hτ (sc (6 * i + 1)))
  rcases h with ⟨E, ⟨hE, rfl⟩, rfl⟩ | ⟨n, μ0, ⟨r, s', hr, hn, rfl⟩, rfl, rfl⟩
  · dsimp only
    obtain ⟨g1, g2⟩ := hAG.1 E hE
    have cdE := cdl_stateOf E
    refine v_istore hC dL_law_1249 (by decide) ?_
    refine v_aload_n hC dL_law_1251 rfl ?_
    refine v_aload_n hC dL_law_1252 rfl ?_
    refine v_iload hC dL_law_1253 rfl ?_
    refine v_iconst (v := nI 1) hC dL_law_1255 (by decide) ?_
    refine v_iaddN hC dL_law_1256 ?_
    refine v_scr (x := 6 * i + 1) hC hP dL_law_1257 (by omega) (by omega) ?_
    refine v_callV hC lk_L_187 dL_law_1258 (c_X6_stateOf (σ := σ) hl0 hQ hB (sc (6 * i + 1))) (by omega) (by decide) hQ.k30 rfl rfl rfl rfl (Nat.le_of_ble_eq_true rfl) (by omega) (by omega) (fun v μ h => ?_) (fun _ _ h => h.elim)
    rcases h with ⟨k, hk, rfl, rfl⟩ | ⟨r2, τ2, hk, rfl, rfl⟩
    rotate_left
    · rw [g1] at hk
      cases hk
    rw [g1] at hk
    cases hk
    dsimp only
    refine v_istore hC dL_law_1261 (by decide) ?_
    refine v_aload_n hC dL_law_1263 rfl ?_
    refine v_callV_r0 hC lk_L_134 dL_law_1264 (c_X6_thrown hl0 hQ g2.1.1) (by omega) (by decide) hQ.k30 rfl rfl rfl rfl (Nat.le_of_ble_eq_true rfl) (by omega) (by omega) ?_
    rw [show th (th σ 0) (cd_stateOf E) 30 0 0 0 = cd_stateOf E from up_same _ _ _ _ _ _]
    refine v_iload hC dL_law_1267 rfl ?_
    refine v_icmp_eq (tgt := 1274) hC dL_law_1269 (by decide) (fun _ => ?_) (fun q => absurd rfl q)
    refine v_iload hC dL_law_1274 rfl ?_
    refine v_if_neN (tgt := 1291) hC dL_law_1276 (by decide) (by omega) (fun _ => ?_) (fun q => absurd q cdE.2)
    refine v_goto (tgt := 2247) hC dL_law_1291 (by decide) ?_
    exact v_wide (by omega) (by omega) (v_sub rfl (nx _ _ _ _ _ g2 rfl rfl rfl rfl))
  · dsimp only
    obtain ⟨hBw, hRw, τ9, A9, g1, g2, g3, g4⟩ := hAG.2 r s' hr (wI n) (wI_lt n)
    refine v_istore hC dL_law_1249 (by decide) ?_
    refine v_aload_n hC dL_law_1251 rfl ?_
    refine v_aload_n hC dL_law_1252 rfl ?_
    refine v_iload hC dL_law_1253 rfl ?_
    refine v_iconst (v := nI 1) hC dL_law_1255 (by decide) ?_
    refine v_iaddN hC dL_law_1256 ?_
    refine v_scr (x := 6 * i + 1) hC hP dL_law_1257 (by omega) (by omega) ?_
    refine v_callV hC lk_L_187 dL_law_1258 (c_X6_stateOf (σ := (up s' 60 0 0 0 (wI n))) hl0 hQ hBw (sc (6 * i + 1))) (by omega) (by decide) hQ.k30 rfl rfl rfl rfl (Nat.le_of_ble_eq_true rfl) (by omega) (by omega) (fun v μ h => ?_) (fun _ _ h => h.elim)
    rcases h with ⟨k, hk, rfl, rfl⟩ | ⟨r2, τ2, hk, rfl, rfl⟩
    skip
    · rw [g1] at hk
      cases hk
    rw [g1] at hk
    cases hk
    dsimp only
    refine v_istore hC dL_law_1261 (by decide) ?_
    refine v_aload_n hC dL_law_1263 rfl ?_
    refine v_callV_r0 hC lk_L_134 dL_law_1264 (c_X6_thrown hl0 hQ g2.1.1) (by omega) (by decide) hQ.k30 rfl rfl rfl rfl (Nat.le_of_ble_eq_true rfl) (by omega) (by omega) ?_
    rw [g3]
    refine v_iload hC dL_law_1267 rfl ?_
    refine v_icmp_eq (tgt := 1274) hC dL_law_1269 (by decide) (fun _ => ?_) (fun q => absurd rfl q)
    refine v_iload hC dL_law_1274 rfl ?_
    refine v_if_neN (tgt := 1291) hC dL_law_1276 (by decide) (by decide) (fun q => absurd rfl q) (fun _ => ?_)
    refine v_aload_n hC dL_law_1279 rfl ?_
    refine v_iconst (v := nI 0) hC dL_law_1280 (by decide) ?_
    refine al_60 hC dL_law_1281 h60 (by decide) ?_
    rw [g4, wI_of hn]
    refine v_iload hC dL_law_1282 rfl ?_
    refine v_i2l (v := lN (wI r)) hC dL_law_1284 (lN_wN _).symm ?_
    refine v_lcmp hC dL_law_1285 ?_
    refine v_if_eqJ (tgt := 1291) hC dL_law_1286 (by decide) (wI_lt r) (wI_lt r) (fun _ => ?_) (fun q => absurd rfl q)
    refine v_goto (tgt := 2247) hC dL_law_1291 (by decide) ?_
    exact v_wide (by omega) (by omega) (v_sub rfl (nx _ _ _ _ _ g2 rfl rfl rfl rfl))
theorem cdl_clashes (E : String) : cd_clashes E < 5 ∧ cd_clashes E ≠ 0 := by
  unfold cd_clashes
  first | (constructor <;> decide) | (repeat' split) <;> (constructor <;> decide)
theorem hxs_clashes {σ : SG} {a1 : Int32} {E : String} (h : k_clashes σ a1 = .inl E) : E = eNSE := by
  have h2 : ON (k_clashes σ a1) [eNSE] := by
    unfold k_clashes
    repeat (first | exact on_ret | exact on_err (by simp) | refine on_gR (by simp) (fun _ => ?_) | refine on_ite ?_ ?_)
  simpa using h2 E h
set_option maxHeartbeats 4000000 in
set_option maxRecDepth 100000 in
theorem case_clashes {X : XT} {G : GT} {mc ms K0 S0 p N : Nat} {sc : Nat → Int32} {ok : KF} {ad : AD} {σ : SG} {A : AS} {e i : Nat} (hl0 : (xl X).stackTraces = false) (hC : Cx X G "BranchyardLaw" cL_law 9 16 mc ms) (hN : NC (xs X)) (hP : Scr G (xs X) p N sc) (hNl : N ≤ 3072) (hI : INV G ok ad σ A e i) (hj : 6 * i + 6 ≤ N) (h1 : K0 + 200 * (i + 1) ≤ mc) (h2 : S0 + 3000 * (i + 1) + 4 * 4700 ≤ ms)
    (nx : ∀ ok' ad' σ' A' e', INV G ok' ad' σ' A' e' (i + 1) → ad' 0 0 0 = ad 0 0 0 → ad' 30 0 0 = ad 30 0 0 → ad' 60 0 0 = ad 60 0 0 → ad' 61 0 0 = ad 61 0 0 → V X G (K0 + 200 * (i + 1)) (S0 + 3000 * (i + 1) + 4 * e') ok' ad' σ' [(0, .ref p), (1, .ref (ad 0 0 0)), (2, .ref (ad 30 0 0)), (3, .ref (ad 60 0 0)), (4, .ref (ad 61 0 0)), (5, iv (6 * i))] 2247 []) : V X G (K0 + 200 * i) (S0 + 3000 * i + 4 * e) ok ad σ [(0, .ref p), (1, .ref (ad 0 0 0)), (2, .ref (ad 30 0 0)), (3, .ref (ad 60 0 0)), (4, .ref (ad 61 0 0)), (5, iv (6 * i))] 1357 [] := by
  obtain ⟨hR, ⟨hCK, hVK⟩, ⟨hArr, hKM⟩, ⟨h60, h61, n57, n58, n62, hO, hQ⟩, c5, c1, c6, cK, cq, ct, ce⟩ := id hI
  have hB := hR.1
  refine v_aload_n hC dL_law_1357 rfl ?_
  refine v_aload_n hC dL_law_1358 rfl ?_
  refine v_iload hC dL_law_1359 rfl ?_
  refine v_iconst (v := nI 1) hC dL_law_1361 (by decide) ?_
  refine v_iaddN hC dL_law_1362 ?_
  refine v_scr (x := 6 * i + 1) hC hP dL_law_1363 (by omega) (by omega) ?_
  refine v_aload_n hC dL_law_1364 rfl ?_
  refine v_callSN hC hN lkw_clashes dL_law_1365 (w_clashes hl0 (c_X5_clashes hl0 hO hB (sc (6 * i + 1))) hO.k0 (fun v μ h => by obtain ⟨r, τ, -, rfl, rfl⟩ := h; exact ⟨⟨r, rfl⟩, h60, rfl⟩) (fun E μ h => hxs_clashes h.1)) (by omega) (by decide) rfl rfl (Nat.le_of_ble_eq_true rfl) (by omega) (by omega) (fun v μ h => ?_)
  have hAG := law_simple hI (fun E => (cdl_clashes E).1) (fun τ hτ => ag_clashes hτ (sc (6 * i + 1)))
  rcases h with ⟨E, ⟨hE, rfl⟩, rfl⟩ | ⟨n, μ0, ⟨r, s', hr, hn, rfl⟩, rfl, rfl⟩
  · dsimp only
    obtain ⟨g1, g2⟩ := hAG.1 E hE
    have cdE := cdl_clashes E
    refine v_istore hC dL_law_1368 (by decide) ?_
    refine v_aload_n hC dL_law_1370 rfl ?_
    refine v_aload_n hC dL_law_1371 rfl ?_
    refine v_iload hC dL_law_1372 rfl ?_
    refine v_iconst (v := nI 1) hC dL_law_1374 (by decide) ?_
    refine v_iaddN hC dL_law_1375 ?_
    refine v_scr (x := 6 * i + 1) hC hP dL_law_1376 (by omega) (by omega) ?_
    refine v_callV hC lk_L_193 dL_law_1377 (c_X6_clashes (σ := σ) hl0 hQ hB (sc (6 * i + 1))) (by omega) (by decide) hQ.k30 rfl rfl rfl rfl (Nat.le_of_ble_eq_true rfl) (by omega) (by omega) (fun v μ h => ?_) (fun _ _ h => h.elim)
    rcases h with ⟨k, hk, rfl, rfl⟩ | ⟨r2, τ2, hk, rfl, rfl⟩
    rotate_left
    · rw [g1] at hk
      cases hk
    rw [g1] at hk
    cases hk
    dsimp only
    refine v_istore hC dL_law_1380 (by decide) ?_
    refine v_aload_n hC dL_law_1382 rfl ?_
    refine v_callV_r0 hC lk_L_134 dL_law_1383 (c_X6_thrown hl0 hQ g2.1.1) (by omega) (by decide) hQ.k30 rfl rfl rfl rfl (Nat.le_of_ble_eq_true rfl) (by omega) (by omega) ?_
    rw [show th (th σ 0) (cd_clashes E) 30 0 0 0 = cd_clashes E from up_same _ _ _ _ _ _]
    refine v_iload hC dL_law_1386 rfl ?_
    refine v_icmp_eq (tgt := 1393) hC dL_law_1388 (by decide) (fun _ => ?_) (fun q => absurd rfl q)
    refine v_iload hC dL_law_1393 rfl ?_
    refine v_if_neN (tgt := 1410) hC dL_law_1395 (by decide) (by omega) (fun _ => ?_) (fun q => absurd q cdE.2)
    refine v_goto (tgt := 2247) hC dL_law_1410 (by decide) ?_
    exact v_wide (by omega) (by omega) (v_sub rfl (nx _ _ _ _ _ g2 rfl rfl rfl rfl))
  · dsimp only
    obtain ⟨hBw, hRw, τ9, A9, g1, g2, g3, g4⟩ := hAG.2 r s' hr (wI n) (wI_lt n)
    refine v_istore hC dL_law_1368 (by decide) ?_
    refine v_aload_n hC dL_law_1370 rfl ?_
    refine v_aload_n hC dL_law_1371 rfl ?_
    refine v_iload hC dL_law_1372 rfl ?_
    refine v_iconst (v := nI 1) hC dL_law_1374 (by decide) ?_
    refine v_iaddN hC dL_law_1375 ?_
    refine v_scr (x := 6 * i + 1) hC hP dL_law_1376 (by omega) (by omega) ?_
    refine v_callV hC lk_L_193 dL_law_1377 (c_X6_clashes (σ := (up s' 60 0 0 0 (wI n))) hl0 hQ hBw (sc (6 * i + 1))) (by omega) (by decide) hQ.k30 rfl rfl rfl rfl (Nat.le_of_ble_eq_true rfl) (by omega) (by omega) (fun v μ h => ?_) (fun _ _ h => h.elim)
    rcases h with ⟨k, hk, rfl, rfl⟩ | ⟨r2, τ2, hk, rfl, rfl⟩
    skip
    · rw [g1] at hk
      cases hk
    rw [g1] at hk
    cases hk
    dsimp only
    refine v_istore hC dL_law_1380 (by decide) ?_
    refine v_aload_n hC dL_law_1382 rfl ?_
    refine v_callV_r0 hC lk_L_134 dL_law_1383 (c_X6_thrown hl0 hQ g2.1.1) (by omega) (by decide) hQ.k30 rfl rfl rfl rfl (Nat.le_of_ble_eq_true rfl) (by omega) (by omega) ?_
    rw [g3]
    refine v_iload hC dL_law_1386 rfl ?_
    refine v_icmp_eq (tgt := 1393) hC dL_law_1388 (by decide) (fun _ => ?_) (fun q => absurd rfl q)
    refine v_iload hC dL_law_1393 rfl ?_
    refine v_if_neN (tgt := 1410) hC dL_law_1395 (by decide) (by decide) (fun q => absurd rfl q) (fun _ => ?_)
    refine v_aload_n hC dL_law_1398 rfl ?_
    refine v_iconst (v := nI 0) hC dL_law_1399 (by decide) ?_
    refine al_60 hC dL_law_1400 h60 (by decide) ?_
    rw [g4, wI_of hn]
    refine v_iload hC dL_law_1401 rfl ?_
    refine v_i2l (v := lN (wI r)) hC dL_law_1403 (lN_wN _).symm ?_
    refine v_lcmp hC dL_law_1404 ?_
    refine v_if_eqJ (tgt := 1410) hC dL_law_1405 (by decide) (wI_lt r) (wI_lt r) (fun _ => ?_) (fun q => absurd rfl q)
    refine v_goto (tgt := 2247) hC dL_law_1410 (by decide) ?_
    exact v_wide (by omega) (by omega) (v_sub rfl (nx _ _ _ _ _ g2 rfl rfl rfl rfl))
theorem cdl_update (E : String) : cd_update E < 5 ∧ cd_update E ≠ 0 := by
  unfold cd_update
  first | (constructor <;> decide) | (repeat' split) <;> (constructor <;> decide)
theorem hxs_update {σ : SG} {a1 : Int32} {E : String} (h : k_update σ a1 = .inl E) : E = eNSE ∨ E = eISE := by
  have h2 : ON (k_update σ a1) [eNSE, eISE] := by
    unfold k_update
    repeat (first | exact on_ret | exact on_err (by simp) | refine on_gR (by simp) (fun _ => ?_) | refine on_ite ?_ ?_)
  simpa using h2 E h
set_option maxHeartbeats 4000000 in
set_option maxRecDepth 100000 in
theorem case_update {X : XT} {G : GT} {mc ms K0 S0 p N : Nat} {sc : Nat → Int32} {ok : KF} {ad : AD} {σ : SG} {A : AS} {e i : Nat} (hl0 : (xl X).stackTraces = false) (hC : Cx X G "BranchyardLaw" cL_law 9 16 mc ms) (hN : NC (xs X)) (hP : Scr G (xs X) p N sc) (hNl : N ≤ 3072) (hI : INV G ok ad σ A e i) (hj : 6 * i + 6 ≤ N) (h1 : K0 + 200 * (i + 1) ≤ mc) (h2 : S0 + 3000 * (i + 1) + 4 * 4700 ≤ ms)
    (nx : ∀ ok' ad' σ' A' e', INV G ok' ad' σ' A' e' (i + 1) → ad' 0 0 0 = ad 0 0 0 → ad' 30 0 0 = ad 30 0 0 → ad' 60 0 0 = ad 60 0 0 → ad' 61 0 0 = ad 61 0 0 → V X G (K0 + 200 * (i + 1)) (S0 + 3000 * (i + 1) + 4 * e') ok' ad' σ' [(0, .ref p), (1, .ref (ad 0 0 0)), (2, .ref (ad 30 0 0)), (3, .ref (ad 60 0 0)), (4, .ref (ad 61 0 0)), (5, iv (6 * i))] 2247 []) : V X G (K0 + 200 * i) (S0 + 3000 * i + 4 * e) ok ad σ [(0, .ref p), (1, .ref (ad 0 0 0)), (2, .ref (ad 30 0 0)), (3, .ref (ad 60 0 0)), (4, .ref (ad 61 0 0)), (5, iv (6 * i))] 1413 [] := by
  obtain ⟨hR, ⟨hCK, hVK⟩, ⟨hArr, hKM⟩, ⟨h60, h61, n57, n58, n62, hO, hQ⟩, c5, c1, c6, cK, cq, ct, ce⟩ := id hI
  have hB := hR.1
  refine v_aload_n hC dL_law_1413 rfl ?_
  refine v_aload_n hC dL_law_1414 rfl ?_
  refine v_iload hC dL_law_1415 rfl ?_
  refine v_iconst (v := nI 1) hC dL_law_1417 (by decide) ?_
  refine v_iaddN hC dL_law_1418 ?_
  refine v_scr (x := 6 * i + 1) hC hP dL_law_1419 (by omega) (by omega) ?_
  refine v_aload_n hC dL_law_1420 rfl ?_
  refine v_callSN hC hN lkw_update dL_law_1421 (w_update hl0 (c_X5_update hl0 hO hB (sc (6 * i + 1))) hO.k0 (fun v μ h => by obtain ⟨r, τ, -, rfl, rfl⟩ := h; exact ⟨⟨r, rfl⟩, h60, rfl⟩) (fun E μ h => hxs_update h.1)) (by omega) (by decide) rfl rfl (Nat.le_of_ble_eq_true rfl) (by omega) (by omega) (fun v μ h => ?_)
  have hAG := law_simple hI (fun E => (cdl_update E).1) (fun τ hτ => ag_update hτ (sc (6 * i + 1)))
  rcases h with ⟨E, ⟨hE, rfl⟩, rfl⟩ | ⟨n, μ0, ⟨r, s', hr, hn, rfl⟩, rfl, rfl⟩
  · dsimp only
    obtain ⟨g1, g2⟩ := hAG.1 E hE
    have cdE := cdl_update E
    refine v_istore hC dL_law_1424 (by decide) ?_
    refine v_aload_n hC dL_law_1426 rfl ?_
    refine v_aload_n hC dL_law_1427 rfl ?_
    refine v_iload hC dL_law_1428 rfl ?_
    refine v_iconst (v := nI 1) hC dL_law_1430 (by decide) ?_
    refine v_iaddN hC dL_law_1431 ?_
    refine v_scr (x := 6 * i + 1) hC hP dL_law_1432 (by omega) (by omega) ?_
    refine v_callV hC lk_L_196 dL_law_1433 (c_X6_update (σ := σ) hl0 hQ hB (sc (6 * i + 1))) (by omega) (by decide) hQ.k30 rfl rfl rfl rfl (Nat.le_of_ble_eq_true rfl) (by omega) (by omega) (fun v μ h => ?_) (fun _ _ h => h.elim)
    rcases h with ⟨k, hk, rfl, rfl⟩ | ⟨r2, τ2, hk, rfl, rfl⟩
    rotate_left
    · rw [g1] at hk
      cases hk
    rw [g1] at hk
    cases hk
    dsimp only
    refine v_istore hC dL_law_1436 (by decide) ?_
    refine v_aload_n hC dL_law_1438 rfl ?_
    refine v_callV_r0 hC lk_L_134 dL_law_1439 (c_X6_thrown hl0 hQ g2.1.1) (by omega) (by decide) hQ.k30 rfl rfl rfl rfl (Nat.le_of_ble_eq_true rfl) (by omega) (by omega) ?_
    rw [show th (th σ 0) (cd_update E) 30 0 0 0 = cd_update E from up_same _ _ _ _ _ _]
    refine v_iload hC dL_law_1442 rfl ?_
    refine v_icmp_eq (tgt := 1449) hC dL_law_1444 (by decide) (fun _ => ?_) (fun q => absurd rfl q)
    refine v_iload hC dL_law_1449 rfl ?_
    refine v_if_neN (tgt := 1466) hC dL_law_1451 (by decide) (by omega) (fun _ => ?_) (fun q => absurd q cdE.2)
    refine v_goto (tgt := 2247) hC dL_law_1466 (by decide) ?_
    exact v_wide (by omega) (by omega) (v_sub rfl (nx _ _ _ _ _ g2 rfl rfl rfl rfl))
  · dsimp only
    obtain ⟨hBw, hRw, τ9, A9, g1, g2, g3, g4⟩ := hAG.2 r s' hr (wI n) (wI_lt n)
    refine v_istore hC dL_law_1424 (by decide) ?_
    refine v_aload_n hC dL_law_1426 rfl ?_
    refine v_aload_n hC dL_law_1427 rfl ?_
    refine v_iload hC dL_law_1428 rfl ?_
    refine v_iconst (v := nI 1) hC dL_law_1430 (by decide) ?_
    refine v_iaddN hC dL_law_1431 ?_
    refine v_scr (x := 6 * i + 1) hC hP dL_law_1432 (by omega) (by omega) ?_
    refine v_callV hC lk_L_196 dL_law_1433 (c_X6_update (σ := (up s' 60 0 0 0 (wI n))) hl0 hQ hBw (sc (6 * i + 1))) (by omega) (by decide) hQ.k30 rfl rfl rfl rfl (Nat.le_of_ble_eq_true rfl) (by omega) (by omega) (fun v μ h => ?_) (fun _ _ h => h.elim)
    rcases h with ⟨k, hk, rfl, rfl⟩ | ⟨r2, τ2, hk, rfl, rfl⟩
    skip
    · rw [g1] at hk
      cases hk
    rw [g1] at hk
    cases hk
    dsimp only
    refine v_istore hC dL_law_1436 (by decide) ?_
    refine v_aload_n hC dL_law_1438 rfl ?_
    refine v_callV_r0 hC lk_L_134 dL_law_1439 (c_X6_thrown hl0 hQ g2.1.1) (by omega) (by decide) hQ.k30 rfl rfl rfl rfl (Nat.le_of_ble_eq_true rfl) (by omega) (by omega) ?_
    rw [g3]
    refine v_iload hC dL_law_1442 rfl ?_
    refine v_icmp_eq (tgt := 1449) hC dL_law_1444 (by decide) (fun _ => ?_) (fun q => absurd rfl q)
    refine v_iload hC dL_law_1449 rfl ?_
    refine v_if_neN (tgt := 1466) hC dL_law_1451 (by decide) (by decide) (fun q => absurd rfl q) (fun _ => ?_)
    refine v_aload_n hC dL_law_1454 rfl ?_
    refine v_iconst (v := nI 0) hC dL_law_1455 (by decide) ?_
    refine al_60 hC dL_law_1456 h60 (by decide) ?_
    rw [g4, wI_of hn]
    refine v_iload hC dL_law_1457 rfl ?_
    refine v_i2l (v := lN (wI r)) hC dL_law_1459 (lN_wN _).symm ?_
    refine v_lcmp hC dL_law_1460 ?_
    refine v_if_eqJ (tgt := 1466) hC dL_law_1461 (by decide) (wI_lt r) (wI_lt r) (fun _ => ?_) (fun q => absurd rfl q)
    refine v_goto (tgt := 2247) hC dL_law_1466 (by decide) ?_
    exact v_wide (by omega) (by omega) (v_sub rfl (nx _ _ _ _ _ g2 rfl rfl rfl rfl))
theorem cdl_value (E : String) : cd_value E < 5 ∧ cd_value E ≠ 0 := by
  unfold cd_value
  first | (constructor <;> decide) | (repeat' split) <;> (constructor <;> decide)
theorem hxs_value {σ : SG} {a1 : Int32} {a2 : Int32} {E : String} (h : k_value σ a1 a2 = .inl E) : E = eIOB := by
  have h2 : ON (k_value σ a1 a2) [eIOB] := by
    unfold k_value
    repeat (first | exact on_ret | exact on_err (by simp) | refine on_gR (by simp) (fun _ => ?_) | refine on_ite ?_ ?_)
  simpa using h2 E h
set_option maxHeartbeats 4000000 in
set_option maxRecDepth 100000 in
theorem case_value {X : XT} {G : GT} {mc ms K0 S0 p N : Nat} {sc : Nat → Int32} {ok : KF} {ad : AD} {σ : SG} {A : AS} {e i : Nat} (hl0 : (xl X).stackTraces = false) (hC : Cx X G "BranchyardLaw" cL_law 9 16 mc ms) (hN : NC (xs X)) (hP : Scr G (xs X) p N sc) (hNl : N ≤ 3072) (hI : INV G ok ad σ A e i) (hj : 6 * i + 6 ≤ N) (h1 : K0 + 200 * (i + 1) ≤ mc) (h2 : S0 + 3000 * (i + 1) + 4 * 4700 ≤ ms)
    (nx : ∀ ok' ad' σ' A' e', INV G ok' ad' σ' A' e' (i + 1) → ad' 0 0 0 = ad 0 0 0 → ad' 30 0 0 = ad 30 0 0 → ad' 60 0 0 = ad 60 0 0 → ad' 61 0 0 = ad 61 0 0 → V X G (K0 + 200 * (i + 1)) (S0 + 3000 * (i + 1) + 4 * e') ok' ad' σ' [(0, .ref p), (1, .ref (ad 0 0 0)), (2, .ref (ad 30 0 0)), (3, .ref (ad 60 0 0)), (4, .ref (ad 61 0 0)), (5, iv (6 * i))] 2247 []) : V X G (K0 + 200 * i) (S0 + 3000 * i + 4 * e) ok ad σ [(0, .ref p), (1, .ref (ad 0 0 0)), (2, .ref (ad 30 0 0)), (3, .ref (ad 60 0 0)), (4, .ref (ad 61 0 0)), (5, iv (6 * i))] 1629 [] := by
  obtain ⟨hR, ⟨hCK, hVK⟩, ⟨hArr, hKM⟩, ⟨h60, h61, n57, n58, n62, hO, hQ⟩, c5, c1, c6, cK, cq, ct, ce⟩ := id hI
  have hB := hR.1
  refine v_aload_n hC dL_law_1629 rfl ?_
  refine v_aload_n hC dL_law_1630 rfl ?_
  refine v_iload hC dL_law_1631 rfl ?_
  refine v_iconst (v := nI 1) hC dL_law_1633 (by decide) ?_
  refine v_iaddN hC dL_law_1634 ?_
  refine v_scr (x := 6 * i + 1) hC hP dL_law_1635 (by omega) (by omega) ?_
  refine v_aload_n hC dL_law_1636 rfl ?_
  refine v_iload hC dL_law_1637 rfl ?_
  refine v_iconst (v := nI 2) hC dL_law_1639 (by decide) ?_
  refine v_iaddN hC dL_law_1640 ?_
  refine v_scr (x := 6 * i + 2) hC hP dL_law_1641 (by omega) (by omega) ?_
  refine v_aload_n hC dL_law_1642 rfl ?_
  refine v_callSN hC hN lkw_value dL_law_1643 (w_value hl0 (c_X5_value hl0 hO hB (sc (6 * i + 1)) (sc (6 * i + 2))) hO.k0 (fun v μ h => by obtain ⟨r, τ, -, rfl, rfl⟩ := h; exact ⟨⟨r, rfl⟩, h60, rfl⟩) (fun E μ h => hxs_value h.1)) (by omega) (by decide) rfl rfl (Nat.le_of_ble_eq_true rfl) (by omega) (by omega) (fun v μ h => ?_)
  have hAG := law_simple hI (fun E => (cdl_value E).1) (fun τ hτ => ag_value hτ (sc (6 * i + 1)) (sc (6 * i + 2)))
  rcases h with ⟨E, ⟨hE, rfl⟩, rfl⟩ | ⟨n, μ0, ⟨r, s', hr, hn, rfl⟩, rfl, rfl⟩
  · dsimp only
    obtain ⟨g1, g2⟩ := hAG.1 E hE
    have cdE := cdl_value E
    refine v_istore hC dL_law_1646 (by decide) ?_
    refine v_aload_n hC dL_law_1648 rfl ?_
    refine v_aload_n hC dL_law_1649 rfl ?_
    refine v_iload hC dL_law_1650 rfl ?_
    refine v_iconst (v := nI 1) hC dL_law_1652 (by decide) ?_
    refine v_iaddN hC dL_law_1653 ?_
    refine v_scr (x := 6 * i + 1) hC hP dL_law_1654 (by omega) (by omega) ?_
    refine v_aload_n hC dL_law_1655 rfl ?_
    refine v_iload hC dL_law_1656 rfl ?_
    refine v_iconst (v := nI 2) hC dL_law_1658 (by decide) ?_
    refine v_iaddN hC dL_law_1659 ?_
    refine v_scr (x := 6 * i + 2) hC hP dL_law_1660 (by omega) (by omega) ?_
    refine v_callV hC lk_L_206 dL_law_1661 (c_X6_value (σ := σ) hl0 hQ hB (sc (6 * i + 1)) (sc (6 * i + 2))) (by omega) (by decide) hQ.k30 rfl rfl rfl rfl (Nat.le_of_ble_eq_true rfl) (by omega) (by omega) (fun v μ h => ?_) (fun _ _ h => h.elim)
    rcases h with ⟨k, hk, rfl, rfl⟩ | ⟨r2, τ2, hk, rfl, rfl⟩
    rotate_left
    · rw [g1] at hk
      cases hk
    rw [g1] at hk
    cases hk
    dsimp only
    refine v_istore hC dL_law_1664 (by decide) ?_
    refine v_aload_n hC dL_law_1666 rfl ?_
    refine v_callV_r0 hC lk_L_134 dL_law_1667 (c_X6_thrown hl0 hQ g2.1.1) (by omega) (by decide) hQ.k30 rfl rfl rfl rfl (Nat.le_of_ble_eq_true rfl) (by omega) (by omega) ?_
    rw [show th (th σ 0) (cd_value E) 30 0 0 0 = cd_value E from up_same _ _ _ _ _ _]
    refine v_iload hC dL_law_1670 rfl ?_
    refine v_icmp_eq (tgt := 1677) hC dL_law_1672 (by decide) (fun _ => ?_) (fun q => absurd rfl q)
    refine v_iload hC dL_law_1677 rfl ?_
    refine v_if_neN (tgt := 1694) hC dL_law_1679 (by decide) (by omega) (fun _ => ?_) (fun q => absurd q cdE.2)
    refine v_goto (tgt := 2247) hC dL_law_1694 (by decide) ?_
    exact v_wide (by omega) (by omega) (v_sub rfl (nx _ _ _ _ _ g2 rfl rfl rfl rfl))
  · dsimp only
    obtain ⟨hBw, hRw, τ9, A9, g1, g2, g3, g4⟩ := hAG.2 r s' hr (wI n) (wI_lt n)
    refine v_istore hC dL_law_1646 (by decide) ?_
    refine v_aload_n hC dL_law_1648 rfl ?_
    refine v_aload_n hC dL_law_1649 rfl ?_
    refine v_iload hC dL_law_1650 rfl ?_
    refine v_iconst (v := nI 1) hC dL_law_1652 (by decide) ?_
    refine v_iaddN hC dL_law_1653 ?_
    refine v_scr (x := 6 * i + 1) hC hP dL_law_1654 (by omega) (by omega) ?_
    refine v_aload_n hC dL_law_1655 rfl ?_
    refine v_iload hC dL_law_1656 rfl ?_
    refine v_iconst (v := nI 2) hC dL_law_1658 (by decide) ?_
    refine v_iaddN hC dL_law_1659 ?_
    refine v_scr (x := 6 * i + 2) hC hP dL_law_1660 (by omega) (by omega) ?_
    refine v_callV hC lk_L_206 dL_law_1661 (c_X6_value (σ := (up s' 60 0 0 0 (wI n))) hl0 hQ hBw (sc (6 * i + 1)) (sc (6 * i + 2))) (by omega) (by decide) hQ.k30 rfl rfl rfl rfl (Nat.le_of_ble_eq_true rfl) (by omega) (by omega) (fun v μ h => ?_) (fun _ _ h => h.elim)
    rcases h with ⟨k, hk, rfl, rfl⟩ | ⟨r2, τ2, hk, rfl, rfl⟩
    skip
    · rw [g1] at hk
      cases hk
    rw [g1] at hk
    cases hk
    dsimp only
    refine v_istore hC dL_law_1664 (by decide) ?_
    refine v_aload_n hC dL_law_1666 rfl ?_
    refine v_callV_r0 hC lk_L_134 dL_law_1667 (c_X6_thrown hl0 hQ g2.1.1) (by omega) (by decide) hQ.k30 rfl rfl rfl rfl (Nat.le_of_ble_eq_true rfl) (by omega) (by omega) ?_
    rw [g3]
    refine v_iload hC dL_law_1670 rfl ?_
    refine v_icmp_eq (tgt := 1677) hC dL_law_1672 (by decide) (fun _ => ?_) (fun q => absurd rfl q)
    refine v_iload hC dL_law_1677 rfl ?_
    refine v_if_neN (tgt := 1694) hC dL_law_1679 (by decide) (by decide) (fun q => absurd rfl q) (fun _ => ?_)
    refine v_aload_n hC dL_law_1682 rfl ?_
    refine v_iconst (v := nI 0) hC dL_law_1683 (by decide) ?_
    refine al_60 hC dL_law_1684 h60 (by decide) ?_
    rw [g4, wI_of hn]
    refine v_iload hC dL_law_1685 rfl ?_
    refine v_i2l (v := lN (wI r)) hC dL_law_1687 (lN_wN _).symm ?_
    refine v_lcmp hC dL_law_1688 ?_
    refine v_if_eqJ (tgt := 1694) hC dL_law_1689 (by decide) (wI_lt r) (wI_lt r) (fun _ => ?_) (fun q => absurd rfl q)
    refine v_goto (tgt := 2247) hC dL_law_1694 (by decide) ?_
    exact v_wide (by omega) (by omega) (v_sub rfl (nx _ _ _ _ _ g2 rfl rfl rfl rfl))
theorem cdl_valueByMerges (E : String) : cd_valueByMerges E < 5 ∧ cd_valueByMerges E ≠ 0 := by
  unfold cd_valueByMerges
  first | (constructor <;> decide) | (repeat' split) <;> (constructor <;> decide)
theorem hxs_valueByMerges {σ : SG} {a1 : Int32} {a2 : Int32} {E : String} (h : k_valueByMerges σ a1 a2 = .inl E) : E = eIOB := by
  have h2 : ON (k_valueByMerges σ a1 a2) [eIOB] := by
    unfold k_valueByMerges
    repeat (first | exact on_ret | exact on_err (by simp) | refine on_gR (by simp) (fun _ => ?_) | refine on_ite ?_ ?_)
  simpa using h2 E h
set_option maxHeartbeats 4000000 in
set_option maxRecDepth 100000 in
theorem case_valueByMerges {X : XT} {G : GT} {mc ms K0 S0 p N : Nat} {sc : Nat → Int32} {ok : KF} {ad : AD} {σ : SG} {A : AS} {e i : Nat} (hl0 : (xl X).stackTraces = false) (hC : Cx X G "BranchyardLaw" cL_law 9 16 mc ms) (hN : NC (xs X)) (hP : Scr G (xs X) p N sc) (hNl : N ≤ 3072) (hI : INV G ok ad σ A e i) (hj : 6 * i + 6 ≤ N) (h1 : K0 + 200 * (i + 1) ≤ mc) (h2 : S0 + 3000 * (i + 1) + 4 * 4700 ≤ ms)
    (nx : ∀ ok' ad' σ' A' e', INV G ok' ad' σ' A' e' (i + 1) → ad' 0 0 0 = ad 0 0 0 → ad' 30 0 0 = ad 30 0 0 → ad' 60 0 0 = ad 60 0 0 → ad' 61 0 0 = ad 61 0 0 → V X G (K0 + 200 * (i + 1)) (S0 + 3000 * (i + 1) + 4 * e') ok' ad' σ' [(0, .ref p), (1, .ref (ad 0 0 0)), (2, .ref (ad 30 0 0)), (3, .ref (ad 60 0 0)), (4, .ref (ad 61 0 0)), (5, iv (6 * i))] 2247 []) : V X G (K0 + 200 * i) (S0 + 3000 * i + 4 * e) ok ad σ [(0, .ref p), (1, .ref (ad 0 0 0)), (2, .ref (ad 30 0 0)), (3, .ref (ad 60 0 0)), (4, .ref (ad 61 0 0)), (5, iv (6 * i))] 1697 [] := by
  obtain ⟨hR, ⟨hCK, hVK⟩, ⟨hArr, hKM⟩, ⟨h60, h61, n57, n58, n62, hO, hQ⟩, c5, c1, c6, cK, cq, ct, ce⟩ := id hI
  have hB := hR.1
  refine v_aload_n hC dL_law_1697 rfl ?_
  refine v_aload_n hC dL_law_1698 rfl ?_
  refine v_iload hC dL_law_1699 rfl ?_
  refine v_iconst (v := nI 1) hC dL_law_1701 (by decide) ?_
  refine v_iaddN hC dL_law_1702 ?_
  refine v_scr (x := 6 * i + 1) hC hP dL_law_1703 (by omega) (by omega) ?_
  refine v_aload_n hC dL_law_1704 rfl ?_
  refine v_iload hC dL_law_1705 rfl ?_
  refine v_iconst (v := nI 2) hC dL_law_1707 (by decide) ?_
  refine v_iaddN hC dL_law_1708 ?_
  refine v_scr (x := 6 * i + 2) hC hP dL_law_1709 (by omega) (by omega) ?_
  refine v_aload_n hC dL_law_1710 rfl ?_
  refine v_callSN hC hN lkw_valueByMerges dL_law_1711 (w_valueByMerges hl0 (c_X5_valueByMerges hl0 hO hB (sc (6 * i + 1)) (sc (6 * i + 2))) hO.k0 (fun v μ h => by obtain ⟨r, τ, -, rfl, rfl⟩ := h; exact ⟨⟨r, rfl⟩, h60, rfl⟩) (fun E μ h => hxs_valueByMerges h.1)) (by omega) (by decide) rfl rfl (Nat.le_of_ble_eq_true rfl) (by omega) (by omega) (fun v μ h => ?_)
  have hAG := law_simple hI (fun E => (cdl_valueByMerges E).1) (fun τ hτ => ag_valueByMerges hτ (sc (6 * i + 1)) (sc (6 * i + 2)))
  rcases h with ⟨E, ⟨hE, rfl⟩, rfl⟩ | ⟨n, μ0, ⟨r, s', hr, hn, rfl⟩, rfl, rfl⟩
  · dsimp only
    obtain ⟨g1, g2⟩ := hAG.1 E hE
    have cdE := cdl_valueByMerges E
    refine v_istore hC dL_law_1714 (by decide) ?_
    refine v_aload_n hC dL_law_1716 rfl ?_
    refine v_aload_n hC dL_law_1717 rfl ?_
    refine v_iload hC dL_law_1718 rfl ?_
    refine v_iconst (v := nI 1) hC dL_law_1720 (by decide) ?_
    refine v_iaddN hC dL_law_1721 ?_
    refine v_scr (x := 6 * i + 1) hC hP dL_law_1722 (by omega) (by omega) ?_
    refine v_aload_n hC dL_law_1723 rfl ?_
    refine v_iload hC dL_law_1724 rfl ?_
    refine v_iconst (v := nI 2) hC dL_law_1726 (by decide) ?_
    refine v_iaddN hC dL_law_1727 ?_
    refine v_scr (x := 6 * i + 2) hC hP dL_law_1728 (by omega) (by omega) ?_
    refine v_callV hC lk_L_209 dL_law_1729 (c_X6_valueByMerges (σ := σ) hl0 hQ hB (sc (6 * i + 1)) (sc (6 * i + 2))) (by omega) (by decide) hQ.k30 rfl rfl rfl rfl (Nat.le_of_ble_eq_true rfl) (by omega) (by omega) (fun v μ h => ?_) (fun _ _ h => h.elim)
    rcases h with ⟨k, hk, rfl, rfl⟩ | ⟨r2, τ2, hk, rfl, rfl⟩
    rotate_left
    · rw [g1] at hk
      cases hk
    rw [g1] at hk
    cases hk
    dsimp only
    refine v_istore hC dL_law_1732 (by decide) ?_
    refine v_aload_n hC dL_law_1734 rfl ?_
    refine v_callV_r0 hC lk_L_134 dL_law_1735 (c_X6_thrown hl0 hQ g2.1.1) (by omega) (by decide) hQ.k30 rfl rfl rfl rfl (Nat.le_of_ble_eq_true rfl) (by omega) (by omega) ?_
    rw [show th (th σ 0) (cd_valueByMerges E) 30 0 0 0 = cd_valueByMerges E from up_same _ _ _ _ _ _]
    refine v_iload hC dL_law_1738 rfl ?_
    refine v_icmp_eq (tgt := 1745) hC dL_law_1740 (by decide) (fun _ => ?_) (fun q => absurd rfl q)
    refine v_iload hC dL_law_1745 rfl ?_
    refine v_if_neN (tgt := 1762) hC dL_law_1747 (by decide) (by omega) (fun _ => ?_) (fun q => absurd q cdE.2)
    refine v_goto (tgt := 2247) hC dL_law_1762 (by decide) ?_
    exact v_wide (by omega) (by omega) (v_sub rfl (nx _ _ _ _ _ g2 rfl rfl rfl rfl))
  · dsimp only
    obtain ⟨hBw, hRw, τ9, A9, g1, g2, g3, g4⟩ := hAG.2 r s' hr (wI n) (wI_lt n)
    refine v_istore hC dL_law_1714 (by decide) ?_
    refine v_aload_n hC dL_law_1716 rfl ?_
    refine v_aload_n hC dL_law_1717 rfl ?_
    refine v_iload hC dL_law_1718 rfl ?_
    refine v_iconst (v := nI 1) hC dL_law_1720 (by decide) ?_
    refine v_iaddN hC dL_law_1721 ?_
    refine v_scr (x := 6 * i + 1) hC hP dL_law_1722 (by omega) (by omega) ?_
    refine v_aload_n hC dL_law_1723 rfl ?_
    refine v_iload hC dL_law_1724 rfl ?_
    refine v_iconst (v := nI 2) hC dL_law_1726 (by decide) ?_
    refine v_iaddN hC dL_law_1727 ?_
    refine v_scr (x := 6 * i + 2) hC hP dL_law_1728 (by omega) (by omega) ?_
    refine v_callV hC lk_L_209 dL_law_1729 (c_X6_valueByMerges (σ := (up s' 60 0 0 0 (wI n))) hl0 hQ hBw (sc (6 * i + 1)) (sc (6 * i + 2))) (by omega) (by decide) hQ.k30 rfl rfl rfl rfl (Nat.le_of_ble_eq_true rfl) (by omega) (by omega) (fun v μ h => ?_) (fun _ _ h => h.elim)
    rcases h with ⟨k, hk, rfl, rfl⟩ | ⟨r2, τ2, hk, rfl, rfl⟩
    skip
    · rw [g1] at hk
      cases hk
    rw [g1] at hk
    cases hk
    dsimp only
    refine v_istore hC dL_law_1732 (by decide) ?_
    refine v_aload_n hC dL_law_1734 rfl ?_
    refine v_callV_r0 hC lk_L_134 dL_law_1735 (c_X6_thrown hl0 hQ g2.1.1) (by omega) (by decide) hQ.k30 rfl rfl rfl rfl (Nat.le_of_ble_eq_true rfl) (by omega) (by omega) ?_
    rw [g3]
    refine v_iload hC dL_law_1738 rfl ?_
    refine v_icmp_eq (tgt := 1745) hC dL_law_1740 (by decide) (fun _ => ?_) (fun q => absurd rfl q)
    refine v_iload hC dL_law_1745 rfl ?_
    refine v_if_neN (tgt := 1762) hC dL_law_1747 (by decide) (by decide) (fun q => absurd rfl q) (fun _ => ?_)
    refine v_aload_n hC dL_law_1750 rfl ?_
    refine v_iconst (v := nI 0) hC dL_law_1751 (by decide) ?_
    refine al_60 hC dL_law_1752 h60 (by decide) ?_
    rw [g4, wI_of hn]
    refine v_iload hC dL_law_1753 rfl ?_
    refine v_i2l (v := lN (wI r)) hC dL_law_1755 (lN_wN _).symm ?_
    refine v_lcmp hC dL_law_1756 ?_
    refine v_if_eqJ (tgt := 1762) hC dL_law_1757 (by decide) (wI_lt r) (wI_lt r) (fun _ => ?_) (fun q => absurd rfl q)
    refine v_goto (tgt := 2247) hC dL_law_1762 (by decide) ?_
    exact v_wide (by omega) (by omega) (v_sub rfl (nx _ _ _ _ _ g2 rfl rfl rfl rfl))
theorem cdl_valueWith (E : String) : cd_valueWith E < 5 ∧ cd_valueWith E ≠ 0 := by
  unfold cd_valueWith
  first | (constructor <;> decide) | (repeat' split) <;> (constructor <;> decide)
theorem hxs_valueWith {σ : SG} {a1 : Int32} {a2 : Int32} {a3 : Int32} {E : String} (h : k_valueWith σ a1 a2 a3 = .inl E) : E = eNSE ∨ E = eIOB := by
  have h2 : ON (k_valueWith σ a1 a2 a3) [eNSE, eIOB] := by
    unfold k_valueWith
    repeat (first | exact on_ret | exact on_err (by simp) | refine on_gR (by simp) (fun _ => ?_) | refine on_ite ?_ ?_)
  simpa using h2 E h
set_option maxHeartbeats 4000000 in
set_option maxRecDepth 100000 in
theorem case_valueWith {X : XT} {G : GT} {mc ms K0 S0 p N : Nat} {sc : Nat → Int32} {ok : KF} {ad : AD} {σ : SG} {A : AS} {e i : Nat} (hl0 : (xl X).stackTraces = false) (hC : Cx X G "BranchyardLaw" cL_law 9 16 mc ms) (hN : NC (xs X)) (hP : Scr G (xs X) p N sc) (hNl : N ≤ 3072) (hI : INV G ok ad σ A e i) (hj : 6 * i + 6 ≤ N) (h1 : K0 + 200 * (i + 1) ≤ mc) (h2 : S0 + 3000 * (i + 1) + 4 * 4700 ≤ ms)
    (nx : ∀ ok' ad' σ' A' e', INV G ok' ad' σ' A' e' (i + 1) → ad' 0 0 0 = ad 0 0 0 → ad' 30 0 0 = ad 30 0 0 → ad' 60 0 0 = ad 60 0 0 → ad' 61 0 0 = ad 61 0 0 → V X G (K0 + 200 * (i + 1)) (S0 + 3000 * (i + 1) + 4 * e') ok' ad' σ' [(0, .ref p), (1, .ref (ad 0 0 0)), (2, .ref (ad 30 0 0)), (3, .ref (ad 60 0 0)), (4, .ref (ad 61 0 0)), (5, iv (6 * i))] 2247 []) : V X G (K0 + 200 * i) (S0 + 3000 * i + 4 * e) ok ad σ [(0, .ref p), (1, .ref (ad 0 0 0)), (2, .ref (ad 30 0 0)), (3, .ref (ad 60 0 0)), (4, .ref (ad 61 0 0)), (5, iv (6 * i))] 1765 [] := by
  obtain ⟨hR, ⟨hCK, hVK⟩, ⟨hArr, hKM⟩, ⟨h60, h61, n57, n58, n62, hO, hQ⟩, c5, c1, c6, cK, cq, ct, ce⟩ := id hI
  have hB := hR.1
  refine v_aload_n hC dL_law_1765 rfl ?_
  refine v_aload_n hC dL_law_1766 rfl ?_
  refine v_iload hC dL_law_1767 rfl ?_
  refine v_iconst (v := nI 1) hC dL_law_1769 (by decide) ?_
  refine v_iaddN hC dL_law_1770 ?_
  refine v_scr (x := 6 * i + 1) hC hP dL_law_1771 (by omega) (by omega) ?_
  refine v_aload_n hC dL_law_1772 rfl ?_
  refine v_iload hC dL_law_1773 rfl ?_
  refine v_iconst (v := nI 2) hC dL_law_1775 (by decide) ?_
  refine v_iaddN hC dL_law_1776 ?_
  refine v_scr (x := 6 * i + 2) hC hP dL_law_1777 (by omega) (by omega) ?_
  refine v_aload_n hC dL_law_1778 rfl ?_
  refine v_iload hC dL_law_1779 rfl ?_
  refine v_iconst (v := nI 3) hC dL_law_1781 (by decide) ?_
  refine v_iaddN hC dL_law_1782 ?_
  refine v_scr (x := 6 * i + 3) hC hP dL_law_1783 (by omega) (by omega) ?_
  refine v_aload_n hC dL_law_1784 rfl ?_
  refine v_callSN hC hN lkw_valueWith dL_law_1785 (w_valueWith hl0 (c_X5_valueWith hl0 hO hB (sc (6 * i + 1)) (sc (6 * i + 2)) (sc (6 * i + 3))) hO.k0 (fun v μ h => by obtain ⟨r, τ, -, rfl, rfl⟩ := h; exact ⟨⟨r, rfl⟩, h60, rfl⟩) (fun E μ h => hxs_valueWith h.1)) (by omega) (by decide) rfl rfl (Nat.le_of_ble_eq_true rfl) (by omega) (by omega) (fun v μ h => ?_)
  have hAG := law_simple hI (fun E => (cdl_valueWith E).1) (fun τ hτ => ag_valueWith hτ (sc (6 * i + 1)) (sc (6 * i + 2)) (sc (6 * i + 3)))
  rcases h with ⟨E, ⟨hE, rfl⟩, rfl⟩ | ⟨n, μ0, ⟨r, s', hr, hn, rfl⟩, rfl, rfl⟩
  · dsimp only
    obtain ⟨g1, g2⟩ := hAG.1 E hE
    have cdE := cdl_valueWith E
    refine v_istore hC dL_law_1788 (by decide) ?_
    refine v_aload_n hC dL_law_1790 rfl ?_
    refine v_aload_n hC dL_law_1791 rfl ?_
    refine v_iload hC dL_law_1792 rfl ?_
    refine v_iconst (v := nI 1) hC dL_law_1794 (by decide) ?_
    refine v_iaddN hC dL_law_1795 ?_
    refine v_scr (x := 6 * i + 1) hC hP dL_law_1796 (by omega) (by omega) ?_
    refine v_aload_n hC dL_law_1797 rfl ?_
    refine v_iload hC dL_law_1798 rfl ?_
    refine v_iconst (v := nI 2) hC dL_law_1800 (by decide) ?_
    refine v_iaddN hC dL_law_1801 ?_
    refine v_scr (x := 6 * i + 2) hC hP dL_law_1802 (by omega) (by omega) ?_
    refine v_aload_n hC dL_law_1803 rfl ?_
    refine v_iload hC dL_law_1804 rfl ?_
    refine v_iconst (v := nI 3) hC dL_law_1806 (by decide) ?_
    refine v_iaddN hC dL_law_1807 ?_
    refine v_scr (x := 6 * i + 3) hC hP dL_law_1808 (by omega) (by omega) ?_
    refine v_callV hC lk_L_212 dL_law_1809 (c_X6_valueWith (σ := σ) hl0 hQ hB (sc (6 * i + 1)) (sc (6 * i + 2)) (sc (6 * i + 3))) (by omega) (by decide) hQ.k30 rfl rfl rfl rfl (Nat.le_of_ble_eq_true rfl) (by omega) (by omega) (fun v μ h => ?_) (fun _ _ h => h.elim)
    rcases h with ⟨k, hk, rfl, rfl⟩ | ⟨r2, τ2, hk, rfl, rfl⟩
    rotate_left
    · rw [g1] at hk
      cases hk
    rw [g1] at hk
    cases hk
    dsimp only
    refine v_istore hC dL_law_1812 (by decide) ?_
    refine v_aload_n hC dL_law_1814 rfl ?_
    refine v_callV_r0 hC lk_L_134 dL_law_1815 (c_X6_thrown hl0 hQ g2.1.1) (by omega) (by decide) hQ.k30 rfl rfl rfl rfl (Nat.le_of_ble_eq_true rfl) (by omega) (by omega) ?_
    rw [show th (th σ 0) (cd_valueWith E) 30 0 0 0 = cd_valueWith E from up_same _ _ _ _ _ _]
    refine v_iload hC dL_law_1818 rfl ?_
    refine v_icmp_eq (tgt := 1825) hC dL_law_1820 (by decide) (fun _ => ?_) (fun q => absurd rfl q)
    refine v_iload hC dL_law_1825 rfl ?_
    refine v_if_neN (tgt := 1842) hC dL_law_1827 (by decide) (by omega) (fun _ => ?_) (fun q => absurd q cdE.2)
    refine v_goto (tgt := 2247) hC dL_law_1842 (by decide) ?_
    exact v_wide (by omega) (by omega) (v_sub rfl (nx _ _ _ _ _ g2 rfl rfl rfl rfl))
  · dsimp only
    obtain ⟨hBw, hRw, τ9, A9, g1, g2, g3, g4⟩ := hAG.2 r s' hr (wI n) (wI_lt n)
    refine v_istore hC dL_law_1788 (by decide) ?_
    refine v_aload_n hC dL_law_1790 rfl ?_
    refine v_aload_n hC dL_law_1791 rfl ?_
    refine v_iload hC dL_law_1792 rfl ?_
    refine v_iconst (v := nI 1) hC dL_law_1794 (by decide) ?_
    refine v_iaddN hC dL_law_1795 ?_
    refine v_scr (x := 6 * i + 1) hC hP dL_law_1796 (by omega) (by omega) ?_
    refine v_aload_n hC dL_law_1797 rfl ?_
    refine v_iload hC dL_law_1798 rfl ?_
    refine v_iconst (v := nI 2) hC dL_law_1800 (by decide) ?_
    refine v_iaddN hC dL_law_1801 ?_
    refine v_scr (x := 6 * i + 2) hC hP dL_law_1802 (by omega) (by omega) ?_
    refine v_aload_n hC dL_law_1803 rfl ?_
    refine v_iload hC dL_law_1804 rfl ?_
    refine v_iconst (v := nI 3) hC dL_law_1806 (by decide) ?_
    refine v_iaddN hC dL_law_1807 ?_
    refine v_scr (x := 6 * i + 3) hC hP dL_law_1808 (by omega) (by omega) ?_
    refine v_callV hC lk_L_212 dL_law_1809 (c_X6_valueWith (σ := (up s' 60 0 0 0 (wI n))) hl0 hQ hBw (sc (6 * i + 1)) (sc (6 * i + 2)) (sc (6 * i + 3))) (by omega) (by decide) hQ.k30 rfl rfl rfl rfl (Nat.le_of_ble_eq_true rfl) (by omega) (by omega) (fun v μ h => ?_) (fun _ _ h => h.elim)
    rcases h with ⟨k, hk, rfl, rfl⟩ | ⟨r2, τ2, hk, rfl, rfl⟩
    skip
    · rw [g1] at hk
      cases hk
    rw [g1] at hk
    cases hk
    dsimp only
    refine v_istore hC dL_law_1812 (by decide) ?_
    refine v_aload_n hC dL_law_1814 rfl ?_
    refine v_callV_r0 hC lk_L_134 dL_law_1815 (c_X6_thrown hl0 hQ g2.1.1) (by omega) (by decide) hQ.k30 rfl rfl rfl rfl (Nat.le_of_ble_eq_true rfl) (by omega) (by omega) ?_
    rw [g3]
    refine v_iload hC dL_law_1818 rfl ?_
    refine v_icmp_eq (tgt := 1825) hC dL_law_1820 (by decide) (fun _ => ?_) (fun q => absurd rfl q)
    refine v_iload hC dL_law_1825 rfl ?_
    refine v_if_neN (tgt := 1842) hC dL_law_1827 (by decide) (by decide) (fun q => absurd rfl q) (fun _ => ?_)
    refine v_aload_n hC dL_law_1830 rfl ?_
    refine v_iconst (v := nI 0) hC dL_law_1831 (by decide) ?_
    refine al_60 hC dL_law_1832 h60 (by decide) ?_
    rw [g4, wI_of hn]
    refine v_iload hC dL_law_1833 rfl ?_
    refine v_i2l (v := lN (wI r)) hC dL_law_1835 (lN_wN _).symm ?_
    refine v_lcmp hC dL_law_1836 ?_
    refine v_if_eqJ (tgt := 1842) hC dL_law_1837 (by decide) (wI_lt r) (wI_lt r) (fun _ => ?_) (fun q => absurd rfl q)
    refine v_goto (tgt := 2247) hC dL_law_1842 (by decide) ?_
    exact v_wide (by omega) (by omega) (v_sub rfl (nx _ _ _ _ _ g2 rfl rfl rfl rfl))
theorem cdl_mergedAt (E : String) : cd_mergedAt E < 5 ∧ cd_mergedAt E ≠ 0 := by
  unfold cd_mergedAt
  first | (constructor <;> decide) | (repeat' split) <;> (constructor <;> decide)
theorem hxs_mergedAt {σ : SG} {a1 : Int32} {E : String} (h : k_mergedAt σ a1 = .inl E) : E = eIOB := by
  have h2 : ON (k_mergedAt σ a1) [eIOB] := by
    unfold k_mergedAt
    repeat (first | exact on_ret | exact on_err (by simp) | refine on_gR (by simp) (fun _ => ?_) | refine on_ite ?_ ?_)
  simpa using h2 E h
set_option maxHeartbeats 4000000 in
set_option maxRecDepth 100000 in
theorem case_mergedAt {X : XT} {G : GT} {mc ms K0 S0 p N : Nat} {sc : Nat → Int32} {ok : KF} {ad : AD} {σ : SG} {A : AS} {e i : Nat} (hl0 : (xl X).stackTraces = false) (hC : Cx X G "BranchyardLaw" cL_law 9 16 mc ms) (hN : NC (xs X)) (hP : Scr G (xs X) p N sc) (hNl : N ≤ 3072) (hI : INV G ok ad σ A e i) (hj : 6 * i + 6 ≤ N) (h1 : K0 + 200 * (i + 1) ≤ mc) (h2 : S0 + 3000 * (i + 1) + 4 * 4700 ≤ ms)
    (nx : ∀ ok' ad' σ' A' e', INV G ok' ad' σ' A' e' (i + 1) → ad' 0 0 0 = ad 0 0 0 → ad' 30 0 0 = ad 30 0 0 → ad' 60 0 0 = ad 60 0 0 → ad' 61 0 0 = ad 61 0 0 → V X G (K0 + 200 * (i + 1)) (S0 + 3000 * (i + 1) + 4 * e') ok' ad' σ' [(0, .ref p), (1, .ref (ad 0 0 0)), (2, .ref (ad 30 0 0)), (3, .ref (ad 60 0 0)), (4, .ref (ad 61 0 0)), (5, iv (6 * i))] 2247 []) : V X G (K0 + 200 * i) (S0 + 3000 * i + 4 * e) ok ad σ [(0, .ref p), (1, .ref (ad 0 0 0)), (2, .ref (ad 30 0 0)), (3, .ref (ad 60 0 0)), (4, .ref (ad 61 0 0)), (5, iv (6 * i))] 1957 [] := by
  obtain ⟨hR, ⟨hCK, hVK⟩, ⟨hArr, hKM⟩, ⟨h60, h61, n57, n58, n62, hO, hQ⟩, c5, c1, c6, cK, cq, ct, ce⟩ := id hI
  have hB := hR.1
  refine v_aload_n hC dL_law_1957 rfl ?_
  refine v_aload_n hC dL_law_1958 rfl ?_
  refine v_iload hC dL_law_1959 rfl ?_
  refine v_iconst (v := nI 1) hC dL_law_1961 (by decide) ?_
  refine v_iaddN hC dL_law_1962 ?_
  refine v_scr (x := 6 * i + 1) hC hP dL_law_1963 (by omega) (by omega) ?_
  refine v_aload_n hC dL_law_1964 rfl ?_
  refine v_callSN hC hN lkw_mergedAt dL_law_1965 (w_mergedAt hl0 (c_X5_mergedAt hl0 hO hB (sc (6 * i + 1))) hO.k0 (fun v μ h => by obtain ⟨r, τ, -, rfl, rfl⟩ := h; exact ⟨⟨r, rfl⟩, h60, rfl⟩) (fun E μ h => hxs_mergedAt h.1)) (by omega) (by decide) rfl rfl (Nat.le_of_ble_eq_true rfl) (by omega) (by omega) (fun v μ h => ?_)
  have hAG := law_simple hI (fun E => (cdl_mergedAt E).1) (fun τ hτ => ag_mergedAt hτ (sc (6 * i + 1)))
  rcases h with ⟨E, ⟨hE, rfl⟩, rfl⟩ | ⟨n, μ0, ⟨r, s', hr, hn, rfl⟩, rfl, rfl⟩
  · dsimp only
    obtain ⟨g1, g2⟩ := hAG.1 E hE
    have cdE := cdl_mergedAt E
    refine v_istore hC dL_law_1968 (by decide) ?_
    refine v_aload_n hC dL_law_1970 rfl ?_
    refine v_aload_n hC dL_law_1971 rfl ?_
    refine v_iload hC dL_law_1972 rfl ?_
    refine v_iconst (v := nI 1) hC dL_law_1974 (by decide) ?_
    refine v_iaddN hC dL_law_1975 ?_
    refine v_scr (x := 6 * i + 1) hC hP dL_law_1976 (by omega) (by omega) ?_
    refine v_callV hC lk_L_221 dL_law_1977 (c_X6_mergedAt (σ := σ) hl0 hQ hB (sc (6 * i + 1))) (by omega) (by decide) hQ.k30 rfl rfl rfl rfl (Nat.le_of_ble_eq_true rfl) (by omega) (by omega) (fun v μ h => ?_) (fun _ _ h => h.elim)
    rcases h with ⟨k, hk, rfl, rfl⟩ | ⟨r2, τ2, hk, rfl, rfl⟩
    rotate_left
    · rw [g1] at hk
      cases hk
    rw [g1] at hk
    cases hk
    dsimp only
    refine v_istore hC dL_law_1980 (by decide) ?_
    refine v_aload_n hC dL_law_1982 rfl ?_
    refine v_callV_r0 hC lk_L_134 dL_law_1983 (c_X6_thrown hl0 hQ g2.1.1) (by omega) (by decide) hQ.k30 rfl rfl rfl rfl (Nat.le_of_ble_eq_true rfl) (by omega) (by omega) ?_
    rw [show th (th σ 0) (cd_mergedAt E) 30 0 0 0 = cd_mergedAt E from up_same _ _ _ _ _ _]
    refine v_iload hC dL_law_1986 rfl ?_
    refine v_icmp_eq (tgt := 1993) hC dL_law_1988 (by decide) (fun _ => ?_) (fun q => absurd rfl q)
    refine v_iload hC dL_law_1993 rfl ?_
    refine v_if_neN (tgt := 2010) hC dL_law_1995 (by decide) (by omega) (fun _ => ?_) (fun q => absurd q cdE.2)
    refine v_goto (tgt := 2247) hC dL_law_2010 (by decide) ?_
    exact v_wide (by omega) (by omega) (v_sub rfl (nx _ _ _ _ _ g2 rfl rfl rfl rfl))
  · dsimp only
    obtain ⟨hBw, hRw, τ9, A9, g1, g2, g3, g4⟩ := hAG.2 r s' hr (wI n) (wI_lt n)
    refine v_istore hC dL_law_1968 (by decide) ?_
    refine v_aload_n hC dL_law_1970 rfl ?_
    refine v_aload_n hC dL_law_1971 rfl ?_
    refine v_iload hC dL_law_1972 rfl ?_
    refine v_iconst (v := nI 1) hC dL_law_1974 (by decide) ?_
    refine v_iaddN hC dL_law_1975 ?_
    refine v_scr (x := 6 * i + 1) hC hP dL_law_1976 (by omega) (by omega) ?_
    refine v_callV hC lk_L_221 dL_law_1977 (c_X6_mergedAt (σ := (up s' 60 0 0 0 (wI n))) hl0 hQ hBw (sc (6 * i + 1))) (by omega) (by decide) hQ.k30 rfl rfl rfl rfl (Nat.le_of_ble_eq_true rfl) (by omega) (by omega) (fun v μ h => ?_) (fun _ _ h => h.elim)
    rcases h with ⟨k, hk, rfl, rfl⟩ | ⟨r2, τ2, hk, rfl, rfl⟩
    skip
    · rw [g1] at hk
      cases hk
    rw [g1] at hk
    cases hk
    dsimp only
    refine v_istore hC dL_law_1980 (by decide) ?_
    refine v_aload_n hC dL_law_1982 rfl ?_
    refine v_callV_r0 hC lk_L_134 dL_law_1983 (c_X6_thrown hl0 hQ g2.1.1) (by omega) (by decide) hQ.k30 rfl rfl rfl rfl (Nat.le_of_ble_eq_true rfl) (by omega) (by omega) ?_
    rw [g3]
    refine v_iload hC dL_law_1986 rfl ?_
    refine v_icmp_eq (tgt := 1993) hC dL_law_1988 (by decide) (fun _ => ?_) (fun q => absurd rfl q)
    refine v_iload hC dL_law_1993 rfl ?_
    refine v_if_neN (tgt := 2010) hC dL_law_1995 (by decide) (by decide) (fun q => absurd rfl q) (fun _ => ?_)
    refine v_aload_n hC dL_law_1998 rfl ?_
    refine v_iconst (v := nI 0) hC dL_law_1999 (by decide) ?_
    refine al_60 hC dL_law_2000 h60 (by decide) ?_
    rw [g4, wI_of hn]
    refine v_iload hC dL_law_2001 rfl ?_
    refine v_i2l (v := lN (wI r)) hC dL_law_2003 (lN_wN _).symm ?_
    refine v_lcmp hC dL_law_2004 ?_
    refine v_if_eqJ (tgt := 2010) hC dL_law_2005 (by decide) (wI_lt r) (wI_lt r) (fun _ => ?_) (fun q => absurd rfl q)
    refine v_goto (tgt := 2247) hC dL_law_2010 (by decide) ?_
    exact v_wide (by omega) (by omega) (v_sub rfl (nx _ _ _ _ _ g2 rfl rfl rfl rfl))
theorem cdl_queue (E : String) : cd_queue E < 5 ∧ cd_queue E ≠ 0 := by
  unfold cd_queue
  first | (constructor <;> decide) | (repeat' split) <;> (constructor <;> decide)
theorem hxs_queue {σ : SG} {a1 : Int32} {E : String} (h : k_queue σ a1 = .inl E) : E = eNSE ∨ E = eISE ∨ E = eUOE := by
  have h2 : ON (k_queue σ a1) [eNSE, eISE, eUOE] := by
    unfold k_queue
    repeat (first | exact on_ret | exact on_err (by simp) | refine on_gR (by simp) (fun _ => ?_) | refine on_ite ?_ ?_)
  simpa using h2 E h
set_option maxHeartbeats 4000000 in
set_option maxRecDepth 100000 in
theorem case_queue {X : XT} {G : GT} {mc ms K0 S0 p N : Nat} {sc : Nat → Int32} {ok : KF} {ad : AD} {σ : SG} {A : AS} {e i : Nat} (hl0 : (xl X).stackTraces = false) (hC : Cx X G "BranchyardLaw" cL_law 9 16 mc ms) (hN : NC (xs X)) (hP : Scr G (xs X) p N sc) (hNl : N ≤ 3072) (hI : INV G ok ad σ A e i) (hj : 6 * i + 6 ≤ N) (h1 : K0 + 200 * (i + 1) ≤ mc) (h2 : S0 + 3000 * (i + 1) + 4 * 4700 ≤ ms)
    (nx : ∀ ok' ad' σ' A' e', INV G ok' ad' σ' A' e' (i + 1) → ad' 0 0 0 = ad 0 0 0 → ad' 30 0 0 = ad 30 0 0 → ad' 60 0 0 = ad 60 0 0 → ad' 61 0 0 = ad 61 0 0 → V X G (K0 + 200 * (i + 1)) (S0 + 3000 * (i + 1) + 4 * e') ok' ad' σ' [(0, .ref p), (1, .ref (ad 0 0 0)), (2, .ref (ad 30 0 0)), (3, .ref (ad 60 0 0)), (4, .ref (ad 61 0 0)), (5, iv (6 * i))] 2247 []) : V X G (K0 + 200 * i) (S0 + 3000 * i + 4 * e) ok ad σ [(0, .ref p), (1, .ref (ad 0 0 0)), (2, .ref (ad 30 0 0)), (3, .ref (ad 60 0 0)), (4, .ref (ad 61 0 0)), (5, iv (6 * i))] 935 [] := by
  obtain ⟨hR, ⟨hCK, hVK⟩, ⟨hArr, hKM⟩, ⟨h60, h61, n57, n58, n62, hO, hQ⟩, c5, c1, c6, cK, cq, ct, ce⟩ := id hI
  have hB := hR.1
  refine v_aload_n hC dL_law_935 rfl ?_
  refine v_aload_n hC dL_law_936 rfl ?_
  refine v_iload hC dL_law_937 rfl ?_
  refine v_iconst (v := nI 1) hC dL_law_939 (by decide) ?_
  refine v_iaddN hC dL_law_940 ?_
  refine v_scr (x := 6 * i + 1) hC hP dL_law_941 (by omega) (by omega) ?_
  refine v_aload_n hC dL_law_942 rfl ?_
  refine v_callSN hC hN lkw_queue dL_law_943 (w_queue hl0 (c_X5_queue hl0 hO hB (sc (6 * i + 1)) hR.qs) hO.k0 (fun v μ h => by obtain ⟨r, τ, -, rfl, rfl⟩ := h; exact ⟨⟨r, rfl⟩, h60, rfl⟩) (fun E μ h => hxs_queue h.1)) (by omega) (by decide) rfl rfl (Nat.le_of_ble_eq_true rfl) (by omega) (by omega) (fun v μ h => ?_)
  have hAG := law_simple hI (fun E => (cdl_queue E).1) (fun τ hτ => ag_queue hτ (sc (6 * i + 1)))
  rcases h with ⟨E, ⟨hE, rfl⟩, rfl⟩ | ⟨n, μ0, ⟨r, s', hr, hn, rfl⟩, rfl, rfl⟩
  · dsimp only
    obtain ⟨g1, g2⟩ := hAG.1 E hE
    have cdE := cdl_queue E
    refine v_istore hC dL_law_946 (by decide) ?_
    refine v_aload_n hC dL_law_948 rfl ?_
    refine v_aload_n hC dL_law_949 rfl ?_
    refine v_iload hC dL_law_950 rfl ?_
    refine v_iconst (v := nI 1) hC dL_law_952 (by decide) ?_
    refine v_iaddN hC dL_law_953 ?_
    refine v_scr (x := 6 * i + 1) hC hP dL_law_954 (by omega) (by omega) ?_
    refine v_callV hC lk_L_171 dL_law_955 (c_X6_queue (σ := σ) hl0 hQ hB (sc (6 * i + 1)) hR.qm) (by omega) (by decide) hQ.k30 rfl rfl rfl rfl (Nat.le_of_ble_eq_true rfl) (by omega) (by omega) (fun v μ h => ?_) (fun _ _ h => h.elim)
    rcases h with ⟨k, hk, rfl, rfl⟩ | ⟨r2, τ2, hk, rfl, rfl⟩
    rotate_left
    · rw [g1] at hk
      cases hk
    rw [g1] at hk
    cases hk
    dsimp only
    refine v_istore hC dL_law_958 (by decide) ?_
    refine v_aload_n hC dL_law_960 rfl ?_
    refine v_callV_r0 hC lk_L_134 dL_law_961 (c_X6_thrown hl0 hQ g2.1.1) (by omega) (by decide) hQ.k30 rfl rfl rfl rfl (Nat.le_of_ble_eq_true rfl) (by omega) (by omega) ?_
    rw [show th (th σ 0) (cd_queue E) 30 0 0 0 = cd_queue E from up_same _ _ _ _ _ _]
    refine v_iload hC dL_law_964 rfl ?_
    refine v_icmp_eq (tgt := 971) hC dL_law_966 (by decide) (fun _ => ?_) (fun q => absurd rfl q)
    refine v_iload hC dL_law_971 rfl ?_
    refine v_if_neN (tgt := 988) hC dL_law_973 (by decide) (by omega) (fun _ => ?_) (fun q => absurd q cdE.2)
    refine v_goto (tgt := 2247) hC dL_law_988 (by decide) ?_
    exact v_wide (by omega) (by omega) (v_sub rfl (nx _ _ _ _ _ g2 rfl rfl rfl rfl))
  · dsimp only
    obtain ⟨hBw, hRw, τ9, A9, g1, g2, g3, g4⟩ := hAG.2 r s' hr (wI n) (wI_lt n)
    refine v_istore hC dL_law_946 (by decide) ?_
    refine v_aload_n hC dL_law_948 rfl ?_
    refine v_aload_n hC dL_law_949 rfl ?_
    refine v_iload hC dL_law_950 rfl ?_
    refine v_iconst (v := nI 1) hC dL_law_952 (by decide) ?_
    refine v_iaddN hC dL_law_953 ?_
    refine v_scr (x := 6 * i + 1) hC hP dL_law_954 (by omega) (by omega) ?_
    refine v_callV hC lk_L_171 dL_law_955 (c_X6_queue (σ := (up s' 60 0 0 0 (wI n))) hl0 hQ hBw (sc (6 * i + 1)) hRw.qm) (by omega) (by decide) hQ.k30 rfl rfl rfl rfl (Nat.le_of_ble_eq_true rfl) (by omega) (by omega) (fun v μ h => ?_) (fun _ _ h => h.elim)
    rcases h with ⟨k, hk, rfl, rfl⟩ | ⟨r2, τ2, hk, rfl, rfl⟩
    skip
    · rw [g1] at hk
      cases hk
    rw [g1] at hk
    cases hk
    dsimp only
    refine v_istore hC dL_law_958 (by decide) ?_
    refine v_aload_n hC dL_law_960 rfl ?_
    refine v_callV_r0 hC lk_L_134 dL_law_961 (c_X6_thrown hl0 hQ g2.1.1) (by omega) (by decide) hQ.k30 rfl rfl rfl rfl (Nat.le_of_ble_eq_true rfl) (by omega) (by omega) ?_
    rw [g3]
    refine v_iload hC dL_law_964 rfl ?_
    refine v_icmp_eq (tgt := 971) hC dL_law_966 (by decide) (fun _ => ?_) (fun q => absurd rfl q)
    refine v_iload hC dL_law_971 rfl ?_
    refine v_if_neN (tgt := 988) hC dL_law_973 (by decide) (by decide) (fun q => absurd rfl q) (fun _ => ?_)
    refine v_aload_n hC dL_law_976 rfl ?_
    refine v_iconst (v := nI 0) hC dL_law_977 (by decide) ?_
    refine al_60 hC dL_law_978 h60 (by decide) ?_
    rw [g4, wI_of hn]
    refine v_iload hC dL_law_979 rfl ?_
    refine v_i2l (v := lN (wI r)) hC dL_law_981 (lN_wN _).symm ?_
    refine v_lcmp hC dL_law_982 ?_
    refine v_if_eqJ (tgt := 988) hC dL_law_983 (by decide) (wI_lt r) (wI_lt r) (fun _ => ?_) (fun q => absurd rfl q)
    refine v_goto (tgt := 2247) hC dL_law_988 (by decide) ?_
    exact v_wide (by omega) (by omega) (v_sub rfl (nx _ _ _ _ _ g2 rfl rfl rfl rfl))
theorem cdl_unqueue (E : String) : cd_unqueue E < 5 ∧ cd_unqueue E ≠ 0 := by
  unfold cd_unqueue
  first | (constructor <;> decide) | (repeat' split) <;> (constructor <;> decide)
theorem hxs_unqueue {σ : SG} {a1 : Int32} {E : String} (h : k_unqueue σ a1 = .inl E) : E = eNSE ∨ E = eISE := by
  have h2 : ON (k_unqueue σ a1) [eNSE, eISE] := by
    unfold k_unqueue
    repeat (first | exact on_ret | exact on_err (by simp) | refine on_gR (by simp) (fun _ => ?_) | refine on_ite ?_ ?_)
  simpa using h2 E h
set_option maxHeartbeats 4000000 in
set_option maxRecDepth 100000 in
theorem case_unqueue {X : XT} {G : GT} {mc ms K0 S0 p N : Nat} {sc : Nat → Int32} {ok : KF} {ad : AD} {σ : SG} {A : AS} {e i : Nat} (hl0 : (xl X).stackTraces = false) (hC : Cx X G "BranchyardLaw" cL_law 9 16 mc ms) (hN : NC (xs X)) (hP : Scr G (xs X) p N sc) (hNl : N ≤ 3072) (hI : INV G ok ad σ A e i) (hj : 6 * i + 6 ≤ N) (h1 : K0 + 200 * (i + 1) ≤ mc) (h2 : S0 + 3000 * (i + 1) + 4 * 4700 ≤ ms)
    (nx : ∀ ok' ad' σ' A' e', INV G ok' ad' σ' A' e' (i + 1) → ad' 0 0 0 = ad 0 0 0 → ad' 30 0 0 = ad 30 0 0 → ad' 60 0 0 = ad 60 0 0 → ad' 61 0 0 = ad 61 0 0 → V X G (K0 + 200 * (i + 1)) (S0 + 3000 * (i + 1) + 4 * e') ok' ad' σ' [(0, .ref p), (1, .ref (ad 0 0 0)), (2, .ref (ad 30 0 0)), (3, .ref (ad 60 0 0)), (4, .ref (ad 61 0 0)), (5, iv (6 * i))] 2247 []) : V X G (K0 + 200 * i) (S0 + 3000 * i + 4 * e) ok ad σ [(0, .ref p), (1, .ref (ad 0 0 0)), (2, .ref (ad 30 0 0)), (3, .ref (ad 60 0 0)), (4, .ref (ad 61 0 0)), (5, iv (6 * i))] 991 [] := by
  obtain ⟨hR, ⟨hCK, hVK⟩, ⟨hArr, hKM⟩, ⟨h60, h61, n57, n58, n62, hO, hQ⟩, c5, c1, c6, cK, cq, ct, ce⟩ := id hI
  have hB := hR.1
  refine v_aload_n hC dL_law_991 rfl ?_
  refine v_aload_n hC dL_law_992 rfl ?_
  refine v_iload hC dL_law_993 rfl ?_
  refine v_iconst (v := nI 1) hC dL_law_995 (by decide) ?_
  refine v_iaddN hC dL_law_996 ?_
  refine v_scr (x := 6 * i + 1) hC hP dL_law_997 (by omega) (by omega) ?_
  refine v_aload_n hC dL_law_998 rfl ?_
  refine v_callSN hC hN lkw_unqueue dL_law_999 (w_unqueue hl0 (c_X5_unqueue hl0 hO hB (sc (6 * i + 1))) hO.k0 (fun v μ h => by obtain ⟨r, τ, -, rfl, rfl⟩ := h; exact ⟨⟨r, rfl⟩, h60, rfl⟩) (fun E μ h => hxs_unqueue h.1)) (by omega) (by decide) rfl rfl (Nat.le_of_ble_eq_true rfl) (by omega) (by omega) (fun v μ h => ?_)
  have hAG := law_simple hI (fun E => (cdl_unqueue E).1) (fun τ hτ => ag_unqueue hτ (sc (6 * i + 1)))
  rcases h with ⟨E, ⟨hE, rfl⟩, rfl⟩ | ⟨n, μ0, ⟨r, s', hr, hn, rfl⟩, rfl, rfl⟩
  · dsimp only
    obtain ⟨g1, g2⟩ := hAG.1 E hE
    have cdE := cdl_unqueue E
    refine v_istore hC dL_law_1002 (by decide) ?_
    refine v_aload_n hC dL_law_1004 rfl ?_
    refine v_aload_n hC dL_law_1005 rfl ?_
    refine v_iload hC dL_law_1006 rfl ?_
    refine v_iconst (v := nI 1) hC dL_law_1008 (by decide) ?_
    refine v_iaddN hC dL_law_1009 ?_
    refine v_scr (x := 6 * i + 1) hC hP dL_law_1010 (by omega) (by omega) ?_
    refine v_callV hC lk_L_174 dL_law_1011 (c_X6_unqueue (σ := σ) hl0 hQ hB (sc (6 * i + 1)) hR.um) (by omega) (by decide) hQ.k30 rfl rfl rfl rfl (Nat.le_of_ble_eq_true rfl) (by omega) (by omega) (fun v μ h => ?_) (fun _ _ h => h.elim)
    rcases h with ⟨k, hk, rfl, rfl⟩ | ⟨r2, τ2, hk, rfl, rfl⟩
    rotate_left
    · rw [g1] at hk
      cases hk
    rw [g1] at hk
    cases hk
    dsimp only
    refine v_istore hC dL_law_1014 (by decide) ?_
    refine v_aload_n hC dL_law_1016 rfl ?_
    refine v_callV_r0 hC lk_L_134 dL_law_1017 (c_X6_thrown hl0 hQ g2.1.1) (by omega) (by decide) hQ.k30 rfl rfl rfl rfl (Nat.le_of_ble_eq_true rfl) (by omega) (by omega) ?_
    rw [show th (th σ 0) (cd_unqueue E) 30 0 0 0 = cd_unqueue E from up_same _ _ _ _ _ _]
    refine v_iload hC dL_law_1020 rfl ?_
    refine v_icmp_eq (tgt := 1027) hC dL_law_1022 (by decide) (fun _ => ?_) (fun q => absurd rfl q)
    refine v_iload hC dL_law_1027 rfl ?_
    refine v_if_neN (tgt := 1044) hC dL_law_1029 (by decide) (by omega) (fun _ => ?_) (fun q => absurd q cdE.2)
    refine v_goto (tgt := 2247) hC dL_law_1044 (by decide) ?_
    exact v_wide (by omega) (by omega) (v_sub rfl (nx _ _ _ _ _ g2 rfl rfl rfl rfl))
  · dsimp only
    obtain ⟨hBw, hRw, τ9, A9, g1, g2, g3, g4⟩ := hAG.2 r s' hr (wI n) (wI_lt n)
    refine v_istore hC dL_law_1002 (by decide) ?_
    refine v_aload_n hC dL_law_1004 rfl ?_
    refine v_aload_n hC dL_law_1005 rfl ?_
    refine v_iload hC dL_law_1006 rfl ?_
    refine v_iconst (v := nI 1) hC dL_law_1008 (by decide) ?_
    refine v_iaddN hC dL_law_1009 ?_
    refine v_scr (x := 6 * i + 1) hC hP dL_law_1010 (by omega) (by omega) ?_
    refine v_callV hC lk_L_174 dL_law_1011 (c_X6_unqueue (σ := (up s' 60 0 0 0 (wI n))) hl0 hQ hBw (sc (6 * i + 1)) hRw.um) (by omega) (by decide) hQ.k30 rfl rfl rfl rfl (Nat.le_of_ble_eq_true rfl) (by omega) (by omega) (fun v μ h => ?_) (fun _ _ h => h.elim)
    rcases h with ⟨k, hk, rfl, rfl⟩ | ⟨r2, τ2, hk, rfl, rfl⟩
    skip
    · rw [g1] at hk
      cases hk
    rw [g1] at hk
    cases hk
    dsimp only
    refine v_istore hC dL_law_1014 (by decide) ?_
    refine v_aload_n hC dL_law_1016 rfl ?_
    refine v_callV_r0 hC lk_L_134 dL_law_1017 (c_X6_thrown hl0 hQ g2.1.1) (by omega) (by decide) hQ.k30 rfl rfl rfl rfl (Nat.le_of_ble_eq_true rfl) (by omega) (by omega) ?_
    rw [g3]
    refine v_iload hC dL_law_1020 rfl ?_
    refine v_icmp_eq (tgt := 1027) hC dL_law_1022 (by decide) (fun _ => ?_) (fun q => absurd rfl q)
    refine v_iload hC dL_law_1027 rfl ?_
    refine v_if_neN (tgt := 1044) hC dL_law_1029 (by decide) (by decide) (fun q => absurd rfl q) (fun _ => ?_)
    refine v_aload_n hC dL_law_1032 rfl ?_
    refine v_iconst (v := nI 0) hC dL_law_1033 (by decide) ?_
    refine al_60 hC dL_law_1034 h60 (by decide) ?_
    rw [g4, wI_of hn]
    refine v_iload hC dL_law_1035 rfl ?_
    refine v_i2l (v := lN (wI r)) hC dL_law_1037 (lN_wN _).symm ?_
    refine v_lcmp hC dL_law_1038 ?_
    refine v_if_eqJ (tgt := 1044) hC dL_law_1039 (by decide) (wI_lt r) (wI_lt r) (fun _ => ?_) (fun q => absurd rfl q)
    refine v_goto (tgt := 2247) hC dL_law_1044 (by decide) ?_
    exact v_wide (by omega) (by omega) (v_sub rfl (nx _ _ _ _ _ g2 rfl rfl rfl rfl))
theorem cdl_setAway (E : String) : cd_setAway E < 5 ∧ cd_setAway E ≠ 0 := by
  unfold cd_setAway
  first | (constructor <;> decide) | (repeat' split) <;> (constructor <;> decide)
theorem hxs_setAway {σ : SG} {a1 : Int32} {a2 : Nat} {E : String} (h : k_setAway σ a1 a2 = .inl E) : E = eIAE := by
  have h2 : ON (k_setAway σ a1 a2) [eIAE] := by
    unfold k_setAway
    repeat (first | exact on_ret | exact on_err (by simp) | refine on_gR (by simp) (fun _ => ?_) | refine on_ite ?_ ?_)
  simpa using h2 E h
set_option maxHeartbeats 4000000 in
set_option maxRecDepth 100000 in
theorem case_setAway {X : XT} {G : GT} {mc ms K0 S0 p N : Nat} {sc : Nat → Int32} {ok : KF} {ad : AD} {σ : SG} {A : AS} {e i : Nat} (hl0 : (xl X).stackTraces = false) (hC : Cx X G "BranchyardLaw" cL_law 9 16 mc ms) (hN : NC (xs X)) (hP : Scr G (xs X) p N sc) (hNl : N ≤ 3072) (hI : INV G ok ad σ A e i) (hj : 6 * i + 6 ≤ N) (h1 : K0 + 200 * (i + 1) ≤ mc) (h2 : S0 + 3000 * (i + 1) + 4 * 4700 ≤ ms)
    (nx : ∀ ok' ad' σ' A' e', INV G ok' ad' σ' A' e' (i + 1) → ad' 0 0 0 = ad 0 0 0 → ad' 30 0 0 = ad 30 0 0 → ad' 60 0 0 = ad 60 0 0 → ad' 61 0 0 = ad 61 0 0 → V X G (K0 + 200 * (i + 1)) (S0 + 3000 * (i + 1) + 4 * e') ok' ad' σ' [(0, .ref p), (1, .ref (ad 0 0 0)), (2, .ref (ad 30 0 0)), (3, .ref (ad 60 0 0)), (4, .ref (ad 61 0 0)), (5, iv (6 * i))] 2247 []) : V X G (K0 + 200 * i) (S0 + 3000 * i + 4 * e) ok ad σ [(0, .ref p), (1, .ref (ad 0 0 0)), (2, .ref (ad 30 0 0)), (3, .ref (ad 60 0 0)), (4, .ref (ad 61 0 0)), (5, iv (6 * i))] 272 [] := by
  obtain ⟨hR, ⟨hCK, hVK⟩, ⟨hArr, hKM⟩, ⟨h60, h61, n57, n58, n62, hO, hQ⟩, c5, c1, c6, cK, cq, ct, ce⟩ := id hI
  have hB := hR.1
  refine v_aload_n hC dL_law_272 rfl ?_
  refine v_aload_n hC dL_law_273 rfl ?_
  refine v_iload hC dL_law_274 rfl ?_
  refine v_iconst (v := nI 1) hC dL_law_276 (by decide) ?_
  refine v_iaddN hC dL_law_277 ?_
  refine v_scr (x := 6 * i + 1) hC hP dL_law_278 (by omega) (by omega) ?_
  refine v_aload_n hC dL_law_279 rfl ?_
  refine v_iload hC dL_law_280 rfl ?_
  refine v_iconst (v := nI 2) hC dL_law_282 (by decide) ?_
  refine v_iaddN hC dL_law_283 ?_
  refine v_scr (x := 6 * i + 2) hC hP dL_law_284 (by omega) (by omega) ?_
  refine v_if_eq (tgt := 292) hC dL_law_285 (by decide) (fun cz => ?_) (fun cz => ?_)
  · refine v_iconst (v := nI 0) hC dL_law_292 (by decide) ?_
    refine v_aload_n hC dL_law_293 rfl ?_
    refine v_callSN hC hN lkw_setAway dL_law_294 (w_setAway hl0 (c_X5_setAway hl0 hO hB (sc (6 * i + 1)) (b := 0) (by decide)) hO.k0 (fun v μ h => by obtain ⟨r, τ, -, rfl, rfl⟩ := h; exact ⟨⟨r, rfl⟩, h60, rfl⟩) (fun E μ h => hxs_setAway h.1)) (by omega) (by decide) rfl rfl (Nat.le_of_ble_eq_true rfl) (by omega) (by omega) (fun v μ h => ?_)
    have hAG := law_simple hI (fun E => (cdl_setAway E).1) (fun τ hτ => ag_setAway hτ (sc (6 * i + 1)) (b := 0) (by decide))
    rcases h with ⟨E, ⟨hE, rfl⟩, rfl⟩ | ⟨n, μ0, ⟨r, s', hr, hn, rfl⟩, rfl, rfl⟩
    · dsimp only
      obtain ⟨g1, g2⟩ := hAG.1 E hE
      have cdE := cdl_setAway E
      refine v_istore hC dL_law_297 (by decide) ?_
      refine v_aload_n hC dL_law_299 rfl ?_
      refine v_aload_n hC dL_law_300 rfl ?_
      refine v_iload hC dL_law_301 rfl ?_
      refine v_iconst (v := nI 1) hC dL_law_303 (by decide) ?_
      refine v_iaddN hC dL_law_304 ?_
      refine v_scr (x := 6 * i + 1) hC hP dL_law_305 (by omega) (by omega) ?_
      refine v_aload_n hC dL_law_306 rfl ?_
      refine v_iload hC dL_law_307 rfl ?_
      refine v_iconst (v := nI 2) hC dL_law_309 (by decide) ?_
      refine v_iaddN hC dL_law_310 ?_
      refine v_scr (x := 6 * i + 2) hC hP dL_law_311 (by omega) (by omega) ?_
      refine v_if_eq (tgt := 319) hC dL_law_312 (by decide) (fun _ => ?_) (fun q => absurd cz q)
      refine v_iconst (v := nI 0) hC dL_law_319 (by decide) ?_
      refine v_callV hC lk_L_140 dL_law_320 (c_X6_setAway (σ := σ) hl0 hQ hB (sc (6 * i + 1)) (b := 0) (by decide)) (by omega) (by decide) hQ.k30 rfl rfl rfl rfl (Nat.le_of_ble_eq_true rfl) (by omega) (by omega) (fun v μ h => ?_) (fun _ _ h => h.elim)
      rcases h with ⟨k, hk, rfl, rfl⟩ | ⟨r2, τ2, hk, rfl, rfl⟩
      rotate_left
      · rw [g1] at hk
        cases hk
      rw [g1] at hk
      cases hk
      dsimp only
      refine v_istore hC dL_law_323 (by decide) ?_
      refine v_aload_n hC dL_law_325 rfl ?_
      refine v_callV_r0 hC lk_L_134 dL_law_326 (c_X6_thrown hl0 hQ g2.1.1) (by omega) (by decide) hQ.k30 rfl rfl rfl rfl (Nat.le_of_ble_eq_true rfl) (by omega) (by omega) ?_
      rw [show th (th σ 0) (cd_setAway E) 30 0 0 0 = cd_setAway E from up_same _ _ _ _ _ _]
      refine v_iload hC dL_law_329 rfl ?_
      refine v_icmp_eq (tgt := 336) hC dL_law_331 (by decide) (fun _ => ?_) (fun q => absurd rfl q)
      refine v_iload hC dL_law_336 rfl ?_
      refine v_if_neN (tgt := 360) hC dL_law_338 (by decide) (by omega) (fun _ => ?_) (fun q => absurd q cdE.2)
      refine v_goto (tgt := 2247) hC dL_law_360 (by decide) ?_
      exact v_wide (by omega) (by omega) (v_sub rfl (nx _ _ _ _ _ g2 rfl rfl rfl rfl))
    · dsimp only
      obtain ⟨hBw, hRw, τ9, A9, g1, g2, g3, g4⟩ := hAG.2 r s' hr (wB n) (wB_lt n)
      refine v_istore hC dL_law_297 (by decide) ?_
      refine v_aload_n hC dL_law_299 rfl ?_
      refine v_aload_n hC dL_law_300 rfl ?_
      refine v_iload hC dL_law_301 rfl ?_
      refine v_iconst (v := nI 1) hC dL_law_303 (by decide) ?_
      refine v_iaddN hC dL_law_304 ?_
      refine v_scr (x := 6 * i + 1) hC hP dL_law_305 (by omega) (by omega) ?_
      refine v_aload_n hC dL_law_306 rfl ?_
      refine v_iload hC dL_law_307 rfl ?_
      refine v_iconst (v := nI 2) hC dL_law_309 (by decide) ?_
      refine v_iaddN hC dL_law_310 ?_
      refine v_scr (x := 6 * i + 2) hC hP dL_law_311 (by omega) (by omega) ?_
      refine v_if_eq (tgt := 319) hC dL_law_312 (by decide) (fun _ => ?_) (fun q => absurd cz q)
      refine v_iconst (v := nI 0) hC dL_law_319 (by decide) ?_
      refine v_callV hC lk_L_140 dL_law_320 (c_X6_setAway (σ := (up s' 60 0 0 0 (wB n))) hl0 hQ hBw (sc (6 * i + 1)) (b := 0) (by decide)) (by omega) (by decide) hQ.k30 rfl rfl rfl rfl (Nat.le_of_ble_eq_true rfl) (by omega) (by omega) (fun v μ h => ?_) (fun _ _ h => h.elim)
      rcases h with ⟨k, hk, rfl, rfl⟩ | ⟨r2, τ2, hk, rfl, rfl⟩
      skip
      · rw [g1] at hk
        cases hk
      rw [g1] at hk
      cases hk
      dsimp only
      refine v_istore hC dL_law_323 (by decide) ?_
      refine v_aload_n hC dL_law_325 rfl ?_
      refine v_callV_r0 hC lk_L_134 dL_law_326 (c_X6_thrown hl0 hQ g2.1.1) (by omega) (by decide) hQ.k30 rfl rfl rfl rfl (Nat.le_of_ble_eq_true rfl) (by omega) (by omega) ?_
      rw [g3]
      refine v_iload hC dL_law_329 rfl ?_
      refine v_icmp_eq (tgt := 336) hC dL_law_331 (by decide) (fun _ => ?_) (fun q => absurd rfl q)
      refine v_iload hC dL_law_336 rfl ?_
      refine v_if_neN (tgt := 360) hC dL_law_338 (by decide) (by decide) (fun q => absurd rfl q) (fun _ => ?_)
      refine v_aload_n hC dL_law_341 rfl ?_
      refine v_iconst (v := nI 0) hC dL_law_342 (by decide) ?_
      refine al_60 hC dL_law_343 h60 (by decide) ?_
      rw [g4, wB_of hn]
      refine v_iload hC dL_law_344 rfl ?_
      refine v_if_eq (tgt := 353) hC dL_law_346 (by decide) (fun c0 => ?_) (fun c0 => ?_)
      · rw [show wB r = 0 from if_pos c0]
        refine v_lconst (v := lN 0) hC dL_law_353 (by decide) ?_
        refine v_lcmp hC dL_law_354 ?_
        refine v_if_eqJ (tgt := 360) hC dL_law_355 (by decide) (by decide) (by decide) (fun _ => ?_) (fun q => absurd rfl q)
        refine v_goto (tgt := 2247) hC dL_law_360 (by decide) ?_
        exact v_wide (by omega) (by omega) (v_sub rfl (nx _ _ _ _ _ g2 rfl rfl rfl rfl))
      · rw [show wB r = 1 from if_neg c0]
        refine v_lconst (v := lN 1) hC dL_law_349 (by decide) ?_
        refine v_goto (tgt := 354) hC dL_law_350 (by decide) ?_
        refine v_lcmp hC dL_law_354 ?_
        refine v_if_eqJ (tgt := 360) hC dL_law_355 (by decide) (by decide) (by decide) (fun _ => ?_) (fun q => absurd rfl q)
        refine v_goto (tgt := 2247) hC dL_law_360 (by decide) ?_
        exact v_wide (by omega) (by omega) (v_sub rfl (nx _ _ _ _ _ g2 rfl rfl rfl rfl))
  · refine v_iconst (v := nI 1) hC dL_law_288 (by decide) ?_
    refine v_goto (tgt := 293) hC dL_law_289 (by decide) ?_
    refine v_aload_n hC dL_law_293 rfl ?_
    refine v_callSN hC hN lkw_setAway dL_law_294 (w_setAway hl0 (c_X5_setAway hl0 hO hB (sc (6 * i + 1)) (b := 1) (by decide)) hO.k0 (fun v μ h => by obtain ⟨r, τ, -, rfl, rfl⟩ := h; exact ⟨⟨r, rfl⟩, h60, rfl⟩) (fun E μ h => hxs_setAway h.1)) (by omega) (by decide) rfl rfl (Nat.le_of_ble_eq_true rfl) (by omega) (by omega) (fun v μ h => ?_)
    have hAG := law_simple hI (fun E => (cdl_setAway E).1) (fun τ hτ => ag_setAway hτ (sc (6 * i + 1)) (b := 1) (by decide))
    rcases h with ⟨E, ⟨hE, rfl⟩, rfl⟩ | ⟨n, μ0, ⟨r, s', hr, hn, rfl⟩, rfl, rfl⟩
    · dsimp only
      obtain ⟨g1, g2⟩ := hAG.1 E hE
      have cdE := cdl_setAway E
      refine v_istore hC dL_law_297 (by decide) ?_
      refine v_aload_n hC dL_law_299 rfl ?_
      refine v_aload_n hC dL_law_300 rfl ?_
      refine v_iload hC dL_law_301 rfl ?_
      refine v_iconst (v := nI 1) hC dL_law_303 (by decide) ?_
      refine v_iaddN hC dL_law_304 ?_
      refine v_scr (x := 6 * i + 1) hC hP dL_law_305 (by omega) (by omega) ?_
      refine v_aload_n hC dL_law_306 rfl ?_
      refine v_iload hC dL_law_307 rfl ?_
      refine v_iconst (v := nI 2) hC dL_law_309 (by decide) ?_
      refine v_iaddN hC dL_law_310 ?_
      refine v_scr (x := 6 * i + 2) hC hP dL_law_311 (by omega) (by omega) ?_
      refine v_if_eq (tgt := 319) hC dL_law_312 (by decide) (fun q => absurd q cz) (fun _ => ?_)
      refine v_iconst (v := nI 1) hC dL_law_315 (by decide) ?_
      refine v_goto (tgt := 320) hC dL_law_316 (by decide) ?_
      refine v_callV hC lk_L_140 dL_law_320 (c_X6_setAway (σ := σ) hl0 hQ hB (sc (6 * i + 1)) (b := 1) (by decide)) (by omega) (by decide) hQ.k30 rfl rfl rfl rfl (Nat.le_of_ble_eq_true rfl) (by omega) (by omega) (fun v μ h => ?_) (fun _ _ h => h.elim)
      rcases h with ⟨k, hk, rfl, rfl⟩ | ⟨r2, τ2, hk, rfl, rfl⟩
      rotate_left
      · rw [g1] at hk
        cases hk
      rw [g1] at hk
      cases hk
      dsimp only
      refine v_istore hC dL_law_323 (by decide) ?_
      refine v_aload_n hC dL_law_325 rfl ?_
      refine v_callV_r0 hC lk_L_134 dL_law_326 (c_X6_thrown hl0 hQ g2.1.1) (by omega) (by decide) hQ.k30 rfl rfl rfl rfl (Nat.le_of_ble_eq_true rfl) (by omega) (by omega) ?_
      rw [show th (th σ 0) (cd_setAway E) 30 0 0 0 = cd_setAway E from up_same _ _ _ _ _ _]
      refine v_iload hC dL_law_329 rfl ?_
      refine v_icmp_eq (tgt := 336) hC dL_law_331 (by decide) (fun _ => ?_) (fun q => absurd rfl q)
      refine v_iload hC dL_law_336 rfl ?_
      refine v_if_neN (tgt := 360) hC dL_law_338 (by decide) (by omega) (fun _ => ?_) (fun q => absurd q cdE.2)
      refine v_goto (tgt := 2247) hC dL_law_360 (by decide) ?_
      exact v_wide (by omega) (by omega) (v_sub rfl (nx _ _ _ _ _ g2 rfl rfl rfl rfl))
    · dsimp only
      obtain ⟨hBw, hRw, τ9, A9, g1, g2, g3, g4⟩ := hAG.2 r s' hr (wB n) (wB_lt n)
      refine v_istore hC dL_law_297 (by decide) ?_
      refine v_aload_n hC dL_law_299 rfl ?_
      refine v_aload_n hC dL_law_300 rfl ?_
      refine v_iload hC dL_law_301 rfl ?_
      refine v_iconst (v := nI 1) hC dL_law_303 (by decide) ?_
      refine v_iaddN hC dL_law_304 ?_
      refine v_scr (x := 6 * i + 1) hC hP dL_law_305 (by omega) (by omega) ?_
      refine v_aload_n hC dL_law_306 rfl ?_
      refine v_iload hC dL_law_307 rfl ?_
      refine v_iconst (v := nI 2) hC dL_law_309 (by decide) ?_
      refine v_iaddN hC dL_law_310 ?_
      refine v_scr (x := 6 * i + 2) hC hP dL_law_311 (by omega) (by omega) ?_
      refine v_if_eq (tgt := 319) hC dL_law_312 (by decide) (fun q => absurd q cz) (fun _ => ?_)
      refine v_iconst (v := nI 1) hC dL_law_315 (by decide) ?_
      refine v_goto (tgt := 320) hC dL_law_316 (by decide) ?_
      refine v_callV hC lk_L_140 dL_law_320 (c_X6_setAway (σ := (up s' 60 0 0 0 (wB n))) hl0 hQ hBw (sc (6 * i + 1)) (b := 1) (by decide)) (by omega) (by decide) hQ.k30 rfl rfl rfl rfl (Nat.le_of_ble_eq_true rfl) (by omega) (by omega) (fun v μ h => ?_) (fun _ _ h => h.elim)
      rcases h with ⟨k, hk, rfl, rfl⟩ | ⟨r2, τ2, hk, rfl, rfl⟩
      skip
      · rw [g1] at hk
        cases hk
      rw [g1] at hk
      cases hk
      dsimp only
      refine v_istore hC dL_law_323 (by decide) ?_
      refine v_aload_n hC dL_law_325 rfl ?_
      refine v_callV_r0 hC lk_L_134 dL_law_326 (c_X6_thrown hl0 hQ g2.1.1) (by omega) (by decide) hQ.k30 rfl rfl rfl rfl (Nat.le_of_ble_eq_true rfl) (by omega) (by omega) ?_
      rw [g3]
      refine v_iload hC dL_law_329 rfl ?_
      refine v_icmp_eq (tgt := 336) hC dL_law_331 (by decide) (fun _ => ?_) (fun q => absurd rfl q)
      refine v_iload hC dL_law_336 rfl ?_
      refine v_if_neN (tgt := 360) hC dL_law_338 (by decide) (by decide) (fun q => absurd rfl q) (fun _ => ?_)
      refine v_aload_n hC dL_law_341 rfl ?_
      refine v_iconst (v := nI 0) hC dL_law_342 (by decide) ?_
      refine al_60 hC dL_law_343 h60 (by decide) ?_
      rw [g4, wB_of hn]
      refine v_iload hC dL_law_344 rfl ?_
      refine v_if_eq (tgt := 353) hC dL_law_346 (by decide) (fun c0 => ?_) (fun c0 => ?_)
      · rw [show wB r = 0 from if_pos c0]
        refine v_lconst (v := lN 0) hC dL_law_353 (by decide) ?_
        refine v_lcmp hC dL_law_354 ?_
        refine v_if_eqJ (tgt := 360) hC dL_law_355 (by decide) (by decide) (by decide) (fun _ => ?_) (fun q => absurd rfl q)
        refine v_goto (tgt := 2247) hC dL_law_360 (by decide) ?_
        exact v_wide (by omega) (by omega) (v_sub rfl (nx _ _ _ _ _ g2 rfl rfl rfl rfl))
      · rw [show wB r = 1 from if_neg c0]
        refine v_lconst (v := lN 1) hC dL_law_349 (by decide) ?_
        refine v_goto (tgt := 354) hC dL_law_350 (by decide) ?_
        refine v_lcmp hC dL_law_354 ?_
        refine v_if_eqJ (tgt := 360) hC dL_law_355 (by decide) (by decide) (by decide) (fun _ => ?_) (fun q => absurd rfl q)
        refine v_goto (tgt := 2247) hC dL_law_360 (by decide) ?_
        exact v_wide (by omega) (by omega) (v_sub rfl (nx _ _ _ _ _ g2 rfl rfl rfl rfl))
theorem cdl_setFrozen (E : String) : cd_setFrozen E < 5 ∧ cd_setFrozen E ≠ 0 := by
  unfold cd_setFrozen
  first | (constructor <;> decide) | (repeat' split) <;> (constructor <;> decide)
theorem hxs_setFrozen {σ : SG} {a1 : Int32} {a2 : Nat} {E : String} (h : k_setFrozen σ a1 a2 = .inl E) : E = eIOB := by
  have h2 : ON (k_setFrozen σ a1 a2) [eIOB] := by
    unfold k_setFrozen
    repeat (first | exact on_ret | exact on_err (by simp) | refine on_gR (by simp) (fun _ => ?_) | refine on_ite ?_ ?_)
  simpa using h2 E h
set_option maxHeartbeats 4000000 in
set_option maxRecDepth 100000 in
theorem case_setFrozen {X : XT} {G : GT} {mc ms K0 S0 p N : Nat} {sc : Nat → Int32} {ok : KF} {ad : AD} {σ : SG} {A : AS} {e i : Nat} (hl0 : (xl X).stackTraces = false) (hC : Cx X G "BranchyardLaw" cL_law 9 16 mc ms) (hN : NC (xs X)) (hP : Scr G (xs X) p N sc) (hNl : N ≤ 3072) (hI : INV G ok ad σ A e i) (hj : 6 * i + 6 ≤ N) (h1 : K0 + 200 * (i + 1) ≤ mc) (h2 : S0 + 3000 * (i + 1) + 4 * 4700 ≤ ms)
    (nx : ∀ ok' ad' σ' A' e', INV G ok' ad' σ' A' e' (i + 1) → ad' 0 0 0 = ad 0 0 0 → ad' 30 0 0 = ad 30 0 0 → ad' 60 0 0 = ad 60 0 0 → ad' 61 0 0 = ad 61 0 0 → V X G (K0 + 200 * (i + 1)) (S0 + 3000 * (i + 1) + 4 * e') ok' ad' σ' [(0, .ref p), (1, .ref (ad 0 0 0)), (2, .ref (ad 30 0 0)), (3, .ref (ad 60 0 0)), (4, .ref (ad 61 0 0)), (5, iv (6 * i))] 2247 []) : V X G (K0 + 200 * i) (S0 + 3000 * i + 4 * e) ok ad σ [(0, .ref p), (1, .ref (ad 0 0 0)), (2, .ref (ad 30 0 0)), (3, .ref (ad 60 0 0)), (4, .ref (ad 61 0 0)), (5, iv (6 * i))] 1147 [] := by
  obtain ⟨hR, ⟨hCK, hVK⟩, ⟨hArr, hKM⟩, ⟨h60, h61, n57, n58, n62, hO, hQ⟩, c5, c1, c6, cK, cq, ct, ce⟩ := id hI
  have hB := hR.1
  refine v_aload_n hC dL_law_1147 rfl ?_
  refine v_aload_n hC dL_law_1148 rfl ?_
  refine v_iload hC dL_law_1149 rfl ?_
  refine v_iconst (v := nI 1) hC dL_law_1151 (by decide) ?_
  refine v_iaddN hC dL_law_1152 ?_
  refine v_scr (x := 6 * i + 1) hC hP dL_law_1153 (by omega) (by omega) ?_
  refine v_aload_n hC dL_law_1154 rfl ?_
  refine v_iload hC dL_law_1155 rfl ?_
  refine v_iconst (v := nI 2) hC dL_law_1157 (by decide) ?_
  refine v_iaddN hC dL_law_1158 ?_
  refine v_scr (x := 6 * i + 2) hC hP dL_law_1159 (by omega) (by omega) ?_
  refine v_if_eq (tgt := 1167) hC dL_law_1160 (by decide) (fun cz => ?_) (fun cz => ?_)
  · refine v_iconst (v := nI 0) hC dL_law_1167 (by decide) ?_
    refine v_aload_n hC dL_law_1168 rfl ?_
    refine v_callSN hC hN lkw_setFrozen dL_law_1169 (w_setFrozen hl0 (c_X5_setFrozen hl0 hO hB (sc (6 * i + 1)) (b := 0) (by decide)) hO.k0 (fun v μ h => by obtain ⟨r, τ, -, rfl, rfl⟩ := h; exact ⟨⟨r, rfl⟩, h60, rfl⟩) (fun E μ h => hxs_setFrozen h.1)) (by omega) (by decide) rfl rfl (Nat.le_of_ble_eq_true rfl) (by omega) (by omega) (fun v μ h => ?_)
    have hAG := law_simple hI (fun E => (cdl_setFrozen E).1) (fun τ hτ => ag_setFrozen hτ (sc (6 * i + 1)) (b := 0) (by decide))
    rcases h with ⟨E, ⟨hE, rfl⟩, rfl⟩ | ⟨n, μ0, ⟨r, s', hr, hn, rfl⟩, rfl, rfl⟩
    · dsimp only
      obtain ⟨g1, g2⟩ := hAG.1 E hE
      have cdE := cdl_setFrozen E
      refine v_istore hC dL_law_1172 (by decide) ?_
      refine v_aload_n hC dL_law_1174 rfl ?_
      refine v_aload_n hC dL_law_1175 rfl ?_
      refine v_iload hC dL_law_1176 rfl ?_
      refine v_iconst (v := nI 1) hC dL_law_1178 (by decide) ?_
      refine v_iaddN hC dL_law_1179 ?_
      refine v_scr (x := 6 * i + 1) hC hP dL_law_1180 (by omega) (by omega) ?_
      refine v_aload_n hC dL_law_1181 rfl ?_
      refine v_iload hC dL_law_1182 rfl ?_
      refine v_iconst (v := nI 2) hC dL_law_1184 (by decide) ?_
      refine v_iaddN hC dL_law_1185 ?_
      refine v_scr (x := 6 * i + 2) hC hP dL_law_1186 (by omega) (by omega) ?_
      refine v_if_eq (tgt := 1194) hC dL_law_1187 (by decide) (fun _ => ?_) (fun q => absurd cz q)
      refine v_iconst (v := nI 0) hC dL_law_1194 (by decide) ?_
      refine v_callV hC lk_L_184 dL_law_1195 (c_X6_setFrozen (σ := σ) hl0 hQ hB (sc (6 * i + 1)) (b := 0) (by decide)) (by omega) (by decide) hQ.k30 rfl rfl rfl rfl (Nat.le_of_ble_eq_true rfl) (by omega) (by omega) (fun v μ h => ?_) (fun _ _ h => h.elim)
      rcases h with ⟨k, hk, rfl, rfl⟩ | ⟨r2, τ2, hk, rfl, rfl⟩
      rotate_left
      · rw [g1] at hk
        cases hk
      rw [g1] at hk
      cases hk
      dsimp only
      refine v_istore hC dL_law_1198 (by decide) ?_
      refine v_aload_n hC dL_law_1200 rfl ?_
      refine v_callV_r0 hC lk_L_134 dL_law_1201 (c_X6_thrown hl0 hQ g2.1.1) (by omega) (by decide) hQ.k30 rfl rfl rfl rfl (Nat.le_of_ble_eq_true rfl) (by omega) (by omega) ?_
      rw [show th (th σ 0) (cd_setFrozen E) 30 0 0 0 = cd_setFrozen E from up_same _ _ _ _ _ _]
      refine v_iload hC dL_law_1204 rfl ?_
      refine v_icmp_eq (tgt := 1211) hC dL_law_1206 (by decide) (fun _ => ?_) (fun q => absurd rfl q)
      refine v_iload hC dL_law_1211 rfl ?_
      refine v_if_neN (tgt := 1235) hC dL_law_1213 (by decide) (by omega) (fun _ => ?_) (fun q => absurd q cdE.2)
      refine v_goto (tgt := 2247) hC dL_law_1235 (by decide) ?_
      exact v_wide (by omega) (by omega) (v_sub rfl (nx _ _ _ _ _ g2 rfl rfl rfl rfl))
    · dsimp only
      obtain ⟨hBw, hRw, τ9, A9, g1, g2, g3, g4⟩ := hAG.2 r s' hr (wB n) (wB_lt n)
      refine v_istore hC dL_law_1172 (by decide) ?_
      refine v_aload_n hC dL_law_1174 rfl ?_
      refine v_aload_n hC dL_law_1175 rfl ?_
      refine v_iload hC dL_law_1176 rfl ?_
      refine v_iconst (v := nI 1) hC dL_law_1178 (by decide) ?_
      refine v_iaddN hC dL_law_1179 ?_
      refine v_scr (x := 6 * i + 1) hC hP dL_law_1180 (by omega) (by omega) ?_
      refine v_aload_n hC dL_law_1181 rfl ?_
      refine v_iload hC dL_law_1182 rfl ?_
      refine v_iconst (v := nI 2) hC dL_law_1184 (by decide) ?_
      refine v_iaddN hC dL_law_1185 ?_
      refine v_scr (x := 6 * i + 2) hC hP dL_law_1186 (by omega) (by omega) ?_
      refine v_if_eq (tgt := 1194) hC dL_law_1187 (by decide) (fun _ => ?_) (fun q => absurd cz q)
      refine v_iconst (v := nI 0) hC dL_law_1194 (by decide) ?_
      refine v_callV hC lk_L_184 dL_law_1195 (c_X6_setFrozen (σ := (up s' 60 0 0 0 (wB n))) hl0 hQ hBw (sc (6 * i + 1)) (b := 0) (by decide)) (by omega) (by decide) hQ.k30 rfl rfl rfl rfl (Nat.le_of_ble_eq_true rfl) (by omega) (by omega) (fun v μ h => ?_) (fun _ _ h => h.elim)
      rcases h with ⟨k, hk, rfl, rfl⟩ | ⟨r2, τ2, hk, rfl, rfl⟩
      skip
      · rw [g1] at hk
        cases hk
      rw [g1] at hk
      cases hk
      dsimp only
      refine v_istore hC dL_law_1198 (by decide) ?_
      refine v_aload_n hC dL_law_1200 rfl ?_
      refine v_callV_r0 hC lk_L_134 dL_law_1201 (c_X6_thrown hl0 hQ g2.1.1) (by omega) (by decide) hQ.k30 rfl rfl rfl rfl (Nat.le_of_ble_eq_true rfl) (by omega) (by omega) ?_
      rw [g3]
      refine v_iload hC dL_law_1204 rfl ?_
      refine v_icmp_eq (tgt := 1211) hC dL_law_1206 (by decide) (fun _ => ?_) (fun q => absurd rfl q)
      refine v_iload hC dL_law_1211 rfl ?_
      refine v_if_neN (tgt := 1235) hC dL_law_1213 (by decide) (by decide) (fun q => absurd rfl q) (fun _ => ?_)
      refine v_aload_n hC dL_law_1216 rfl ?_
      refine v_iconst (v := nI 0) hC dL_law_1217 (by decide) ?_
      refine al_60 hC dL_law_1218 h60 (by decide) ?_
      rw [g4, wB_of hn]
      refine v_iload hC dL_law_1219 rfl ?_
      refine v_if_eq (tgt := 1228) hC dL_law_1221 (by decide) (fun c0 => ?_) (fun c0 => ?_)
      · rw [show wB r = 0 from if_pos c0]
        refine v_lconst (v := lN 0) hC dL_law_1228 (by decide) ?_
        refine v_lcmp hC dL_law_1229 ?_
        refine v_if_eqJ (tgt := 1235) hC dL_law_1230 (by decide) (by decide) (by decide) (fun _ => ?_) (fun q => absurd rfl q)
        refine v_goto (tgt := 2247) hC dL_law_1235 (by decide) ?_
        exact v_wide (by omega) (by omega) (v_sub rfl (nx _ _ _ _ _ g2 rfl rfl rfl rfl))
      · rw [show wB r = 1 from if_neg c0]
        refine v_lconst (v := lN 1) hC dL_law_1224 (by decide) ?_
        refine v_goto (tgt := 1229) hC dL_law_1225 (by decide) ?_
        refine v_lcmp hC dL_law_1229 ?_
        refine v_if_eqJ (tgt := 1235) hC dL_law_1230 (by decide) (by decide) (by decide) (fun _ => ?_) (fun q => absurd rfl q)
        refine v_goto (tgt := 2247) hC dL_law_1235 (by decide) ?_
        exact v_wide (by omega) (by omega) (v_sub rfl (nx _ _ _ _ _ g2 rfl rfl rfl rfl))
  · refine v_iconst (v := nI 1) hC dL_law_1163 (by decide) ?_
    refine v_goto (tgt := 1168) hC dL_law_1164 (by decide) ?_
    refine v_aload_n hC dL_law_1168 rfl ?_
    refine v_callSN hC hN lkw_setFrozen dL_law_1169 (w_setFrozen hl0 (c_X5_setFrozen hl0 hO hB (sc (6 * i + 1)) (b := 1) (by decide)) hO.k0 (fun v μ h => by obtain ⟨r, τ, -, rfl, rfl⟩ := h; exact ⟨⟨r, rfl⟩, h60, rfl⟩) (fun E μ h => hxs_setFrozen h.1)) (by omega) (by decide) rfl rfl (Nat.le_of_ble_eq_true rfl) (by omega) (by omega) (fun v μ h => ?_)
    have hAG := law_simple hI (fun E => (cdl_setFrozen E).1) (fun τ hτ => ag_setFrozen hτ (sc (6 * i + 1)) (b := 1) (by decide))
    rcases h with ⟨E, ⟨hE, rfl⟩, rfl⟩ | ⟨n, μ0, ⟨r, s', hr, hn, rfl⟩, rfl, rfl⟩
    · dsimp only
      obtain ⟨g1, g2⟩ := hAG.1 E hE
      have cdE := cdl_setFrozen E
      refine v_istore hC dL_law_1172 (by decide) ?_
      refine v_aload_n hC dL_law_1174 rfl ?_
      refine v_aload_n hC dL_law_1175 rfl ?_
      refine v_iload hC dL_law_1176 rfl ?_
      refine v_iconst (v := nI 1) hC dL_law_1178 (by decide) ?_
      refine v_iaddN hC dL_law_1179 ?_
      refine v_scr (x := 6 * i + 1) hC hP dL_law_1180 (by omega) (by omega) ?_
      refine v_aload_n hC dL_law_1181 rfl ?_
      refine v_iload hC dL_law_1182 rfl ?_
      refine v_iconst (v := nI 2) hC dL_law_1184 (by decide) ?_
      refine v_iaddN hC dL_law_1185 ?_
      refine v_scr (x := 6 * i + 2) hC hP dL_law_1186 (by omega) (by omega) ?_
      refine v_if_eq (tgt := 1194) hC dL_law_1187 (by decide) (fun q => absurd q cz) (fun _ => ?_)
      refine v_iconst (v := nI 1) hC dL_law_1190 (by decide) ?_
      refine v_goto (tgt := 1195) hC dL_law_1191 (by decide) ?_
      refine v_callV hC lk_L_184 dL_law_1195 (c_X6_setFrozen (σ := σ) hl0 hQ hB (sc (6 * i + 1)) (b := 1) (by decide)) (by omega) (by decide) hQ.k30 rfl rfl rfl rfl (Nat.le_of_ble_eq_true rfl) (by omega) (by omega) (fun v μ h => ?_) (fun _ _ h => h.elim)
      rcases h with ⟨k, hk, rfl, rfl⟩ | ⟨r2, τ2, hk, rfl, rfl⟩
      rotate_left
      · rw [g1] at hk
        cases hk
      rw [g1] at hk
      cases hk
      dsimp only
      refine v_istore hC dL_law_1198 (by decide) ?_
      refine v_aload_n hC dL_law_1200 rfl ?_
      refine v_callV_r0 hC lk_L_134 dL_law_1201 (c_X6_thrown hl0 hQ g2.1.1) (by omega) (by decide) hQ.k30 rfl rfl rfl rfl (Nat.le_of_ble_eq_true rfl) (by omega) (by omega) ?_
      rw [show th (th σ 0) (cd_setFrozen E) 30 0 0 0 = cd_setFrozen E from up_same _ _ _ _ _ _]
      refine v_iload hC dL_law_1204 rfl ?_
      refine v_icmp_eq (tgt := 1211) hC dL_law_1206 (by decide) (fun _ => ?_) (fun q => absurd rfl q)
      refine v_iload hC dL_law_1211 rfl ?_
      refine v_if_neN (tgt := 1235) hC dL_law_1213 (by decide) (by omega) (fun _ => ?_) (fun q => absurd q cdE.2)
      refine v_goto (tgt := 2247) hC dL_law_1235 (by decide) ?_
      exact v_wide (by omega) (by omega) (v_sub rfl (nx _ _ _ _ _ g2 rfl rfl rfl rfl))
    · dsimp only
      obtain ⟨hBw, hRw, τ9, A9, g1, g2, g3, g4⟩ := hAG.2 r s' hr (wB n) (wB_lt n)
      refine v_istore hC dL_law_1172 (by decide) ?_
      refine v_aload_n hC dL_law_1174 rfl ?_
      refine v_aload_n hC dL_law_1175 rfl ?_
      refine v_iload hC dL_law_1176 rfl ?_
      refine v_iconst (v := nI 1) hC dL_law_1178 (by decide) ?_
      refine v_iaddN hC dL_law_1179 ?_
      refine v_scr (x := 6 * i + 1) hC hP dL_law_1180 (by omega) (by omega) ?_
      refine v_aload_n hC dL_law_1181 rfl ?_
      refine v_iload hC dL_law_1182 rfl ?_
      refine v_iconst (v := nI 2) hC dL_law_1184 (by decide) ?_
      refine v_iaddN hC dL_law_1185 ?_
      refine v_scr (x := 6 * i + 2) hC hP dL_law_1186 (by omega) (by omega) ?_
      refine v_if_eq (tgt := 1194) hC dL_law_1187 (by decide) (fun q => absurd q cz) (fun _ => ?_)
      refine v_iconst (v := nI 1) hC dL_law_1190 (by decide) ?_
      refine v_goto (tgt := 1195) hC dL_law_1191 (by decide) ?_
      refine v_callV hC lk_L_184 dL_law_1195 (c_X6_setFrozen (σ := (up s' 60 0 0 0 (wB n))) hl0 hQ hBw (sc (6 * i + 1)) (b := 1) (by decide)) (by omega) (by decide) hQ.k30 rfl rfl rfl rfl (Nat.le_of_ble_eq_true rfl) (by omega) (by omega) (fun v μ h => ?_) (fun _ _ h => h.elim)
      rcases h with ⟨k, hk, rfl, rfl⟩ | ⟨r2, τ2, hk, rfl, rfl⟩
      skip
      · rw [g1] at hk
        cases hk
      rw [g1] at hk
      cases hk
      dsimp only
      refine v_istore hC dL_law_1198 (by decide) ?_
      refine v_aload_n hC dL_law_1200 rfl ?_
      refine v_callV_r0 hC lk_L_134 dL_law_1201 (c_X6_thrown hl0 hQ g2.1.1) (by omega) (by decide) hQ.k30 rfl rfl rfl rfl (Nat.le_of_ble_eq_true rfl) (by omega) (by omega) ?_
      rw [g3]
      refine v_iload hC dL_law_1204 rfl ?_
      refine v_icmp_eq (tgt := 1211) hC dL_law_1206 (by decide) (fun _ => ?_) (fun q => absurd rfl q)
      refine v_iload hC dL_law_1211 rfl ?_
      refine v_if_neN (tgt := 1235) hC dL_law_1213 (by decide) (by decide) (fun q => absurd rfl q) (fun _ => ?_)
      refine v_aload_n hC dL_law_1216 rfl ?_
      refine v_iconst (v := nI 0) hC dL_law_1217 (by decide) ?_
      refine al_60 hC dL_law_1218 h60 (by decide) ?_
      rw [g4, wB_of hn]
      refine v_iload hC dL_law_1219 rfl ?_
      refine v_if_eq (tgt := 1228) hC dL_law_1221 (by decide) (fun c0 => ?_) (fun c0 => ?_)
      · rw [show wB r = 0 from if_pos c0]
        refine v_lconst (v := lN 0) hC dL_law_1228 (by decide) ?_
        refine v_lcmp hC dL_law_1229 ?_
        refine v_if_eqJ (tgt := 1235) hC dL_law_1230 (by decide) (by decide) (by decide) (fun _ => ?_) (fun q => absurd rfl q)
        refine v_goto (tgt := 2247) hC dL_law_1235 (by decide) ?_
        exact v_wide (by omega) (by omega) (v_sub rfl (nx _ _ _ _ _ g2 rfl rfl rfl rfl))
      · rw [show wB r = 1 from if_neg c0]
        refine v_lconst (v := lN 1) hC dL_law_1224 (by decide) ?_
        refine v_goto (tgt := 1229) hC dL_law_1225 (by decide) ?_
        refine v_lcmp hC dL_law_1229 ?_
        refine v_if_eqJ (tgt := 1235) hC dL_law_1230 (by decide) (by decide) (by decide) (fun _ => ?_) (fun q => absurd rfl q)
        refine v_goto (tgt := 2247) hC dL_law_1235 (by decide) ?_
        exact v_wide (by omega) (by omega) (v_sub rfl (nx _ _ _ _ _ g2 rfl rfl rfl rfl))
theorem cdl_hasFailed (E : String) : cd_hasFailed E < 5 ∧ cd_hasFailed E ≠ 0 := by
  unfold cd_hasFailed
  first | (constructor <;> decide) | (repeat' split) <;> (constructor <;> decide)
theorem hxs_hasFailed {σ : SG} {a1 : Int32} {E : String} (h : k_hasFailed σ a1 = .inl E) : E = eNSE := by
  have h2 : ON (k_hasFailed σ a1) [eNSE] := by
    unfold k_hasFailed
    repeat (first | exact on_ret | exact on_err (by simp) | refine on_gR (by simp) (fun _ => ?_) | refine on_ite ?_ ?_)
  simpa using h2 E h
set_option maxHeartbeats 4000000 in
set_option maxRecDepth 100000 in
theorem case_hasFailed {X : XT} {G : GT} {mc ms K0 S0 p N : Nat} {sc : Nat → Int32} {ok : KF} {ad : AD} {σ : SG} {A : AS} {e i : Nat} (hl0 : (xl X).stackTraces = false) (hC : Cx X G "BranchyardLaw" cL_law 9 16 mc ms) (hN : NC (xs X)) (hP : Scr G (xs X) p N sc) (hNl : N ≤ 3072) (hI : INV G ok ad σ A e i) (hj : 6 * i + 6 ≤ N) (h1 : K0 + 200 * (i + 1) ≤ mc) (h2 : S0 + 3000 * (i + 1) + 4 * 4700 ≤ ms)
    (nx : ∀ ok' ad' σ' A' e', INV G ok' ad' σ' A' e' (i + 1) → ad' 0 0 0 = ad 0 0 0 → ad' 30 0 0 = ad 30 0 0 → ad' 60 0 0 = ad 60 0 0 → ad' 61 0 0 = ad 61 0 0 → V X G (K0 + 200 * (i + 1)) (S0 + 3000 * (i + 1) + 4 * e') ok' ad' σ' [(0, .ref p), (1, .ref (ad 0 0 0)), (2, .ref (ad 30 0 0)), (3, .ref (ad 60 0 0)), (4, .ref (ad 61 0 0)), (5, iv (6 * i))] 2247 []) : V X G (K0 + 200 * i) (S0 + 3000 * i + 4 * e) ok ad σ [(0, .ref p), (1, .ref (ad 0 0 0)), (2, .ref (ad 30 0 0)), (3, .ref (ad 60 0 0)), (4, .ref (ad 61 0 0)), (5, iv (6 * i))] 1294 [] := by
  obtain ⟨hR, ⟨hCK, hVK⟩, ⟨hArr, hKM⟩, ⟨h60, h61, n57, n58, n62, hO, hQ⟩, c5, c1, c6, cK, cq, ct, ce⟩ := id hI
  have hB := hR.1
  refine v_aload_n hC dL_law_1294 rfl ?_
  refine v_aload_n hC dL_law_1295 rfl ?_
  refine v_iload hC dL_law_1296 rfl ?_
  refine v_iconst (v := nI 1) hC dL_law_1298 (by decide) ?_
  refine v_iaddN hC dL_law_1299 ?_
  refine v_scr (x := 6 * i + 1) hC hP dL_law_1300 (by omega) (by omega) ?_
  refine v_aload_n hC dL_law_1301 rfl ?_
  refine v_callSN hC hN lkw_hasFailed dL_law_1302 (w_hasFailed hl0 (c_X5_hasFailed hl0 hO hB (sc (6 * i + 1))) hO.k0 (fun v μ h => by obtain ⟨r, τ, -, rfl, rfl⟩ := h; exact ⟨⟨r, rfl⟩, h60, rfl⟩) (fun E μ h => hxs_hasFailed h.1)) (by omega) (by decide) rfl rfl (Nat.le_of_ble_eq_true rfl) (by omega) (by omega) (fun v μ h => ?_)
  have hAG := law_simple hI (fun E => (cdl_hasFailed E).1) (fun τ hτ => ag_hasFailed hτ (sc (6 * i + 1)))
  rcases h with ⟨E, ⟨hE, rfl⟩, rfl⟩ | ⟨n, μ0, ⟨r, s', hr, hn, rfl⟩, rfl, rfl⟩
  · dsimp only
    obtain ⟨g1, g2⟩ := hAG.1 E hE
    have cdE := cdl_hasFailed E
    refine v_istore hC dL_law_1305 (by decide) ?_
    refine v_aload_n hC dL_law_1307 rfl ?_
    refine v_aload_n hC dL_law_1308 rfl ?_
    refine v_iload hC dL_law_1309 rfl ?_
    refine v_iconst (v := nI 1) hC dL_law_1311 (by decide) ?_
    refine v_iaddN hC dL_law_1312 ?_
    refine v_scr (x := 6 * i + 1) hC hP dL_law_1313 (by omega) (by omega) ?_
    refine v_callV hC lk_L_190 dL_law_1314 (c_X6_hasFailed (σ := σ) hl0 hQ hB (sc (6 * i + 1))) (by omega) (by decide) hQ.k30 rfl rfl rfl rfl (Nat.le_of_ble_eq_true rfl) (by omega) (by omega) (fun v μ h => ?_) (fun _ _ h => h.elim)
    rcases h with ⟨k, hk, rfl, rfl⟩ | ⟨r2, τ2, hk, rfl, rfl⟩
    rotate_left
    · rw [g1] at hk
      cases hk
    rw [g1] at hk
    cases hk
    dsimp only
    refine v_istore hC dL_law_1317 (by decide) ?_
    refine v_aload_n hC dL_law_1319 rfl ?_
    refine v_callV_r0 hC lk_L_134 dL_law_1320 (c_X6_thrown hl0 hQ g2.1.1) (by omega) (by decide) hQ.k30 rfl rfl rfl rfl (Nat.le_of_ble_eq_true rfl) (by omega) (by omega) ?_
    rw [show th (th σ 0) (cd_hasFailed E) 30 0 0 0 = cd_hasFailed E from up_same _ _ _ _ _ _]
    refine v_iload hC dL_law_1323 rfl ?_
    refine v_icmp_eq (tgt := 1330) hC dL_law_1325 (by decide) (fun _ => ?_) (fun q => absurd rfl q)
    refine v_iload hC dL_law_1330 rfl ?_
    refine v_if_neN (tgt := 1354) hC dL_law_1332 (by decide) (by omega) (fun _ => ?_) (fun q => absurd q cdE.2)
    refine v_goto (tgt := 2247) hC dL_law_1354 (by decide) ?_
    exact v_wide (by omega) (by omega) (v_sub rfl (nx _ _ _ _ _ g2 rfl rfl rfl rfl))
  · dsimp only
    obtain ⟨hBw, hRw, τ9, A9, g1, g2, g3, g4⟩ := hAG.2 r s' hr (wB n) (wB_lt n)
    refine v_istore hC dL_law_1305 (by decide) ?_
    refine v_aload_n hC dL_law_1307 rfl ?_
    refine v_aload_n hC dL_law_1308 rfl ?_
    refine v_iload hC dL_law_1309 rfl ?_
    refine v_iconst (v := nI 1) hC dL_law_1311 (by decide) ?_
    refine v_iaddN hC dL_law_1312 ?_
    refine v_scr (x := 6 * i + 1) hC hP dL_law_1313 (by omega) (by omega) ?_
    refine v_callV hC lk_L_190 dL_law_1314 (c_X6_hasFailed (σ := (up s' 60 0 0 0 (wB n))) hl0 hQ hBw (sc (6 * i + 1))) (by omega) (by decide) hQ.k30 rfl rfl rfl rfl (Nat.le_of_ble_eq_true rfl) (by omega) (by omega) (fun v μ h => ?_) (fun _ _ h => h.elim)
    rcases h with ⟨k, hk, rfl, rfl⟩ | ⟨r2, τ2, hk, rfl, rfl⟩
    skip
    · rw [g1] at hk
      cases hk
    rw [g1] at hk
    cases hk
    dsimp only
    refine v_istore hC dL_law_1317 (by decide) ?_
    refine v_aload_n hC dL_law_1319 rfl ?_
    refine v_callV_r0 hC lk_L_134 dL_law_1320 (c_X6_thrown hl0 hQ g2.1.1) (by omega) (by decide) hQ.k30 rfl rfl rfl rfl (Nat.le_of_ble_eq_true rfl) (by omega) (by omega) ?_
    rw [g3]
    refine v_iload hC dL_law_1323 rfl ?_
    refine v_icmp_eq (tgt := 1330) hC dL_law_1325 (by decide) (fun _ => ?_) (fun q => absurd rfl q)
    refine v_iload hC dL_law_1330 rfl ?_
    refine v_if_neN (tgt := 1354) hC dL_law_1332 (by decide) (by decide) (fun q => absurd rfl q) (fun _ => ?_)
    refine v_aload_n hC dL_law_1335 rfl ?_
    refine v_iconst (v := nI 0) hC dL_law_1336 (by decide) ?_
    refine al_60 hC dL_law_1337 h60 (by decide) ?_
    rw [g4, wB_of hn]
    refine v_iload hC dL_law_1338 rfl ?_
    refine v_if_eq (tgt := 1347) hC dL_law_1340 (by decide) (fun c0 => ?_) (fun c0 => ?_)
    · rw [show wB r = 0 from if_pos c0]
      refine v_lconst (v := lN 0) hC dL_law_1347 (by decide) ?_
      refine v_lcmp hC dL_law_1348 ?_
      refine v_if_eqJ (tgt := 1354) hC dL_law_1349 (by decide) (by decide) (by decide) (fun _ => ?_) (fun q => absurd rfl q)
      refine v_goto (tgt := 2247) hC dL_law_1354 (by decide) ?_
      exact v_wide (by omega) (by omega) (v_sub rfl (nx _ _ _ _ _ g2 rfl rfl rfl rfl))
    · rw [show wB r = 1 from if_neg c0]
      refine v_lconst (v := lN 1) hC dL_law_1343 (by decide) ?_
      refine v_goto (tgt := 1348) hC dL_law_1344 (by decide) ?_
      refine v_lcmp hC dL_law_1348 ?_
      refine v_if_eqJ (tgt := 1354) hC dL_law_1349 (by decide) (by decide) (by decide) (fun _ => ?_) (fun q => absurd rfl q)
      refine v_goto (tgt := 2247) hC dL_law_1354 (by decide) ?_
      exact v_wide (by omega) (by omega) (v_sub rfl (nx _ _ _ _ _ g2 rfl rfl rfl rfl))
theorem cdl_isGood (E : String) : cd_isGood E < 5 ∧ cd_isGood E ≠ 0 := by
  unfold cd_isGood
  first | (constructor <;> decide) | (repeat' split) <;> (constructor <;> decide)
theorem hxs_isGood {σ : SG} {a1 : Int32} {E : String} (h : k_isGood σ a1 = .inl E) : E = eIOB := by
  have h2 : ON (k_isGood σ a1) [eIOB] := by
    unfold k_isGood
    repeat (first | exact on_ret | exact on_err (by simp) | refine on_gR (by simp) (fun _ => ?_) | refine on_ite ?_ ?_)
  simpa using h2 E h
set_option maxHeartbeats 4000000 in
set_option maxRecDepth 100000 in
theorem case_isGood {X : XT} {G : GT} {mc ms K0 S0 p N : Nat} {sc : Nat → Int32} {ok : KF} {ad : AD} {σ : SG} {A : AS} {e i : Nat} (hl0 : (xl X).stackTraces = false) (hC : Cx X G "BranchyardLaw" cL_law 9 16 mc ms) (hN : NC (xs X)) (hP : Scr G (xs X) p N sc) (hNl : N ≤ 3072) (hI : INV G ok ad σ A e i) (hj : 6 * i + 6 ≤ N) (h1 : K0 + 200 * (i + 1) ≤ mc) (h2 : S0 + 3000 * (i + 1) + 4 * 4700 ≤ ms)
    (nx : ∀ ok' ad' σ' A' e', INV G ok' ad' σ' A' e' (i + 1) → ad' 0 0 0 = ad 0 0 0 → ad' 30 0 0 = ad 30 0 0 → ad' 60 0 0 = ad 60 0 0 → ad' 61 0 0 = ad 61 0 0 → V X G (K0 + 200 * (i + 1)) (S0 + 3000 * (i + 1) + 4 * e') ok' ad' σ' [(0, .ref p), (1, .ref (ad 0 0 0)), (2, .ref (ad 30 0 0)), (3, .ref (ad 60 0 0)), (4, .ref (ad 61 0 0)), (5, iv (6 * i))] 2247 []) : V X G (K0 + 200 * i) (S0 + 3000 * i + 4 * e) ok ad σ [(0, .ref p), (1, .ref (ad 0 0 0)), (2, .ref (ad 30 0 0)), (3, .ref (ad 60 0 0)), (4, .ref (ad 61 0 0)), (5, iv (6 * i))] 2013 [] := by
  obtain ⟨hR, ⟨hCK, hVK⟩, ⟨hArr, hKM⟩, ⟨h60, h61, n57, n58, n62, hO, hQ⟩, c5, c1, c6, cK, cq, ct, ce⟩ := id hI
  have hB := hR.1
  refine v_aload_n hC dL_law_2013 rfl ?_
  refine v_aload_n hC dL_law_2014 rfl ?_
  refine v_iload hC dL_law_2015 rfl ?_
  refine v_iconst (v := nI 1) hC dL_law_2017 (by decide) ?_
  refine v_iaddN hC dL_law_2018 ?_
  refine v_scr (x := 6 * i + 1) hC hP dL_law_2019 (by omega) (by omega) ?_
  refine v_aload_n hC dL_law_2020 rfl ?_
  refine v_callSN hC hN lkw_isGood dL_law_2021 (w_isGood hl0 (c_X5_isGood hl0 hO hB (sc (6 * i + 1))) hO.k0 (fun v μ h => by obtain ⟨r, τ, -, rfl, rfl⟩ := h; exact ⟨⟨r, rfl⟩, h60, rfl⟩) (fun E μ h => hxs_isGood h.1)) (by omega) (by decide) rfl rfl (Nat.le_of_ble_eq_true rfl) (by omega) (by omega) (fun v μ h => ?_)
  have hAG := law_simple hI (fun E => (cdl_isGood E).1) (fun τ hτ => ag_isGood hτ (sc (6 * i + 1)))
  rcases h with ⟨E, ⟨hE, rfl⟩, rfl⟩ | ⟨n, μ0, ⟨r, s', hr, hn, rfl⟩, rfl, rfl⟩
  · dsimp only
    obtain ⟨g1, g2⟩ := hAG.1 E hE
    have cdE := cdl_isGood E
    refine v_istore hC dL_law_2024 (by decide) ?_
    refine v_aload_n hC dL_law_2026 rfl ?_
    refine v_aload_n hC dL_law_2027 rfl ?_
    refine v_iload hC dL_law_2028 rfl ?_
    refine v_iconst (v := nI 1) hC dL_law_2030 (by decide) ?_
    refine v_iaddN hC dL_law_2031 ?_
    refine v_scr (x := 6 * i + 1) hC hP dL_law_2032 (by omega) (by omega) ?_
    refine v_callV hC lk_L_224 dL_law_2033 (c_X6_isGood (σ := σ) hl0 hQ hB (sc (6 * i + 1))) (by omega) (by decide) hQ.k30 rfl rfl rfl rfl (Nat.le_of_ble_eq_true rfl) (by omega) (by omega) (fun v μ h => ?_) (fun _ _ h => h.elim)
    rcases h with ⟨k, hk, rfl, rfl⟩ | ⟨r2, τ2, hk, rfl, rfl⟩
    rotate_left
    · rw [g1] at hk
      cases hk
    rw [g1] at hk
    cases hk
    dsimp only
    refine v_istore hC dL_law_2036 (by decide) ?_
    refine v_aload_n hC dL_law_2038 rfl ?_
    refine v_callV_r0 hC lk_L_134 dL_law_2039 (c_X6_thrown hl0 hQ g2.1.1) (by omega) (by decide) hQ.k30 rfl rfl rfl rfl (Nat.le_of_ble_eq_true rfl) (by omega) (by omega) ?_
    rw [show th (th σ 0) (cd_isGood E) 30 0 0 0 = cd_isGood E from up_same _ _ _ _ _ _]
    refine v_iload hC dL_law_2042 rfl ?_
    refine v_icmp_eq (tgt := 2049) hC dL_law_2044 (by decide) (fun _ => ?_) (fun q => absurd rfl q)
    refine v_iload hC dL_law_2049 rfl ?_
    refine v_if_neN (tgt := 2073) hC dL_law_2051 (by decide) (by omega) (fun _ => ?_) (fun q => absurd q cdE.2)
    refine v_goto (tgt := 2247) hC dL_law_2073 (by decide) ?_
    exact v_wide (by omega) (by omega) (v_sub rfl (nx _ _ _ _ _ g2 rfl rfl rfl rfl))
  · dsimp only
    obtain ⟨hBw, hRw, τ9, A9, g1, g2, g3, g4⟩ := hAG.2 r s' hr (wB n) (wB_lt n)
    refine v_istore hC dL_law_2024 (by decide) ?_
    refine v_aload_n hC dL_law_2026 rfl ?_
    refine v_aload_n hC dL_law_2027 rfl ?_
    refine v_iload hC dL_law_2028 rfl ?_
    refine v_iconst (v := nI 1) hC dL_law_2030 (by decide) ?_
    refine v_iaddN hC dL_law_2031 ?_
    refine v_scr (x := 6 * i + 1) hC hP dL_law_2032 (by omega) (by omega) ?_
    refine v_callV hC lk_L_224 dL_law_2033 (c_X6_isGood (σ := (up s' 60 0 0 0 (wB n))) hl0 hQ hBw (sc (6 * i + 1))) (by omega) (by decide) hQ.k30 rfl rfl rfl rfl (Nat.le_of_ble_eq_true rfl) (by omega) (by omega) (fun v μ h => ?_) (fun _ _ h => h.elim)
    rcases h with ⟨k, hk, rfl, rfl⟩ | ⟨r2, τ2, hk, rfl, rfl⟩
    skip
    · rw [g1] at hk
      cases hk
    rw [g1] at hk
    cases hk
    dsimp only
    refine v_istore hC dL_law_2036 (by decide) ?_
    refine v_aload_n hC dL_law_2038 rfl ?_
    refine v_callV_r0 hC lk_L_134 dL_law_2039 (c_X6_thrown hl0 hQ g2.1.1) (by omega) (by decide) hQ.k30 rfl rfl rfl rfl (Nat.le_of_ble_eq_true rfl) (by omega) (by omega) ?_
    rw [g3]
    refine v_iload hC dL_law_2042 rfl ?_
    refine v_icmp_eq (tgt := 2049) hC dL_law_2044 (by decide) (fun _ => ?_) (fun q => absurd rfl q)
    refine v_iload hC dL_law_2049 rfl ?_
    refine v_if_neN (tgt := 2073) hC dL_law_2051 (by decide) (by decide) (fun q => absurd rfl q) (fun _ => ?_)
    refine v_aload_n hC dL_law_2054 rfl ?_
    refine v_iconst (v := nI 0) hC dL_law_2055 (by decide) ?_
    refine al_60 hC dL_law_2056 h60 (by decide) ?_
    rw [g4, wB_of hn]
    refine v_iload hC dL_law_2057 rfl ?_
    refine v_if_eq (tgt := 2066) hC dL_law_2059 (by decide) (fun c0 => ?_) (fun c0 => ?_)
    · rw [show wB r = 0 from if_pos c0]
      refine v_lconst (v := lN 0) hC dL_law_2066 (by decide) ?_
      refine v_lcmp hC dL_law_2067 ?_
      refine v_if_eqJ (tgt := 2073) hC dL_law_2068 (by decide) (by decide) (by decide) (fun _ => ?_) (fun q => absurd rfl q)
      refine v_goto (tgt := 2247) hC dL_law_2073 (by decide) ?_
      exact v_wide (by omega) (by omega) (v_sub rfl (nx _ _ _ _ _ g2 rfl rfl rfl rfl))
    · rw [show wB r = 1 from if_neg c0]
      refine v_lconst (v := lN 1) hC dL_law_2062 (by decide) ?_
      refine v_goto (tgt := 2067) hC dL_law_2063 (by decide) ?_
      refine v_lcmp hC dL_law_2067 ?_
      refine v_if_eqJ (tgt := 2073) hC dL_law_2068 (by decide) (by decide) (by decide) (fun _ => ?_) (fun q => absurd rfl q)
      refine v_goto (tgt := 2247) hC dL_law_2073 (by decide) ?_
      exact v_wide (by omega) (by omega) (v_sub rfl (nx _ _ _ _ _ g2 rfl rfl rfl rfl))
theorem cdl_vote (E : String) : cd_vote E < 5 ∧ cd_vote E ≠ 0 := by
  unfold cd_vote
  first | (constructor <;> decide) | (repeat' split) <;> (constructor <;> decide)
theorem hxs_vote {σ : SG} {a1 : Int32} {a2 : Int32} {a3 : Nat} {E : String} (h : k_vote σ a1 a2 a3 = .inl E) : E = eNSE ∨ E = eIAE ∨ E = eISE := by
  have h2 : ON (k_vote σ a1 a2 a3) [eNSE, eIAE, eISE] := by
    unfold k_vote
    repeat (first | exact on_ret | exact on_err (by simp) | refine on_gR (by simp) (fun _ => ?_) | refine on_ite ?_ ?_)
  simpa using h2 E h
set_option maxHeartbeats 4000000 in
set_option maxRecDepth 100000 in
theorem case_vote {X : XT} {G : GT} {mc ms K0 S0 p N : Nat} {sc : Nat → Int32} {ok : KF} {ad : AD} {σ : SG} {A : AS} {e i : Nat} (hl0 : (xl X).stackTraces = false) (hC : Cx X G "BranchyardLaw" cL_law 9 16 mc ms) (hN : NC (xs X)) (hP : Scr G (xs X) p N sc) (hNl : N ≤ 3072) (hI : INV G ok ad σ A e i) (hj : 6 * i + 6 ≤ N) (h1 : K0 + 200 * (i + 1) ≤ mc) (h2 : S0 + 3000 * (i + 1) + 4 * 4700 ≤ ms)
    (nx : ∀ ok' ad' σ' A' e', INV G ok' ad' σ' A' e' (i + 1) → ad' 0 0 0 = ad 0 0 0 → ad' 30 0 0 = ad 30 0 0 → ad' 60 0 0 = ad 60 0 0 → ad' 61 0 0 = ad 61 0 0 → V X G (K0 + 200 * (i + 1)) (S0 + 3000 * (i + 1) + 4 * e') ok' ad' σ' [(0, .ref p), (1, .ref (ad 0 0 0)), (2, .ref (ad 30 0 0)), (3, .ref (ad 60 0 0)), (4, .ref (ad 61 0 0)), (5, iv (6 * i))] 2247 []) : V X G (K0 + 200 * i) (S0 + 3000 * i + 4 * e) ok ad σ [(0, .ref p), (1, .ref (ad 0 0 0)), (2, .ref (ad 30 0 0)), (3, .ref (ad 60 0 0)), (4, .ref (ad 61 0 0)), (5, iv (6 * i))] 647 [] := by
  obtain ⟨hR, ⟨hCK, hVK⟩, ⟨hArr, hKM⟩, ⟨h60, h61, n57, n58, n62, hO, hQ⟩, c5, c1, c6, cK, cq, ct, ce⟩ := id hI
  have hB := hR.1
  refine v_aload_n hC dL_law_647 rfl ?_
  refine v_aload_n hC dL_law_648 rfl ?_
  refine v_iload hC dL_law_649 rfl ?_
  refine v_iconst (v := nI 1) hC dL_law_651 (by decide) ?_
  refine v_iaddN hC dL_law_652 ?_
  refine v_scr (x := 6 * i + 1) hC hP dL_law_653 (by omega) (by omega) ?_
  refine v_aload_n hC dL_law_654 rfl ?_
  refine v_iload hC dL_law_655 rfl ?_
  refine v_iconst (v := nI 2) hC dL_law_657 (by decide) ?_
  refine v_iaddN hC dL_law_658 ?_
  refine v_scr (x := 6 * i + 2) hC hP dL_law_659 (by omega) (by omega) ?_
  refine v_aload_n hC dL_law_660 rfl ?_
  refine v_iload hC dL_law_661 rfl ?_
  refine v_iconst (v := nI 3) hC dL_law_663 (by decide) ?_
  refine v_iaddN hC dL_law_664 ?_
  refine v_scr (x := 6 * i + 3) hC hP dL_law_665 (by omega) (by omega) ?_
  refine v_if_eq (tgt := 673) hC dL_law_666 (by decide) (fun cz => ?_) (fun cz => ?_)
  · refine v_iconst (v := nI 0) hC dL_law_673 (by decide) ?_
    refine v_aload_n hC dL_law_674 rfl ?_
    refine v_callSN hC hN lkw_vote dL_law_675 (w_vote hl0 (c_X5_vote hl0 hO hB (sc (6 * i + 1)) (sc (6 * i + 2)) (b := 0) (by decide)) hO.k0 (fun v μ h => by obtain ⟨r, τ, -, rfl, rfl⟩ := h; exact ⟨⟨r, rfl⟩, h60, rfl⟩) (fun E μ h => hxs_vote h.1)) (by omega) (by decide) rfl rfl (Nat.le_of_ble_eq_true rfl) (by omega) (by omega) (fun v μ h => ?_)
    have hAG := law_simple hI (fun E => (cdl_vote E).1) (fun τ hτ => ag_vote hτ (sc (6 * i + 1)) (sc (6 * i + 2)) (b := 0))
    rcases h with ⟨E, ⟨hE, rfl⟩, rfl⟩ | ⟨n, μ0, ⟨r, s', hr, hn, rfl⟩, rfl, rfl⟩
    · dsimp only
      obtain ⟨g1, g2⟩ := hAG.1 E hE
      have cdE := cdl_vote E
      refine v_istore hC dL_law_678 (by decide) ?_
      refine v_aload_n hC dL_law_680 rfl ?_
      refine v_aload_n hC dL_law_681 rfl ?_
      refine v_iload hC dL_law_682 rfl ?_
      refine v_iconst (v := nI 1) hC dL_law_684 (by decide) ?_
      refine v_iaddN hC dL_law_685 ?_
      refine v_scr (x := 6 * i + 1) hC hP dL_law_686 (by omega) (by omega) ?_
      refine v_aload_n hC dL_law_687 rfl ?_
      refine v_iload hC dL_law_688 rfl ?_
      refine v_iconst (v := nI 2) hC dL_law_690 (by decide) ?_
      refine v_iaddN hC dL_law_691 ?_
      refine v_scr (x := 6 * i + 2) hC hP dL_law_692 (by omega) (by omega) ?_
      refine v_aload_n hC dL_law_693 rfl ?_
      refine v_iload hC dL_law_694 rfl ?_
      refine v_iconst (v := nI 3) hC dL_law_696 (by decide) ?_
      refine v_iaddN hC dL_law_697 ?_
      refine v_scr (x := 6 * i + 3) hC hP dL_law_698 (by omega) (by omega) ?_
      refine v_if_eq (tgt := 706) hC dL_law_699 (by decide) (fun _ => ?_) (fun q => absurd cz q)
      refine v_iconst (v := nI 0) hC dL_law_706 (by decide) ?_
      refine v_callV hC lk_L_158 dL_law_707 (c_X6_vote (σ := σ) hl0 hQ hB (sc (6 * i + 1)) (sc (6 * i + 2)) (b := 0) (by decide)) (by omega) (by decide) hQ.k30 rfl rfl rfl rfl (Nat.le_of_ble_eq_true rfl) (by omega) (by omega) (fun v μ h => ?_) (fun _ _ h => h.elim)
      rcases h with ⟨k, hk, rfl, rfl⟩ | ⟨r2, τ2, hk, rfl, rfl⟩
      rotate_left
      · rw [g1] at hk
        cases hk
      rw [g1] at hk
      cases hk
      dsimp only
      refine v_istore hC dL_law_710 (by decide) ?_
      refine v_aload_n hC dL_law_712 rfl ?_
      refine v_callV_r0 hC lk_L_134 dL_law_713 (c_X6_thrown hl0 hQ g2.1.1) (by omega) (by decide) hQ.k30 rfl rfl rfl rfl (Nat.le_of_ble_eq_true rfl) (by omega) (by omega) ?_
      rw [show th (th σ 0) (cd_vote E) 30 0 0 0 = cd_vote E from up_same _ _ _ _ _ _]
      refine v_iload hC dL_law_716 rfl ?_
      refine v_icmp_eq (tgt := 723) hC dL_law_718 (by decide) (fun _ => ?_) (fun q => absurd rfl q)
      refine v_iload hC dL_law_723 rfl ?_
      refine v_if_neN (tgt := 740) hC dL_law_725 (by decide) (by omega) (fun _ => ?_) (fun q => absurd q cdE.2)
      refine v_goto (tgt := 2247) hC dL_law_740 (by decide) ?_
      exact v_wide (by omega) (by omega) (v_sub rfl (nx _ _ _ _ _ g2 rfl rfl rfl rfl))
    · dsimp only
      obtain ⟨hBw, hRw, τ9, A9, g1, g2, g3, g4⟩ := hAG.2 r s' hr (wI n) (wI_lt n)
      refine v_istore hC dL_law_678 (by decide) ?_
      refine v_aload_n hC dL_law_680 rfl ?_
      refine v_aload_n hC dL_law_681 rfl ?_
      refine v_iload hC dL_law_682 rfl ?_
      refine v_iconst (v := nI 1) hC dL_law_684 (by decide) ?_
      refine v_iaddN hC dL_law_685 ?_
      refine v_scr (x := 6 * i + 1) hC hP dL_law_686 (by omega) (by omega) ?_
      refine v_aload_n hC dL_law_687 rfl ?_
      refine v_iload hC dL_law_688 rfl ?_
      refine v_iconst (v := nI 2) hC dL_law_690 (by decide) ?_
      refine v_iaddN hC dL_law_691 ?_
      refine v_scr (x := 6 * i + 2) hC hP dL_law_692 (by omega) (by omega) ?_
      refine v_aload_n hC dL_law_693 rfl ?_
      refine v_iload hC dL_law_694 rfl ?_
      refine v_iconst (v := nI 3) hC dL_law_696 (by decide) ?_
      refine v_iaddN hC dL_law_697 ?_
      refine v_scr (x := 6 * i + 3) hC hP dL_law_698 (by omega) (by omega) ?_
      refine v_if_eq (tgt := 706) hC dL_law_699 (by decide) (fun _ => ?_) (fun q => absurd cz q)
      refine v_iconst (v := nI 0) hC dL_law_706 (by decide) ?_
      refine v_callV hC lk_L_158 dL_law_707 (c_X6_vote (σ := (up s' 60 0 0 0 (wI n))) hl0 hQ hBw (sc (6 * i + 1)) (sc (6 * i + 2)) (b := 0) (by decide)) (by omega) (by decide) hQ.k30 rfl rfl rfl rfl (Nat.le_of_ble_eq_true rfl) (by omega) (by omega) (fun v μ h => ?_) (fun _ _ h => h.elim)
      rcases h with ⟨k, hk, rfl, rfl⟩ | ⟨r2, τ2, hk, rfl, rfl⟩
      skip
      · rw [g1] at hk
        cases hk
      rw [g1] at hk
      cases hk
      dsimp only
      refine v_istore hC dL_law_710 (by decide) ?_
      refine v_aload_n hC dL_law_712 rfl ?_
      refine v_callV_r0 hC lk_L_134 dL_law_713 (c_X6_thrown hl0 hQ g2.1.1) (by omega) (by decide) hQ.k30 rfl rfl rfl rfl (Nat.le_of_ble_eq_true rfl) (by omega) (by omega) ?_
      rw [g3]
      refine v_iload hC dL_law_716 rfl ?_
      refine v_icmp_eq (tgt := 723) hC dL_law_718 (by decide) (fun _ => ?_) (fun q => absurd rfl q)
      refine v_iload hC dL_law_723 rfl ?_
      refine v_if_neN (tgt := 740) hC dL_law_725 (by decide) (by decide) (fun q => absurd rfl q) (fun _ => ?_)
      refine v_aload_n hC dL_law_728 rfl ?_
      refine v_iconst (v := nI 0) hC dL_law_729 (by decide) ?_
      refine al_60 hC dL_law_730 h60 (by decide) ?_
      rw [g4, wI_of hn]
      refine v_iload hC dL_law_731 rfl ?_
      refine v_i2l (v := lN (wI r)) hC dL_law_733 (lN_wN _).symm ?_
      refine v_lcmp hC dL_law_734 ?_
      refine v_if_eqJ (tgt := 740) hC dL_law_735 (by decide) (wI_lt r) (wI_lt r) (fun _ => ?_) (fun q => absurd rfl q)
      refine v_goto (tgt := 2247) hC dL_law_740 (by decide) ?_
      exact v_wide (by omega) (by omega) (v_sub rfl (nx _ _ _ _ _ g2 rfl rfl rfl rfl))
  · refine v_iconst (v := nI 1) hC dL_law_669 (by decide) ?_
    refine v_goto (tgt := 674) hC dL_law_670 (by decide) ?_
    refine v_aload_n hC dL_law_674 rfl ?_
    refine v_callSN hC hN lkw_vote dL_law_675 (w_vote hl0 (c_X5_vote hl0 hO hB (sc (6 * i + 1)) (sc (6 * i + 2)) (b := 1) (by decide)) hO.k0 (fun v μ h => by obtain ⟨r, τ, -, rfl, rfl⟩ := h; exact ⟨⟨r, rfl⟩, h60, rfl⟩) (fun E μ h => hxs_vote h.1)) (by omega) (by decide) rfl rfl (Nat.le_of_ble_eq_true rfl) (by omega) (by omega) (fun v μ h => ?_)
    have hAG := law_simple hI (fun E => (cdl_vote E).1) (fun τ hτ => ag_vote hτ (sc (6 * i + 1)) (sc (6 * i + 2)) (b := 1))
    rcases h with ⟨E, ⟨hE, rfl⟩, rfl⟩ | ⟨n, μ0, ⟨r, s', hr, hn, rfl⟩, rfl, rfl⟩
    · dsimp only
      obtain ⟨g1, g2⟩ := hAG.1 E hE
      have cdE := cdl_vote E
      refine v_istore hC dL_law_678 (by decide) ?_
      refine v_aload_n hC dL_law_680 rfl ?_
      refine v_aload_n hC dL_law_681 rfl ?_
      refine v_iload hC dL_law_682 rfl ?_
      refine v_iconst (v := nI 1) hC dL_law_684 (by decide) ?_
      refine v_iaddN hC dL_law_685 ?_
      refine v_scr (x := 6 * i + 1) hC hP dL_law_686 (by omega) (by omega) ?_
      refine v_aload_n hC dL_law_687 rfl ?_
      refine v_iload hC dL_law_688 rfl ?_
      refine v_iconst (v := nI 2) hC dL_law_690 (by decide) ?_
      refine v_iaddN hC dL_law_691 ?_
      refine v_scr (x := 6 * i + 2) hC hP dL_law_692 (by omega) (by omega) ?_
      refine v_aload_n hC dL_law_693 rfl ?_
      refine v_iload hC dL_law_694 rfl ?_
      refine v_iconst (v := nI 3) hC dL_law_696 (by decide) ?_
      refine v_iaddN hC dL_law_697 ?_
      refine v_scr (x := 6 * i + 3) hC hP dL_law_698 (by omega) (by omega) ?_
      refine v_if_eq (tgt := 706) hC dL_law_699 (by decide) (fun q => absurd q cz) (fun _ => ?_)
      refine v_iconst (v := nI 1) hC dL_law_702 (by decide) ?_
      refine v_goto (tgt := 707) hC dL_law_703 (by decide) ?_
      refine v_callV hC lk_L_158 dL_law_707 (c_X6_vote (σ := σ) hl0 hQ hB (sc (6 * i + 1)) (sc (6 * i + 2)) (b := 1) (by decide)) (by omega) (by decide) hQ.k30 rfl rfl rfl rfl (Nat.le_of_ble_eq_true rfl) (by omega) (by omega) (fun v μ h => ?_) (fun _ _ h => h.elim)
      rcases h with ⟨k, hk, rfl, rfl⟩ | ⟨r2, τ2, hk, rfl, rfl⟩
      rotate_left
      · rw [g1] at hk
        cases hk
      rw [g1] at hk
      cases hk
      dsimp only
      refine v_istore hC dL_law_710 (by decide) ?_
      refine v_aload_n hC dL_law_712 rfl ?_
      refine v_callV_r0 hC lk_L_134 dL_law_713 (c_X6_thrown hl0 hQ g2.1.1) (by omega) (by decide) hQ.k30 rfl rfl rfl rfl (Nat.le_of_ble_eq_true rfl) (by omega) (by omega) ?_
      rw [show th (th σ 0) (cd_vote E) 30 0 0 0 = cd_vote E from up_same _ _ _ _ _ _]
      refine v_iload hC dL_law_716 rfl ?_
      refine v_icmp_eq (tgt := 723) hC dL_law_718 (by decide) (fun _ => ?_) (fun q => absurd rfl q)
      refine v_iload hC dL_law_723 rfl ?_
      refine v_if_neN (tgt := 740) hC dL_law_725 (by decide) (by omega) (fun _ => ?_) (fun q => absurd q cdE.2)
      refine v_goto (tgt := 2247) hC dL_law_740 (by decide) ?_
      exact v_wide (by omega) (by omega) (v_sub rfl (nx _ _ _ _ _ g2 rfl rfl rfl rfl))
    · dsimp only
      obtain ⟨hBw, hRw, τ9, A9, g1, g2, g3, g4⟩ := hAG.2 r s' hr (wI n) (wI_lt n)
      refine v_istore hC dL_law_678 (by decide) ?_
      refine v_aload_n hC dL_law_680 rfl ?_
      refine v_aload_n hC dL_law_681 rfl ?_
      refine v_iload hC dL_law_682 rfl ?_
      refine v_iconst (v := nI 1) hC dL_law_684 (by decide) ?_
      refine v_iaddN hC dL_law_685 ?_
      refine v_scr (x := 6 * i + 1) hC hP dL_law_686 (by omega) (by omega) ?_
      refine v_aload_n hC dL_law_687 rfl ?_
      refine v_iload hC dL_law_688 rfl ?_
      refine v_iconst (v := nI 2) hC dL_law_690 (by decide) ?_
      refine v_iaddN hC dL_law_691 ?_
      refine v_scr (x := 6 * i + 2) hC hP dL_law_692 (by omega) (by omega) ?_
      refine v_aload_n hC dL_law_693 rfl ?_
      refine v_iload hC dL_law_694 rfl ?_
      refine v_iconst (v := nI 3) hC dL_law_696 (by decide) ?_
      refine v_iaddN hC dL_law_697 ?_
      refine v_scr (x := 6 * i + 3) hC hP dL_law_698 (by omega) (by omega) ?_
      refine v_if_eq (tgt := 706) hC dL_law_699 (by decide) (fun q => absurd q cz) (fun _ => ?_)
      refine v_iconst (v := nI 1) hC dL_law_702 (by decide) ?_
      refine v_goto (tgt := 707) hC dL_law_703 (by decide) ?_
      refine v_callV hC lk_L_158 dL_law_707 (c_X6_vote (σ := (up s' 60 0 0 0 (wI n))) hl0 hQ hBw (sc (6 * i + 1)) (sc (6 * i + 2)) (b := 1) (by decide)) (by omega) (by decide) hQ.k30 rfl rfl rfl rfl (Nat.le_of_ble_eq_true rfl) (by omega) (by omega) (fun v μ h => ?_) (fun _ _ h => h.elim)
      rcases h with ⟨k, hk, rfl, rfl⟩ | ⟨r2, τ2, hk, rfl, rfl⟩
      skip
      · rw [g1] at hk
        cases hk
      rw [g1] at hk
      cases hk
      dsimp only
      refine v_istore hC dL_law_710 (by decide) ?_
      refine v_aload_n hC dL_law_712 rfl ?_
      refine v_callV_r0 hC lk_L_134 dL_law_713 (c_X6_thrown hl0 hQ g2.1.1) (by omega) (by decide) hQ.k30 rfl rfl rfl rfl (Nat.le_of_ble_eq_true rfl) (by omega) (by omega) ?_
      rw [g3]
      refine v_iload hC dL_law_716 rfl ?_
      refine v_icmp_eq (tgt := 723) hC dL_law_718 (by decide) (fun _ => ?_) (fun q => absurd rfl q)
      refine v_iload hC dL_law_723 rfl ?_
      refine v_if_neN (tgt := 740) hC dL_law_725 (by decide) (by decide) (fun q => absurd rfl q) (fun _ => ?_)
      refine v_aload_n hC dL_law_728 rfl ?_
      refine v_iconst (v := nI 0) hC dL_law_729 (by decide) ?_
      refine al_60 hC dL_law_730 h60 (by decide) ?_
      rw [g4, wI_of hn]
      refine v_iload hC dL_law_731 rfl ?_
      refine v_i2l (v := lN (wI r)) hC dL_law_733 (lN_wN _).symm ?_
      refine v_lcmp hC dL_law_734 ?_
      refine v_if_eqJ (tgt := 740) hC dL_law_735 (by decide) (wI_lt r) (wI_lt r) (fun _ => ?_) (fun q => absurd rfl q)
      refine v_goto (tgt := 2247) hC dL_law_740 (by decide) ?_
      exact v_wide (by omega) (by omega) (v_sub rfl (nx _ _ _ _ _ g2 rfl rfl rfl rfl))
set_option maxRecDepth 100000 in
theorem case_builds {X : XT} {G : GT} {mc ms K0 S0 p N : Nat} {sc : Nat → Int32} {ok : KF} {ad : AD} {σ : SG} {A : AS} {e i : Nat} (hl0 : (xl X).stackTraces = false) (hC : Cx X G "BranchyardLaw" cL_law 9 16 mc ms) (hN : NC (xs X)) (hP : Scr G (xs X) p N sc) (hNl : N ≤ 3072) (hI : INV G ok ad σ A e i) (hj : 6 * i + 6 ≤ N) (h1 : K0 + 200 * (i + 1) ≤ mc) (h2 : S0 + 3000 * (i + 1) + 4 * 4700 ≤ ms)
    (nx : ∀ ok' ad' σ' A' e', INV G ok' ad' σ' A' e' (i + 1) → ad' 0 0 0 = ad 0 0 0 → ad' 30 0 0 = ad 30 0 0 → ad' 60 0 0 = ad 60 0 0 → ad' 61 0 0 = ad 61 0 0 → V X G (K0 + 200 * (i + 1)) (S0 + 3000 * (i + 1) + 4 * e') ok' ad' σ' [(0, .ref p), (1, .ref (ad 0 0 0)), (2, .ref (ad 30 0 0)), (3, .ref (ad 60 0 0)), (4, .ref (ad 61 0 0)), (5, iv (6 * i))] 2247 []) : V X G (K0 + 200 * i) (S0 + 3000 * i + 4 * e) ok ad σ [(0, .ref p), (1, .ref (ad 0 0 0)), (2, .ref (ad 30 0 0)), (3, .ref (ad 60 0 0)), (4, .ref (ad 61 0 0)), (5, iv (6 * i))] 2076 [] := by
  obtain ⟨hR, ⟨hCK, hVK⟩, ⟨hArr, hKM⟩, ⟨h60, h61, n57, n58, n62, hO, hQ⟩, c5, c1, c6, cK, cq, ct, ce⟩ := id hI
  have hB := hR.1
  refine v_aload_n hC dL_law_2076 rfl ?_
  refine v_callV_r0 hC lk_L_225 dL_law_2077 (c_X5_builds hl0 hO hB) (by omega) (by decide) hO.k0 rfl rfl rfl rfl (Nat.le_of_ble_eq_true rfl) (by omega) (by omega) ?_
  refine v_aload_n hC dL_law_2080 rfl ?_
  refine v_callV_r0 hC lk_L_228 dL_law_2081 (c_X6_builds hl0 hQ hB) (by omega) (by decide) hQ.k30 rfl rfl rfl rfl (Nat.le_of_ble_eq_true rfl) (by omega) (by omega) ?_
  rw [show th σ 0 30 0 0 5 = σ 16 0 0 2 from c5]
  refine v_icmp_eq (tgt := 2247) hC dL_law_2084 (by decide) (fun _ => ?_) (fun q => absurd rfl q)
  exact v_wide (by omega) (by omega) (v_sub rfl (nx _ _ _ _ _ (hI.same (th_BD hB (by decide)) (fun k i j x q1 q2 => th_c q2)) rfl rfl rfl rfl))
set_option maxRecDepth 100000 in
theorem case_taken {X : XT} {G : GT} {mc ms K0 S0 p N : Nat} {sc : Nat → Int32} {ok : KF} {ad : AD} {σ : SG} {A : AS} {e i : Nat} (hl0 : (xl X).stackTraces = false) (hC : Cx X G "BranchyardLaw" cL_law 9 16 mc ms) (hN : NC (xs X)) (hP : Scr G (xs X) p N sc) (hNl : N ≤ 3072) (hI : INV G ok ad σ A e i) (hj : 6 * i + 6 ≤ N) (h1 : K0 + 200 * (i + 1) ≤ mc) (h2 : S0 + 3000 * (i + 1) + 4 * 4700 ≤ ms)
    (nx : ∀ ok' ad' σ' A' e', INV G ok' ad' σ' A' e' (i + 1) → ad' 0 0 0 = ad 0 0 0 → ad' 30 0 0 = ad 30 0 0 → ad' 60 0 0 = ad 60 0 0 → ad' 61 0 0 = ad 61 0 0 → V X G (K0 + 200 * (i + 1)) (S0 + 3000 * (i + 1) + 4 * e') ok' ad' σ' [(0, .ref p), (1, .ref (ad 0 0 0)), (2, .ref (ad 30 0 0)), (3, .ref (ad 60 0 0)), (4, .ref (ad 61 0 0)), (5, iv (6 * i))] 2247 []) : V X G (K0 + 200 * i) (S0 + 3000 * i + 4 * e) ok ad σ [(0, .ref p), (1, .ref (ad 0 0 0)), (2, .ref (ad 30 0 0)), (3, .ref (ad 60 0 0)), (4, .ref (ad 61 0 0)), (5, iv (6 * i))] 2089 [] := by
  obtain ⟨hR, ⟨hCK, hVK⟩, ⟨hArr, hKM⟩, ⟨h60, h61, n57, n58, n62, hO, hQ⟩, c5, c1, c6, cK, cq, ct, ce⟩ := id hI
  have hB := hR.1
  refine v_aload_n hC dL_law_2089 rfl ?_
  refine v_callV_r0 hC lk_L_229 dL_law_2090 (c_X5_taken hl0 hO hB) (by omega) (by decide) hO.k0 rfl rfl rfl rfl (Nat.le_of_ble_eq_true rfl) (by omega) (by omega) ?_
  refine v_aload_n hC dL_law_2093 rfl ?_
  refine v_callV_r0 hC lk_L_233 dL_law_2094 (c_X6_taken hl0 hQ hB) (by omega) (by decide) hQ.k30 rfl rfl rfl rfl (Nat.le_of_ble_eq_true rfl) (by omega) (by omega) ?_
  rw [show th σ 0 30 0 0 6 = σ 16 0 0 3 from c6]
  have h3 : σ 16 0 0 3 < 100000 := hB 16 0 0 3 rfl
  refine v_lcmp hC dL_law_2097 ?_
  refine v_if_eqJ (tgt := 2247) hC dL_law_2098 (by decide) (by omega) (by omega) (fun _ => ?_) (fun q => absurd rfl q)
  exact v_wide (by omega) (by omega) (v_sub rfl (nx _ _ _ _ _ (hI.same (th_BD hB (by decide)) (fun k i j x q1 q2 => th_c q2)) rfl rfl rfl rfl))
set_option maxRecDepth 100000 in
theorem case_isSound {X : XT} {G : GT} {mc ms K0 S0 p N : Nat} {sc : Nat → Int32} {ok : KF} {ad : AD} {σ : SG} {A : AS} {e i : Nat} (hl0 : (xl X).stackTraces = false) (hC : Cx X G "BranchyardLaw" cL_law 9 16 mc ms) (hN : NC (xs X)) (hP : Scr G (xs X) p N sc) (hNl : N ≤ 3072) (hI : INV G ok ad σ A e i) (hj : 6 * i + 6 ≤ N) (h1 : K0 + 200 * (i + 1) ≤ mc) (h2 : S0 + 3000 * (i + 1) + 4 * 4700 ≤ ms)
    (nx : ∀ ok' ad' σ' A' e', INV G ok' ad' σ' A' e' (i + 1) → ad' 0 0 0 = ad 0 0 0 → ad' 30 0 0 = ad 30 0 0 → ad' 60 0 0 = ad 60 0 0 → ad' 61 0 0 = ad 61 0 0 → V X G (K0 + 200 * (i + 1)) (S0 + 3000 * (i + 1) + 4 * e') ok' ad' σ' [(0, .ref p), (1, .ref (ad 0 0 0)), (2, .ref (ad 30 0 0)), (3, .ref (ad 60 0 0)), (4, .ref (ad 61 0 0)), (5, iv (6 * i))] 2247 []) : V X G (K0 + 200 * i) (S0 + 3000 * i + 4 * e) ok ad σ [(0, .ref p), (1, .ref (ad 0 0 0)), (2, .ref (ad 30 0 0)), (3, .ref (ad 60 0 0)), (4, .ref (ad 61 0 0)), (5, iv (6 * i))] 2234 [] := by
  obtain ⟨hR, ⟨hCK, hVK⟩, ⟨hArr, hKM⟩, ⟨h60, h61, n57, n58, n62, hO, hQ⟩, c5, c1, c6, cK, cq, ct, ce⟩ := id hI
  have hB := hR.1
  refine v_aload_n hC dL_law_2234 rfl ?_
  refine v_callV_r0 hC lk_L_241 dL_law_2235 (c_X5_isSound hl0 hO hB) (by omega) (by decide) hO.k0 rfl rfl rfl rfl (Nat.le_of_ble_eq_true rfl) (by omega) (by omega) ?_
  refine v_aload_n hC dL_law_2238 rfl ?_
  refine v_callV_r0 hC lk_L_245 dL_law_2239 (c_X6_isSound hl0 hQ hB) (by omega) (by decide) hQ.k30 rfl rfl rfl rfl (Nat.le_of_ble_eq_true rfl) (by omega) (by omega) ?_
  rw [snd_true hR]
  refine v_icmp_eq (tgt := 2247) hC dL_law_2242 (by decide) (fun _ => ?_) (fun q => absurd rfl q)
  exact v_wide (by omega) (by omega) (v_sub rfl (nx _ _ _ _ _ (hI.same (th_BD hB (by decide)) (fun k i j x q1 q2 => th_c q2)) rfl rfl rfl rfl))
theorem along_s {σ s' : SG} {c : Int32} {r : Nat} (h : k_along σ c = .inr (r, s')) : s' = σ := by
  unfold k_along gR at h
  cases e : inR c (σ 0 0 0 0) with
  | none => rw [e] at h; cases h
  | some n =>
    rw [e] at h
    dsimp only at h
    by_cases q : σ 6 n 0 1 ≠ 109
    · rw [if_pos q] at h; cases h
    · rw [if_neg q] at h; cases h; rfl
theorem cdl_along (E : String) : cd_along E < 5 ∧ cd_along E ≠ 0 := by
  unfold cd_along
  first | (constructor <;> decide) | (repeat' split) <;> (constructor <;> decide)
theorem hxs_along {σ : SG} {a1 : Int32} {E : String} (h : k_along σ a1 = .inl E) : E = eNSE ∨ E = eISE := by
  have h2 : ON (k_along σ a1) [eNSE, eISE] := by
    unfold k_along
    repeat (first | exact on_ret | exact on_err (by simp) | refine on_gR (by simp) (fun _ => ?_) | refine on_ite ?_ ?_)
  simpa using h2 E h
set_option maxHeartbeats 4000000 in
set_option maxRecDepth 100000 in
theorem case_along {X : XT} {G : GT} {mc ms K0 S0 p N : Nat} {sc : Nat → Int32} {ok : KF} {ad : AD} {σ : SG} {A : AS} {e i : Nat} (hl0 : (xl X).stackTraces = false) (hC : Cx X G "BranchyardLaw" cL_law 9 16 mc ms) (hN : NC (xs X)) (hP : Scr G (xs X) p N sc) (hNl : N ≤ 3072) (hI : INV G ok ad σ A e i) (hj : 6 * i + 6 ≤ N) (h1 : K0 + 200 * (i + 1) ≤ mc) (h2 : S0 + 3000 * (i + 1) + 4 * 4700 ≤ ms)
    (nx : ∀ ok' ad' σ' A' e', INV G ok' ad' σ' A' e' (i + 1) → ad' 0 0 0 = ad 0 0 0 → ad' 30 0 0 = ad 30 0 0 → ad' 60 0 0 = ad 60 0 0 → ad' 61 0 0 = ad 61 0 0 → V X G (K0 + 200 * (i + 1)) (S0 + 3000 * (i + 1) + 4 * e') ok' ad' σ' [(0, .ref p), (1, .ref (ad 0 0 0)), (2, .ref (ad 30 0 0)), (3, .ref (ad 60 0 0)), (4, .ref (ad 61 0 0)), (5, iv (6 * i))] 2247 []) : V X G (K0 + 200 * i) (S0 + 3000 * i + 4 * e) ok ad σ [(0, .ref p), (1, .ref (ad 0 0 0)), (2, .ref (ad 30 0 0)), (3, .ref (ad 60 0 0)), (4, .ref (ad 61 0 0)), (5, iv (6 * i))] 1845 [] := by
  obtain ⟨hR, ⟨hCK, hVK⟩, ⟨hArr, hKM⟩, ⟨h60, h61, n57, n58, n62, hO, hQ⟩, c5, c1, c6, cK, cq, ct, ce⟩ := id hI
  have hB := hR.1
  refine v_aload_n hC dL_law_1845 rfl ?_
  refine v_aload_n hC dL_law_1846 rfl ?_
  refine v_iload hC dL_law_1847 rfl ?_
  refine v_iconst (v := nI 1) hC dL_law_1849 (by decide) ?_
  refine v_iaddN hC dL_law_1850 ?_
  refine v_scr (x := 6 * i + 1) hC hP dL_law_1851 (by omega) (by omega) ?_
  refine v_aload_n hC dL_law_1852 rfl ?_
  refine v_callSN hC hN lkw_along dL_law_1853 (w_along hl0 (c_X5_along hl0 hO hB (sc (6 * i + 1))) hO.k0 (fun v μ h => by obtain ⟨r, τ, -, rfl, rfl⟩ := h; exact ⟨⟨r, rfl⟩, h60, rfl⟩) (fun E μ h => hxs_along h.1)) (by omega) (by decide) rfl rfl (Nat.le_of_ble_eq_true rfl) (by omega) (by omega) (fun v μ h => ?_)
  have hAG := law_simple hI (fun E => (cdl_along E).1) (fun τ hτ => ag_along hτ (sc (6 * i + 1)))
  rcases h with ⟨E, ⟨hE, rfl⟩, rfl⟩ | ⟨n, μ0, ⟨r, s', hr, hn, rfl⟩, rfl, rfl⟩
  · dsimp only
    obtain ⟨g1, g2⟩ := hAG.1 E hE
    have cdE := cdl_along E
    refine v_istore hC dL_law_1856 (by decide) ?_
    refine v_aload_n hC dL_law_1858 rfl ?_
    refine v_aload_n hC dL_law_1859 rfl ?_
    refine v_iload hC dL_law_1860 rfl ?_
    refine v_iconst (v := nI 1) hC dL_law_1862 (by decide) ?_
    refine v_iaddN hC dL_law_1863 ?_
    refine v_scr (x := 6 * i + 1) hC hP dL_law_1864 (by omega) (by omega) ?_
    
    refine v_callV hC lk_L_215 dL_law_1865 (c_X6_along (σ := σ) hl0 hQ hB (sc (6 * i + 1)) hR.1 hI.tm n58) (by omega) (by decide) hQ.k30 rfl rfl rfl rfl (Nat.le_of_ble_eq_true rfl) (by omega) (by omega) (fun v μ h => ?_) (fun _ _ h => h.elim)
    rcases h with ⟨k, hk, rfl, rfl⟩ | ⟨r2, τ2, hk, rfl, rfl⟩
    rotate_left
    · rw [g1] at hk
      cases hk
    rw [g1] at hk
    cases hk
    dsimp only
    refine v_istore hC dL_law_1868 (by decide) ?_
    refine v_aload_n hC dL_law_1870 rfl ?_
    refine v_callV_r0 hC lk_L_134 dL_law_1871 (c_X6_thrown hl0 hQ g2.1.1) (by omega) (by decide) hQ.k30 rfl rfl rfl rfl (Nat.le_of_ble_eq_true rfl) (by omega) (by omega) ?_
    rw [show th (th σ 0) (cd_along E) 30 0 0 0 = cd_along E from up_same _ _ _ _ _ _]
    refine v_iload hC dL_law_1874 rfl ?_
    refine v_icmp_eq (tgt := 1881) hC dL_law_1876 (by decide) (fun _ => ?_) (fun q => absurd rfl q)
    refine v_iload hC dL_law_1881 rfl ?_
    refine v_if_neN (tgt := 1898) hC dL_law_1883 (by decide) (by omega) (fun _ => ?_) (fun q => absurd q cdE.2)
    refine v_goto (tgt := 2247) hC dL_law_1898 (by decide) ?_
    exact v_wide (by omega) (by omega) (v_sub rfl (nx _ _ _ _ _ g2 rfl rfl rfl rfl))
  · dsimp only
    obtain ⟨hBw, hRw, τ9, A9, g1, g2, g3, g4⟩ := hAG.2 r s' hr (wI n) (wI_lt n)
    refine v_istore hC dL_law_1856 (by decide) ?_
    refine v_aload_n hC dL_law_1858 rfl ?_
    refine v_aload_n hC dL_law_1859 rfl ?_
    refine v_iload hC dL_law_1860 rfl ?_
    refine v_iconst (v := nI 1) hC dL_law_1862 (by decide) ?_
    refine v_iaddN hC dL_law_1863 ?_
    refine v_scr (x := 6 * i + 1) hC hP dL_law_1864 (by omega) (by omega) ?_
    have hTw : TM G ok ad σ (up s' 60 0 0 0 (wI n)) A e := by
      rw [along_s hr] at hBw ⊢
      exact hI.tm.dw hBw (fun k i j x q1 q2 => up_k (by omega))
    refine v_callV hC lk_L_215 dL_law_1865 (c_X6_along (σ := (up s' 60 0 0 0 (wI n))) hl0 hQ hBw (sc (6 * i + 1)) hR.1 hTw n58) (by omega) (by decide) hQ.k30 rfl rfl rfl rfl (Nat.le_of_ble_eq_true rfl) (by omega) (by omega) (fun v μ h => ?_) (fun _ _ h => h.elim)
    rcases h with ⟨k, hk, rfl, rfl⟩ | ⟨r2, τ2, hk, rfl, rfl⟩
    skip
    · rw [g1] at hk
      cases hk
    rw [g1] at hk
    cases hk
    dsimp only
    refine v_istore hC dL_law_1868 (by decide) ?_
    refine v_aload_n hC dL_law_1870 rfl ?_
    refine v_callV_r0 hC lk_L_134 dL_law_1871 (c_X6_thrown hl0 hQ g2.1.1) (by omega) (by decide) hQ.k30 rfl rfl rfl rfl (Nat.le_of_ble_eq_true rfl) (by omega) (by omega) ?_
    rw [g3]
    refine v_iload hC dL_law_1874 rfl ?_
    refine v_icmp_eq (tgt := 1881) hC dL_law_1876 (by decide) (fun _ => ?_) (fun q => absurd rfl q)
    refine v_iload hC dL_law_1881 rfl ?_
    refine v_if_neN (tgt := 1898) hC dL_law_1883 (by decide) (by decide) (fun q => absurd rfl q) (fun _ => ?_)
    refine v_aload_n hC dL_law_1886 rfl ?_
    refine v_iconst (v := nI 0) hC dL_law_1887 (by decide) ?_
    refine al_60 hC dL_law_1888 h60 (by decide) ?_
    rw [g4, wI_of hn]
    refine v_iload hC dL_law_1889 rfl ?_
    refine v_i2l (v := lN (wI r)) hC dL_law_1891 (lN_wN _).symm ?_
    refine v_lcmp hC dL_law_1892 ?_
    refine v_if_eqJ (tgt := 1898) hC dL_law_1893 (by decide) (wI_lt r) (wI_lt r) (fun _ => ?_) (fun q => absurd rfl q)
    refine v_goto (tgt := 2247) hC dL_law_1898 (by decide) ?_
    exact v_wide (by omega) (by omega) (v_sub rfl (nx _ _ _ _ _ g2 rfl rfl rfl rfl))
theorem cdl_addTest (E : String) : cd_addTest E < 5 ∧ cd_addTest E ≠ 0 := by
  unfold cd_addTest
  first | (constructor <;> decide) | (repeat' split) <;> (constructor <;> decide)
theorem hxs_addTest {σ : SG} {a1 : Int32} {a2 : Int32} {a3 : Int32} {a4 : Int32} {a5 : Int32} {E : String} (h : k_addTest σ a1 a2 a3 a4 a5 = .inl E) : E = eIOB ∨ E = eIAE ∨ E = eISE ∨ E = eUOE := by
  have h2 : ON (k_addTest σ a1 a2 a3 a4 a5) [eIOB, eIAE, eISE, eUOE] := by
    unfold k_addTest
    repeat (first | exact on_ret | exact on_err (by simp) | refine on_gR (by simp) (fun _ => ?_) | refine on_ite ?_ ?_)
  simpa using h2 E h
set_option maxHeartbeats 4000000 in
set_option maxRecDepth 100000 in
theorem case_addTest {X : XT} {G : GT} {mc ms K0 S0 p N : Nat} {sc : Nat → Int32} {ok : KF} {ad : AD} {σ : SG} {A : AS} {e i : Nat} (hl0 : (xl X).stackTraces = false) (hC : Cx X G "BranchyardLaw" cL_law 9 16 mc ms) (hN : NC (xs X)) (hP : Scr G (xs X) p N sc) (hNl : N ≤ 3072) (hI : INV G ok ad σ A e i) (hj : 6 * i + 6 ≤ N) (h1 : K0 + 200 * (i + 1) ≤ mc) (h2 : S0 + 3000 * (i + 1) + 4 * 4700 ≤ ms)
    (nx : ∀ ok' ad' σ' A' e', INV G ok' ad' σ' A' e' (i + 1) → ad' 0 0 0 = ad 0 0 0 → ad' 30 0 0 = ad 30 0 0 → ad' 60 0 0 = ad 60 0 0 → ad' 61 0 0 = ad 61 0 0 → V X G (K0 + 200 * (i + 1)) (S0 + 3000 * (i + 1) + 4 * e') ok' ad' σ' [(0, .ref p), (1, .ref (ad 0 0 0)), (2, .ref (ad 30 0 0)), (3, .ref (ad 60 0 0)), (4, .ref (ad 61 0 0)), (5, iv (6 * i))] 2247 []) : V X G (K0 + 200 * i) (S0 + 3000 * i + 4 * e) ok ad σ [(0, .ref p), (1, .ref (ad 0 0 0)), (2, .ref (ad 30 0 0)), (3, .ref (ad 60 0 0)), (4, .ref (ad 61 0 0)), (5, iv (6 * i))] 1469 [] := by
  obtain ⟨hR, ⟨hCK, hVK⟩, ⟨hArr, hKM⟩, ⟨h60, h61, n57, n58, n62, hO, hQ⟩, c5, c1, c6, cK, cq, ct, ce⟩ := id hI
  have hB := hR.1
  refine v_aload_n hC dL_law_1469 rfl ?_
  refine v_aload_n hC dL_law_1470 rfl ?_
  refine v_iload hC dL_law_1471 rfl ?_
  refine v_iconst (v := nI 1) hC dL_law_1473 (by decide) ?_
  refine v_iaddN hC dL_law_1474 ?_
  refine v_scr (x := 6 * i + 1) hC hP dL_law_1475 (by omega) (by omega) ?_
  refine v_aload_n hC dL_law_1476 rfl ?_
  refine v_iload hC dL_law_1477 rfl ?_
  refine v_iconst (v := nI 2) hC dL_law_1479 (by decide) ?_
  refine v_iaddN hC dL_law_1480 ?_
  refine v_scr (x := 6 * i + 2) hC hP dL_law_1481 (by omega) (by omega) ?_
  refine v_aload_n hC dL_law_1482 rfl ?_
  refine v_iload hC dL_law_1483 rfl ?_
  refine v_iconst (v := nI 3) hC dL_law_1485 (by decide) ?_
  refine v_iaddN hC dL_law_1486 ?_
  refine v_scr (x := 6 * i + 3) hC hP dL_law_1487 (by omega) (by omega) ?_
  refine v_aload_n hC dL_law_1488 rfl ?_
  refine v_iload hC dL_law_1489 rfl ?_
  refine v_iconst (v := nI 4) hC dL_law_1491 (by decide) ?_
  refine v_iaddN hC dL_law_1492 ?_
  refine v_scr (x := 6 * i + 4) hC hP dL_law_1493 (by omega) (by omega) ?_
  refine v_aload_n hC dL_law_1494 rfl ?_
  refine v_iload hC dL_law_1495 rfl ?_
  refine v_iconst (v := nI 5) hC dL_law_1497 (by decide) ?_
  refine v_iaddN hC dL_law_1498 ?_
  refine v_scr (x := 6 * i + 5) hC hP dL_law_1499 (by omega) (by omega) ?_
  refine v_aload_n hC dL_law_1500 rfl ?_
  refine v_callSN hC hN lkw_addTest dL_law_1501 (w_addTest hl0 (c_X5_addTest hl0 hO hB (sc (6 * i + 1)) (sc (6 * i + 2)) (sc (6 * i + 3)) (sc (6 * i + 4)) (sc (6 * i + 5))) hO.k0 (fun v μ h => by obtain ⟨r, τ, -, rfl, rfl⟩ := h; exact ⟨⟨r, rfl⟩, h60, rfl⟩) (fun E μ h => hxs_addTest h.1)) (by omega) (by decide) rfl rfl (Nat.le_of_ble_eq_true rfl) (by omega) (by omega) (fun v μ h => ?_)
  have hAG := law_tests hI (fun E => (cdl_addTest E).1) (fun τ hτ => ag_addTest hτ (sc (6 * i + 1)) (sc (6 * i + 2)) (sc (6 * i + 3)) (sc (6 * i + 4)) (sc (6 * i + 5)))
  rcases h with ⟨E, ⟨hE, rfl⟩, rfl⟩ | ⟨n, μ0, ⟨r, s', hr, hn, rfl⟩, rfl, rfl⟩
  · dsimp only
    obtain ⟨g1, g2⟩ := hAG.1 E hE
    have cdE := cdl_addTest E
    refine v_istore hC dL_law_1504 (by decide) ?_
    refine v_aload_n hC dL_law_1506 rfl ?_
    refine v_aload_n hC dL_law_1507 rfl ?_
    refine v_iload hC dL_law_1508 rfl ?_
    refine v_iconst (v := nI 1) hC dL_law_1510 (by decide) ?_
    refine v_iaddN hC dL_law_1511 ?_
    refine v_scr (x := 6 * i + 1) hC hP dL_law_1512 (by omega) (by omega) ?_
    refine v_aload_n hC dL_law_1513 rfl ?_
    refine v_iload hC dL_law_1514 rfl ?_
    refine v_iconst (v := nI 2) hC dL_law_1516 (by decide) ?_
    refine v_iaddN hC dL_law_1517 ?_
    refine v_scr (x := 6 * i + 2) hC hP dL_law_1518 (by omega) (by omega) ?_
    refine v_aload_n hC dL_law_1519 rfl ?_
    refine v_iload hC dL_law_1520 rfl ?_
    refine v_iconst (v := nI 3) hC dL_law_1522 (by decide) ?_
    refine v_iaddN hC dL_law_1523 ?_
    refine v_scr (x := 6 * i + 3) hC hP dL_law_1524 (by omega) (by omega) ?_
    refine v_aload_n hC dL_law_1525 rfl ?_
    refine v_iload hC dL_law_1526 rfl ?_
    refine v_iconst (v := nI 4) hC dL_law_1528 (by decide) ?_
    refine v_iaddN hC dL_law_1529 ?_
    refine v_scr (x := 6 * i + 4) hC hP dL_law_1530 (by omega) (by omega) ?_
    refine v_aload_n hC dL_law_1531 rfl ?_
    refine v_iload hC dL_law_1532 rfl ?_
    refine v_iconst (v := nI 5) hC dL_law_1534 (by decide) ?_
    refine v_iaddN hC dL_law_1535 ?_
    refine v_scr (x := 6 * i + 5) hC hP dL_law_1536 (by omega) (by omega) ?_
    refine v_callV hC lk_L_200 dL_law_1537 (c_X6_addTest (σ := σ) hl0 hQ hB (sc (6 * i + 1)) (sc (6 * i + 2)) (sc (6 * i + 3)) (sc (6 * i + 4)) (sc (6 * i + 5)) hArr (by omega) ce) (by omega) (by decide) hQ.k30 rfl rfl rfl rfl (Nat.le_of_ble_eq_true rfl) (by omega) (by omega) (fun v μ h => ?_) (fun _ _ h => h.elim)
    rcases h with ⟨k, hk, rfl, rfl⟩ | ⟨r2, τ2, τx, hk, rfl, rfl, q1, q2, q3, q4⟩
    rotate_left
    · rw [g1] at hk
      cases hk
    rw [g1] at hk
    cases hk
    dsimp only
    refine v_istore hC dL_law_1540 (by decide) ?_
    refine v_aload_n hC dL_law_1542 rfl ?_
    refine v_callV_r0 hC lk_L_134 dL_law_1543 (c_X6_thrown hl0 hQ g2.1.1) (by omega) (by decide) hQ.k30 rfl rfl rfl rfl (Nat.le_of_ble_eq_true rfl) (by omega) (by omega) ?_
    rw [show th (th σ 0) (cd_addTest E) 30 0 0 0 = cd_addTest E from up_same _ _ _ _ _ _]
    refine v_iload hC dL_law_1546 rfl ?_
    refine v_icmp_eq (tgt := 1553) hC dL_law_1548 (by decide) (fun _ => ?_) (fun q => absurd rfl q)
    refine v_iload hC dL_law_1553 rfl ?_
    refine v_if_neN (tgt := 1570) hC dL_law_1555 (by decide) (by omega) (fun _ => ?_) (fun q => absurd q cdE.2)
    refine v_goto (tgt := 2247) hC dL_law_1570 (by decide) ?_
    exact v_wide (by omega) (by omega) (v_sub rfl (nx _ _ _ _ _ g2 rfl rfl rfl rfl))
  · dsimp only
    obtain ⟨hBw, hAw, τ9, g1, gT⟩ := hAG.2 r s' hr (wI n) (wI_lt n)
    refine v_istore hC dL_law_1504 (by decide) ?_
    refine v_aload_n hC dL_law_1506 rfl ?_
    refine v_aload_n hC dL_law_1507 rfl ?_
    refine v_iload hC dL_law_1508 rfl ?_
    refine v_iconst (v := nI 1) hC dL_law_1510 (by decide) ?_
    refine v_iaddN hC dL_law_1511 ?_
    refine v_scr (x := 6 * i + 1) hC hP dL_law_1512 (by omega) (by omega) ?_
    refine v_aload_n hC dL_law_1513 rfl ?_
    refine v_iload hC dL_law_1514 rfl ?_
    refine v_iconst (v := nI 2) hC dL_law_1516 (by decide) ?_
    refine v_iaddN hC dL_law_1517 ?_
    refine v_scr (x := 6 * i + 2) hC hP dL_law_1518 (by omega) (by omega) ?_
    refine v_aload_n hC dL_law_1519 rfl ?_
    refine v_iload hC dL_law_1520 rfl ?_
    refine v_iconst (v := nI 3) hC dL_law_1522 (by decide) ?_
    refine v_iaddN hC dL_law_1523 ?_
    refine v_scr (x := 6 * i + 3) hC hP dL_law_1524 (by omega) (by omega) ?_
    refine v_aload_n hC dL_law_1525 rfl ?_
    refine v_iload hC dL_law_1526 rfl ?_
    refine v_iconst (v := nI 4) hC dL_law_1528 (by decide) ?_
    refine v_iaddN hC dL_law_1529 ?_
    refine v_scr (x := 6 * i + 4) hC hP dL_law_1530 (by omega) (by omega) ?_
    refine v_aload_n hC dL_law_1531 rfl ?_
    refine v_iload hC dL_law_1532 rfl ?_
    refine v_iconst (v := nI 5) hC dL_law_1534 (by decide) ?_
    refine v_iaddN hC dL_law_1535 ?_
    refine v_scr (x := 6 * i + 5) hC hP dL_law_1536 (by omega) (by omega) ?_
    refine v_callV hC lk_L_200 dL_law_1537 (c_X6_addTest (σ := (up s' 60 0 0 0 (wI n))) hl0 hQ hBw (sc (6 * i + 1)) (sc (6 * i + 2)) (sc (6 * i + 3)) (sc (6 * i + 4)) (sc (6 * i + 5)) hAw (by omega) ce) (by omega) (by decide) hQ.k30 rfl rfl rfl rfl (Nat.le_of_ble_eq_true rfl) (by omega) (by omega) (fun v μ h => ?_) (fun _ _ h => h.elim)
    rcases h with ⟨k, hk, rfl, rfl⟩ | ⟨r2, τ2, τx, hk, rfl, rfl, q1, q2, q3, q4⟩
    skip
    · rw [g1] at hk
      cases hk
    rw [g1] at hk
    cases hk
    obtain ⟨g2, g3, g4⟩ := gT τx q1 q2 q3 q4
    dsimp only
    refine v_istore hC dL_law_1540 (by decide) ?_
    refine v_aload_n hC dL_law_1542 rfl ?_
    refine v_callV_r0 hC lk_L_134 dL_law_1543 (c_X6_thrown hl0 hQ g2.1.1) (by omega) (by decide) hQ.k30 rfl rfl rfl rfl (Nat.le_of_ble_eq_true rfl) (by omega) (by omega) ?_
    rw [g3]
    refine v_iload hC dL_law_1546 rfl ?_
    refine v_icmp_eq (tgt := 1553) hC dL_law_1548 (by decide) (fun _ => ?_) (fun q => absurd rfl q)
    refine v_iload hC dL_law_1553 rfl ?_
    refine v_if_neN (tgt := 1570) hC dL_law_1555 (by decide) (by decide) (fun q => absurd rfl q) (fun _ => ?_)
    refine v_aload_n hC dL_law_1558 rfl ?_
    refine v_iconst (v := nI 0) hC dL_law_1559 (by decide) ?_
    refine al_60 hC dL_law_1560 h60 (by decide) ?_
    rw [g4, wI_of hn]
    refine v_iload hC dL_law_1561 rfl ?_
    refine v_i2l (v := lN (wI r)) hC dL_law_1563 (lN_wN _).symm ?_
    refine v_lcmp hC dL_law_1564 ?_
    refine v_if_eqJ (tgt := 1570) hC dL_law_1565 (by decide) (wI_lt r) (wI_lt r) (fun _ => ?_) (fun q => absurd rfl q)
    refine v_goto (tgt := 2247) hC dL_law_1570 (by decide) ?_
    exact v_wide (by omega) (by omega) (v_sub rfl (nx _ _ _ _ _ g2 rfl rfl rfl rfl))
theorem cdl_dropTest (E : String) : cd_dropTest E < 5 ∧ cd_dropTest E ≠ 0 := by
  unfold cd_dropTest
  first | (constructor <;> decide) | (repeat' split) <;> (constructor <;> decide)
theorem hxs_dropTest {σ : SG} {a1 : Int32} {E : String} (h : k_dropTest σ a1 = .inl E) : E = eNSE := by
  have h2 : ON (k_dropTest σ a1) [eNSE] := by
    unfold k_dropTest
    repeat (first | exact on_ret | exact on_err (by simp) | refine on_gR (by simp) (fun _ => ?_) | refine on_ite ?_ ?_)
  simpa using h2 E h
set_option maxHeartbeats 4000000 in
set_option maxRecDepth 100000 in
theorem case_dropTest {X : XT} {G : GT} {mc ms K0 S0 p N : Nat} {sc : Nat → Int32} {ok : KF} {ad : AD} {σ : SG} {A : AS} {e i : Nat} (hl0 : (xl X).stackTraces = false) (hC : Cx X G "BranchyardLaw" cL_law 9 16 mc ms) (hN : NC (xs X)) (hP : Scr G (xs X) p N sc) (hNl : N ≤ 3072) (hI : INV G ok ad σ A e i) (hj : 6 * i + 6 ≤ N) (h1 : K0 + 200 * (i + 1) ≤ mc) (h2 : S0 + 3000 * (i + 1) + 4 * 4700 ≤ ms)
    (nx : ∀ ok' ad' σ' A' e', INV G ok' ad' σ' A' e' (i + 1) → ad' 0 0 0 = ad 0 0 0 → ad' 30 0 0 = ad 30 0 0 → ad' 60 0 0 = ad 60 0 0 → ad' 61 0 0 = ad 61 0 0 → V X G (K0 + 200 * (i + 1)) (S0 + 3000 * (i + 1) + 4 * e') ok' ad' σ' [(0, .ref p), (1, .ref (ad 0 0 0)), (2, .ref (ad 30 0 0)), (3, .ref (ad 60 0 0)), (4, .ref (ad 61 0 0)), (5, iv (6 * i))] 2247 []) : V X G (K0 + 200 * i) (S0 + 3000 * i + 4 * e) ok ad σ [(0, .ref p), (1, .ref (ad 0 0 0)), (2, .ref (ad 30 0 0)), (3, .ref (ad 60 0 0)), (4, .ref (ad 61 0 0)), (5, iv (6 * i))] 1573 [] := by
  obtain ⟨hR, ⟨hCK, hVK⟩, ⟨hArr, hKM⟩, ⟨h60, h61, n57, n58, n62, hO, hQ⟩, c5, c1, c6, cK, cq, ct, ce⟩ := id hI
  have hB := hR.1
  refine v_aload_n hC dL_law_1573 rfl ?_
  refine v_aload_n hC dL_law_1574 rfl ?_
  refine v_iload hC dL_law_1575 rfl ?_
  refine v_iconst (v := nI 1) hC dL_law_1577 (by decide) ?_
  refine v_iaddN hC dL_law_1578 ?_
  refine v_scr (x := 6 * i + 1) hC hP dL_law_1579 (by omega) (by omega) ?_
  refine v_aload_n hC dL_law_1580 rfl ?_
  refine v_callSN hC hN lkw_dropTest dL_law_1581 (w_dropTest hl0 (c_X5_dropTest hl0 hO hB (sc (6 * i + 1))) hO.k0 (fun v μ h => by obtain ⟨r, τ, -, rfl, rfl⟩ := h; exact ⟨⟨r, rfl⟩, h60, rfl⟩) (fun E μ h => hxs_dropTest h.1)) (by omega) (by decide) rfl rfl (Nat.le_of_ble_eq_true rfl) (by omega) (by omega) (fun v μ h => ?_)
  have hAG := law_tests hI (fun E => (cdl_dropTest E).1) (fun τ hτ => ag_dropTest hτ (sc (6 * i + 1)))
  rcases h with ⟨E, ⟨hE, rfl⟩, rfl⟩ | ⟨n, μ0, ⟨r, s', hr, hn, rfl⟩, rfl, rfl⟩
  · dsimp only
    obtain ⟨g1, g2⟩ := hAG.1 E hE
    have cdE := cdl_dropTest E
    refine v_istore hC dL_law_1584 (by decide) ?_
    refine v_aload_n hC dL_law_1586 rfl ?_
    refine v_aload_n hC dL_law_1587 rfl ?_
    refine v_iload hC dL_law_1588 rfl ?_
    refine v_iconst (v := nI 1) hC dL_law_1590 (by decide) ?_
    refine v_iaddN hC dL_law_1591 ?_
    refine v_scr (x := 6 * i + 1) hC hP dL_law_1592 (by omega) (by omega) ?_
    refine v_callV hC lk_L_203 dL_law_1593 (c_X6_dropTest (σ := σ) hl0 hQ hB (sc (6 * i + 1)) hArr (by omega) ce) (by omega) (by decide) hQ.k30 rfl rfl rfl rfl (Nat.le_of_ble_eq_true rfl) (by omega) (by omega) (fun v μ h => ?_) (fun _ _ h => h.elim)
    rcases h with ⟨k, hk, rfl, rfl⟩ | ⟨r2, τ2, τx, hk, rfl, rfl, q1, q2, q3, q4⟩
    rotate_left
    · rw [g1] at hk
      cases hk
    rw [g1] at hk
    cases hk
    dsimp only
    refine v_istore hC dL_law_1596 (by decide) ?_
    refine v_aload_n hC dL_law_1598 rfl ?_
    refine v_callV_r0 hC lk_L_134 dL_law_1599 (c_X6_thrown hl0 hQ g2.1.1) (by omega) (by decide) hQ.k30 rfl rfl rfl rfl (Nat.le_of_ble_eq_true rfl) (by omega) (by omega) ?_
    rw [show th (th σ 0) (cd_dropTest E) 30 0 0 0 = cd_dropTest E from up_same _ _ _ _ _ _]
    refine v_iload hC dL_law_1602 rfl ?_
    refine v_icmp_eq (tgt := 1609) hC dL_law_1604 (by decide) (fun _ => ?_) (fun q => absurd rfl q)
    refine v_iload hC dL_law_1609 rfl ?_
    refine v_if_neN (tgt := 1626) hC dL_law_1611 (by decide) (by omega) (fun _ => ?_) (fun q => absurd q cdE.2)
    refine v_goto (tgt := 2247) hC dL_law_1626 (by decide) ?_
    exact v_wide (by omega) (by omega) (v_sub rfl (nx _ _ _ _ _ g2 rfl rfl rfl rfl))
  · dsimp only
    obtain ⟨hBw, hAw, τ9, g1, gT⟩ := hAG.2 r s' hr (wI n) (wI_lt n)
    refine v_istore hC dL_law_1584 (by decide) ?_
    refine v_aload_n hC dL_law_1586 rfl ?_
    refine v_aload_n hC dL_law_1587 rfl ?_
    refine v_iload hC dL_law_1588 rfl ?_
    refine v_iconst (v := nI 1) hC dL_law_1590 (by decide) ?_
    refine v_iaddN hC dL_law_1591 ?_
    refine v_scr (x := 6 * i + 1) hC hP dL_law_1592 (by omega) (by omega) ?_
    refine v_callV hC lk_L_203 dL_law_1593 (c_X6_dropTest (σ := (up s' 60 0 0 0 (wI n))) hl0 hQ hBw (sc (6 * i + 1)) hAw (by omega) ce) (by omega) (by decide) hQ.k30 rfl rfl rfl rfl (Nat.le_of_ble_eq_true rfl) (by omega) (by omega) (fun v μ h => ?_) (fun _ _ h => h.elim)
    rcases h with ⟨k, hk, rfl, rfl⟩ | ⟨r2, τ2, τx, hk, rfl, rfl, q1, q2, q3, q4⟩
    skip
    · rw [g1] at hk
      cases hk
    rw [g1] at hk
    cases hk
    obtain ⟨g2, g3, g4⟩ := gT τx q1 q2 q3 q4
    dsimp only
    refine v_istore hC dL_law_1596 (by decide) ?_
    refine v_aload_n hC dL_law_1598 rfl ?_
    refine v_callV_r0 hC lk_L_134 dL_law_1599 (c_X6_thrown hl0 hQ g2.1.1) (by omega) (by decide) hQ.k30 rfl rfl rfl rfl (Nat.le_of_ble_eq_true rfl) (by omega) (by omega) ?_
    rw [g3]
    refine v_iload hC dL_law_1602 rfl ?_
    refine v_icmp_eq (tgt := 1609) hC dL_law_1604 (by decide) (fun _ => ?_) (fun q => absurd rfl q)
    refine v_iload hC dL_law_1609 rfl ?_
    refine v_if_neN (tgt := 1626) hC dL_law_1611 (by decide) (by decide) (fun q => absurd rfl q) (fun _ => ?_)
    refine v_aload_n hC dL_law_1614 rfl ?_
    refine v_iconst (v := nI 0) hC dL_law_1615 (by decide) ?_
    refine al_60 hC dL_law_1616 h60 (by decide) ?_
    rw [g4, wI_of hn]
    refine v_iload hC dL_law_1617 rfl ?_
    refine v_i2l (v := lN (wI r)) hC dL_law_1619 (lN_wN _).symm ?_
    refine v_lcmp hC dL_law_1620 ?_
    refine v_if_eqJ (tgt := 1626) hC dL_law_1621 (by decide) (wI_lt r) (wI_lt r) (fun _ => ?_) (fun q => absurd rfl q)
    refine v_goto (tgt := 2247) hC dL_law_1626 (by decide) ?_
    exact v_wide (by omega) (by omega) (v_sub rfl (nx _ _ _ _ _ g2 rfl rfl rfl rfl))
