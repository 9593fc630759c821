def ON (f : OC) (L : List String) : Prop := ∀ E, f = .inl E → E ∈ L
theorem on_ret {q : Nat × SG} {L : List String} : ON (.inr q) L := fun _ h => by cases h
theorem on_err {E : String} {L : List String} (h : E ∈ L) : ON (.inl E) L := fun _ q => by cases q; exact h
theorem on_gR {x : Int32} {N : Nat} {E : String} {f : Nat → OC} {L : List String} (h : E ∈ L) (h2 : ∀ n, ON (f n) L) : ON (gR x N E f) L := by
  unfold gR
  cases inR x N with
  | none => exact on_err h
  | some n => exact h2 n
theorem on_ite {c : Prop} [Decidable c] {f g : OC} {L : List String} (h : ON f L) (h2 : ON g L) : ON (if c then f else g) L := by
  by_cases q : c
  · rw [if_pos q]; exact h
  · rw [if_neg q]; exact h2
theorem wI_lt (n : Nat) : wI n < 2 ^ 64 := UInt64.toNat_lt _
theorem wB_lt (n : Nat) : wB n < 2 ^ 64 := by unfold wB; split <;> decide
theorem wI_of {n r : Nat} (h : some (iv n) = some (iv r)) : wI n = wI r := by
  have : nI n = nI r := by injection h with h; injection h
  unfold wI
  rw [this]
theorem cdl_setOwner (E : String) : cd_setOwner E < 5 ∧ cd_setOwner E ≠ 0 := by
  unfold cd_setOwner
  first | (constructor <;> decide) | (repeat' split) <;> (constructor <;> decide)
theorem hxs_setOwner {σ : SG} {a1 a2 a3 : Int32} {E : String} (h : k_setOwner σ a1 a2 a3 = .inl E) : E = eIOB ∨ E = eIAE := by
  have h2 : ON (k_setOwner σ a1 a2 a3) [eIOB, eIAE] := by
    unfold k_setOwner
    repeat (first | exact on_ret | exact on_err (by simp) | refine on_gR (by simp) (fun _ => ?_) | refine on_ite ?_ ?_)
  simpa using h2 E h
set_option maxHeartbeats 4000000 in
set_option maxRecDepth 100000 in
theorem case_setOwner {X : XT} {G : GT} {mc ms K0 S0 p N : Nat} {sc : Nat → Int32} {ok : KF} {ad : AD} {σ : SG} {A : AS} {e i : Nat} (hl0 : (xl X).stackTraces = false) (hC : Cx X G "BranchyardLaw" cL_law 9 16 mc ms) (hN : NC (xs X)) (hP : Scr G (xs X) p N sc) (hNl : N ≤ 3072) (hI : INV G ok ad σ A e i) (hj : 6 * i + 6 ≤ N) (h1 : K0 + 200 * (i + 1) ≤ mc) (h2 : S0 + 3000 * (i + 1) + 4 * 4700 ≤ ms)
    (nx : ∀ ok' ad' σ' A' e', INV G ok' ad' σ' A' e' (i + 1) → ad' 0 0 0 = ad 0 0 0 → ad' 30 0 0 = ad 30 0 0 → ad' 60 0 0 = ad 60 0 0 → ad' 61 0 0 = ad 61 0 0 → V X G (K0 + 200 * (i + 1)) (S0 + 3000 * (i + 1) + 4 * e') ok' ad' σ' [(0, .ref p), (1, .ref (ad 0 0 0)), (2, .ref (ad 30 0 0)), (3, .ref (ad 60 0 0)), (4, .ref (ad 61 0 0)), (5, iv (6 * i))] 2247 []) : V X G (K0 + 200 * i) (S0 + 3000 * i + 4 * e) ok ad σ [(0, .ref p), (1, .ref (ad 0 0 0)), (2, .ref (ad 30 0 0)), (3, .ref (ad 60 0 0)), (4, .ref (ad 61 0 0)), (5, iv (6 * i))] 192 [] := by
  obtain ⟨hR, ⟨hCK, hVK⟩, ⟨hArr, hKM⟩, ⟨h60, h61, n57, n58, n62, hO, hQ⟩, c5, c1, c6, cK, cq, ct, ce⟩ := id hI
  have hB := hR.1
  refine v_aload_n hC dL_law_192 rfl ?_
  refine v_aload_n hC dL_law_193 rfl ?_
  refine v_iload hC dL_law_194 rfl ?_
  refine v_iconst (v := nI 1) hC dL_law_196 (by decide) ?_
  refine v_iaddN hC dL_law_197 ?_
  refine v_scr (x := 6 * i + 1) hC hP dL_law_198 (by omega) (by omega) ?_
  refine v_aload_n hC dL_law_199 rfl ?_
  refine v_iload hC dL_law_200 rfl ?_
  refine v_iconst (v := nI 2) hC dL_law_202 (by decide) ?_
  refine v_iaddN hC dL_law_203 ?_
  refine v_scr (x := 6 * i + 2) hC hP dL_law_204 (by omega) (by omega) ?_
  refine v_aload_n hC dL_law_205 rfl ?_
  refine v_iload hC dL_law_206 rfl ?_
  refine v_iconst (v := nI 3) hC dL_law_208 (by decide) ?_
  refine v_iaddN hC dL_law_209 ?_
  refine v_scr (x := 6 * i + 3) hC hP dL_law_210 (by omega) (by omega) ?_
  refine v_aload_n hC dL_law_211 rfl ?_
  refine v_callSN hC hN lkw_setOwner dL_law_212 (w_setOwner hl0 (c_X5_setOwner hl0 hO hB (sc (6 * i + 1)) (sc (6 * i + 2)) (sc (6 * i + 3))) hO.k0 (fun v μ h => by obtain ⟨r, τ, -, rfl, rfl⟩ := h; exact ⟨⟨r, rfl⟩, h60, rfl⟩) (fun E μ h => hxs_setOwner h.1)) (by omega) (by decide) rfl rfl (Nat.le_of_ble_eq_true rfl) (by omega) (by omega) (fun v μ h => ?_)
  have hAG := law_simple hI (fun E => (cdl_setOwner E).1) (fun τ hτ => ag_setOwner hτ (sc (6 * i + 1)) (sc (6 * i + 2)) (sc (6 * i + 3)))
  rcases h with ⟨E, ⟨hE, rfl⟩, rfl⟩ | ⟨n, μ0, ⟨r, s', hr, hn, rfl⟩, rfl, rfl⟩
  · dsimp only
    obtain ⟨g1, g2⟩ := hAG.1 E hE
    have cdE := cdl_setOwner E
    refine v_istore hC dL_law_215 (by decide) ?_
    refine v_aload_n hC dL_law_217 rfl ?_
    refine v_aload_n hC dL_law_218 rfl ?_
    refine v_iload hC dL_law_219 rfl ?_
    refine v_iconst (v := nI 1) hC dL_law_221 (by decide) ?_
    refine v_iaddN hC dL_law_222 ?_
    refine v_scr (x := 6 * i + 1) hC hP dL_law_223 (by omega) (by omega) ?_
    refine v_aload_n hC dL_law_224 rfl ?_
    refine v_iload hC dL_law_225 rfl ?_
    refine v_iconst (v := nI 2) hC dL_law_227 (by decide) ?_
    refine v_iaddN hC dL_law_228 ?_
    refine v_scr (x := 6 * i + 2) hC hP dL_law_229 (by omega) (by omega) ?_
    refine v_aload_n hC dL_law_230 rfl ?_
    refine v_iload hC dL_law_231 rfl ?_
    refine v_iconst (v := nI 3) hC dL_law_233 (by decide) ?_
    refine v_iaddN hC dL_law_234 ?_
    refine v_scr (x := 6 * i + 3) hC hP dL_law_235 (by omega) (by omega) ?_
    refine v_callV hC lk_L_133 dL_law_236 (c_X6_setOwner (σ := σ) hl0 hQ hB (sc (6 * i + 1)) (sc (6 * i + 2)) (sc (6 * i + 3))) (by omega) (by decide) hQ.k30 rfl rfl rfl rfl (Nat.le_of_ble_eq_true rfl) (by omega) (by omega) (fun v μ h => ?_) (fun _ _ h => h.elim)
    rcases h with ⟨k, hk, rfl, rfl⟩ | ⟨r2, τ2, hk, rfl, rfl⟩
    rotate_left
    · rw [g1] at hk
      cases hk
    rw [g1] at hk
    cases hk
    dsimp only
    refine v_istore hC dL_law_239 (by decide) ?_
    refine v_aload_n hC dL_law_241 rfl ?_
    refine v_callV_r0 hC lk_L_134 dL_law_242 (c_X6_thrown hl0 hQ g2.1.1) (by omega) (by decide) hQ.k30 rfl rfl rfl rfl (Nat.le_of_ble_eq_true rfl) (by omega) (by omega) ?_
    rw [show th (th σ 0) (cd_setOwner E) 30 0 0 0 = cd_setOwner E from up_same _ _ _ _ _ _]
    refine v_iload hC dL_law_245 rfl ?_
    refine v_icmp_eq (tgt := 252) hC dL_law_247 (by decide) (fun _ => ?_) (fun q => absurd rfl q)
    refine v_iload hC dL_law_252 rfl ?_
    refine v_if_neN (tgt := 269) hC dL_law_254 (by decide) (by omega) (fun _ => ?_) (fun q => absurd q cdE.2)
    refine v_goto (tgt := 2247) hC dL_law_269 (by decide) ?_
    exact v_wide (by omega) (by omega) (v_sub rfl (nx _ _ _ _ _ g2 rfl rfl rfl rfl))
  · dsimp only
    obtain ⟨hBw, τ9, A9, g1, g2, g3, g4⟩ := hAG.2 r s' hr (wI n) (wI_lt n)
    refine v_istore hC dL_law_215 (by decide) ?_
    refine v_aload_n hC dL_law_217 rfl ?_
    refine v_aload_n hC dL_law_218 rfl ?_
    refine v_iload hC dL_law_219 rfl ?_
    refine v_iconst (v := nI 1) hC dL_law_221 (by decide) ?_
    refine v_iaddN hC dL_law_222 ?_
    refine v_scr (x := 6 * i + 1) hC hP dL_law_223 (by omega) (by omega) ?_
    refine v_aload_n hC dL_law_224 rfl ?_
    refine v_iload hC dL_law_225 rfl ?_
    refine v_iconst (v := nI 2) hC dL_law_227 (by decide) ?_
    refine v_iaddN hC dL_law_228 ?_
    refine v_scr (x := 6 * i + 2) hC hP dL_law_229 (by omega) (by omega) ?_
    refine v_aload_n hC dL_law_230 rfl ?_
    refine v_iload hC dL_law_231 rfl ?_
    refine v_iconst (v := nI 3) hC dL_law_233 (by decide) ?_
    refine v_iaddN hC dL_law_234 ?_
    refine v_scr (x := 6 * i + 3) hC hP dL_law_235 (by omega) (by omega) ?_
    refine v_callV hC lk_L_133 dL_law_236 (c_X6_setOwner (σ := (up s' 60 0 0 0 (wI n))) hl0 hQ hBw (sc (6 * i + 1)) (sc (6 * i + 2)) (sc (6 * i + 3))) (by omega) (by decide) hQ.k30 rfl rfl rfl rfl (Nat.le_of_ble_eq_true rfl) (by omega) (by omega) (fun v μ h => ?_) (fun _ _ h => h.elim)
    rcases h with ⟨k, hk, rfl, rfl⟩ | ⟨r2, τ2, hk, rfl, rfl⟩
    skip
    · rw [g1] at hk
      cases hk
    rw [g1] at hk
    cases hk
    dsimp only
    refine v_istore hC dL_law_239 (by decide) ?_
    refine v_aload_n hC dL_law_241 rfl ?_
    refine v_callV_r0 hC lk_L_134 dL_law_242 (c_X6_thrown hl0 hQ g2.1.1) (by omega) (by decide) hQ.k30 rfl rfl rfl rfl (Nat.le_of_ble_eq_true rfl) (by omega) (by omega) ?_
    rw [g3]
    refine v_iload hC dL_law_245 rfl ?_
    refine v_icmp_eq (tgt := 252) hC dL_law_247 (by decide) (fun _ => ?_) (fun q => absurd rfl q)
    refine v_iload hC dL_law_252 rfl ?_
    refine v_if_neN (tgt := 269) hC dL_law_254 (by decide) (by decide) (fun q => absurd rfl q) (fun _ => ?_)
    refine v_aload_n hC dL_law_257 rfl ?_
    refine v_iconst (v := nI 0) hC dL_law_258 (by decide) ?_
    refine al_60 hC dL_law_259 h60 (by decide) ?_
    rw [g4, wI_of hn]
    refine v_iload hC dL_law_260 rfl ?_
    refine v_i2l (v := lN (wI r)) hC dL_law_262 (lN_wN _).symm ?_
    refine v_lcmp hC dL_law_263 ?_
    refine v_if_eqJ (tgt := 269) hC dL_law_264 (by decide) (wI_lt r) (wI_lt r) (fun _ => ?_) (fun q => absurd rfl q)
    refine v_goto (tgt := 2247) hC dL_law_269 (by decide) ?_
    exact v_wide (by omega) (by omega) (v_sub rfl (nx _ _ _ _ _ g2 rfl rfl rfl rfl))
