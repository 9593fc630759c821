/-! ===== the law's loop: what is read of its script, and what a pair of calls keeps ===== -/
/-- the script lies below all that is made here -/
def Scr (G : GT) (U : State) (p N : Nat) (sc : Nat → Int32) : Prop := va_X p N sc U U.heap ∧ ¬ AB G p
section LAW0
variable {X : XT} {G : GT} {own : String} {cc : ByteArray} {nL n mc ms : Nat} {kc ks : Nat} {ok : KF} {ad : AD} {σ : SG} {l : List (Nat × Value)} {pc p N x : Nat} {st : List Value} {sc : Nat → Int32}
theorem v_scr (hC : Cx X G own cc nL n mc ms) (hP : Scr G (xs X) p N sc) (d : decode cc pc = .ok (.iaload, 1)) (hx : x < N) (hN : N < 2 ^ 31) (kk : V X G kc ks ok ad σ l (pc + 1) (.int (sc x) :: st)) : V X G kc ks ok ad σ l pc (iv x :: .ref p :: st) := fun H locs ls hR hS hl => by
  obtain ⟨⟨ce, e1, e2, e3, e4, e5⟩, g7⟩ := hP
  have hc0 : H[p]? = some ce := by rw [hS.2.1 _ (Array.getElem?_eq_some_iff.mp e1).1 g7]; exact e1
  exact W.iald (v := .int (sc x)) hC.x hC.b hc0 e2 e3 (by rw [e4]; exact vp_in_nI hx hN) (by rw [nI_clamp (Nat.lt_trans hx hN)]; exact e5 x hx) rfl rfl d (kk H locs ls hR hS hl)
theorem v_scrN (hC : Cx X G own cc nL n mc ms) (hP : Scr G (xs X) p N sc) (d : decode cc pc = .ok (.arraylength, 1)) (k : V X G kc ks ok ad σ l (pc + 1) (iv N :: st)) : V X G kc ks ok ad σ l pc (.ref p :: st) := fun H locs ls hR hS hl => by
  obtain ⟨⟨ce, e1, e2, e3, e4, e5⟩, g7⟩ := hP
  have hc0 : H[p]? = some ce := by rw [hS.2.1 _ (Array.getElem?_eq_some_iff.mp e1).1 g7]; exact e1
  exact W.alen (n := nI N) (ty := .int) hC.x hC.b hc0 e2 (by rw [e4]; rfl) rfl rfl d (k H locs ls hR hS hl)
end LAW0
theorem up_c' {σ : SG} {k i j x v k' i' j' x' : Nat} (h : ¬ (k' = k ∧ x' = x)) : up σ k i j x v k' i' j' x' = σ k' i' j' x' := by
  show (if _ then _ else _) = _
  rw [if_neg (fun q => h ⟨q.1, q.2.2.2⟩)]
theorem th_c {σ : SG} {n k i j x : Nat} (h : ¬ (k = 30 ∧ x = 0)) : th σ n k i j x = σ k i j x := up_c' h
section PAIR
variable {G : GT} {ok : KF} {ad : AD} {σ : SG} {A : AS} {e i : Nat}
theorem law_simple (hI : INV G ok ad σ A e i) {cd : String → Nat} (hcd : ∀ E, cd E < 5) {f : OC} {k6 : SG → OM} (hAG : ∀ τ, RR σ τ A → AG cd σ τ A f (k6 τ)) :
    (∀ E, f = .inl E → k6 (th σ 0) = .inl (cd E) ∧ INV G ok ad (th (th σ 0) (cd E)) A e (i + 1)) ∧
    (∀ r s', f = .inr (r, s') → ∀ w, w < 2 ^ 64 → BD (up s' 60 0 0 0 w) ∧ RR σ (up s' 60 0 0 0 w) A ∧ ∃ τ' A', k6 (th (up s' 60 0 0 0 w) 0) = .inr (r, τ') ∧ INV G ok ad τ' A' e (i + 1) ∧ τ' 30 0 0 0 = 0 ∧ τ' 60 0 0 0 = w) := by
  have hR := hI.1
  refine ⟨fun E hE => ?_, fun r s' hr w hw => ?_⟩
  · have h1 : RR σ (th σ 0) A := hR.tm (th_BD hR.2.1 (by decide)) (fun k i j x q1 q2 q3 => up_c' (by omega))
    refine ⟨(hAG _ h1).1 E hE, hI.same (th_BD (th_BD hR.2.1 (by decide)) (hcd E)) (fun k i j x q1 q2 => ?_)⟩
    rw [th_c q2, th_c q2]
  · obtain ⟨_, _, -, hRs, -, hFS, -⟩ := (hAG σ hR).2 r s' hr
    have hB' := hRs.1
    have hBw : BD (up s' 60 0 0 0 w) := BD.put hB' hw
    have hBt : BD (th (up s' 60 0 0 0 w) 0) := th_BD hBw (by decide)
    have hm : ∀ k i j x, 30 ≤ k → k < 54 → ¬ (k = 30 ∧ (x = 0 ∨ 5 ≤ x)) → th (up s' 60 0 0 0 w) 0 k i j x = σ k i j x := fun k i j x q1 q2 q3 => by
      rw [th_c (by omega), up_k (by omega)]
      exact hFS k i j x (by omega)
    have h1 : RR σ (th (up s' 60 0 0 0 w) 0) A := hR.tm hBt hm
    obtain ⟨τ', A', e1, e2, e3, e4, e5, e6⟩ := (hAG _ h1).2 r s' hr
    refine ⟨hBw, hR.tm hBw (fun k i j x q1 q2 q3 => (up_k (by omega)).trans (hFS k i j x (by omega))), τ', A', e1, hI.simple e2 e3 e4 (τ := th (up s' 60 0 0 0 w) 0) (fun k i j x q1 q2 => ?_) e5 e6, ?_, ?_⟩
    · rw [th_c q2, up_k (by omega)]
    · rw [e5 30 0 0 0 (.inr (.inr ⟨rfl, .inl rfl⟩))]
      exact up_same _ _ _ _ _ _
    · rw [e5 60 0 0 0 (.inr (.inl (by decide)))]
      show up (up s' 60 0 0 0 w) 30 0 0 0 0 60 0 0 0 = w
      rw [up_k (by decide), up_same]
end PAIR
section QLEN
variable {s τ : SG} {A : AS}
theorem RR.qs (h : RR s τ A) : ∀ c, c < 16 → s 6 c 0 1 = 111 → s 12 0 0 0 < 16 := fun c hc hst => by
  have hn17 := h.n17
  obtain ⟨hBs, hBt, hC, hA, hQ, hS, hM, hX, hD⟩ := id h
  have hl := AI_len hA.1 (fun x hx => (hA.2.2.1 x hx).1)
  have hl2 : (aQ A).length = s 12 0 0 0 := by rw [← hC.2.2.2.1, lsO_len]
  by_cases q : c < s 0 0 0 0
  · exact (h.q16 q (by rw [← hC.1 c hc, hst]; decide)).1
  · omega
theorem RR.qm (h : RR s τ A) : ∀ c, c < 16 → τ 52 0 0 c = 111 → τ 30 0 0 3 < 16 := fun c hc hst => by
  have hn17 := h.n17
  obtain ⟨hBs, hBt, hC, hA, hQ, hS, hM, hX, hD⟩ := id h
  have hl := AI_len hA.1 (fun x hx => (hA.2.2.1 x hx).1)
  have hl2 : (aQ A).length = τ 30 0 0 3 := by rw [← hM.2.2.2.1, lsM_len]
  by_cases q : c < s 0 0 0 0
  · exact (h.q16 q (by rw [← hM.1 c q, hst]; decide)).2.1
  · omega
theorem RR.um (h : RR s τ A) : ∀ c, c < τ 30 0 0 2 → τ 52 0 0 c = 113 → ∃ k0, k0 < τ 30 0 0 3 ∧ τ 50 0 0 k0 = c ∧ ∀ j, j < k0 → τ 50 0 0 j ≠ c := fun c hc hst => by
  obtain ⟨hBs, hBt, hC, hA, hQ, hS, hM, hX, hD⟩ := id h
  rw [hS.1] at hc
  exact lsM_at (by rw [hM.2.2.2.1]; exact hQ.1 c hc ((hM.1 c hc).symm.trans hst))
end QLEN
section PAIRT
variable {G : GT} {ok : KF} {ad : AD} {σ : SG} {A : AS} {e i : Nat}
theorem law_tests (hI : INV G ok ad σ A e i) {cd : String → Nat} (hcd : ∀ E, cd E < 5) {f : OC} {k6 : SG → OM} (hAG : ∀ τ, RR σ τ A → AGP cd f (k6 τ) (fun s' τ' => RR s' τ' A ∧ TFr σ s' τ τ')) :
    (∀ E, f = .inl E → k6 (th σ 0) = .inl (cd E) ∧ INV G ok ad (th (th σ 0) (cd E)) A e (i + 1)) ∧
    (∀ r s', f = .inr (r, s') → ∀ w, w < 2 ^ 64 → BD (up s' 60 0 0 0 w) ∧ Arr G ok ad (up s' 60 0 0 0 w) (aK A) e ∧ ∃ τ0, k6 (th (up s' 60 0 0 0 w) 0) = .inr (r, τ0) ∧ ∀ τx, BD (mxS τ0 τx) → Arr G ok ad (mxS τ0 τx) [] e → τx 30 0 0 5 = τ0 30 0 0 5 → τx 30 0 0 6 = τ0 30 0 0 6 → INV G ok ad (mxS τ0 τx) (setK A []) e (i + 1) ∧ mxS τ0 τx 30 0 0 0 = 0 ∧ mxS τ0 τx 60 0 0 0 = w) := by
  have hR := hI.1
  refine ⟨fun E hE => ?_, fun r s' hr w hw => ?_⟩
  · have h1 : RR σ (th σ 0) A := hR.tm (th_BD hR.2.1 (by decide)) (fun k i j x q1 q2 q3 => up_c' (by omega))
    refine ⟨(hAG _ h1).1 E hE, hI.same (th_BD (th_BD hR.2.1 (by decide)) (hcd E)) (fun k i j x q1 q2 => ?_)⟩
    rw [th_c q2, th_c q2]
  · obtain ⟨_, -, hRs, ⟨u, hu, hu2⟩, -⟩ := (hAG σ hR).2 r s' hr
    have hB' := hRs.1
    have hs : ∀ k i j x, 30 ≤ k → s' k i j x = σ k i j x := fun k i j x q => by
      rw [hu, fgt_k (by omega)]
      exact hu2 k i j x (by omega) (by omega) (by omega)
    have hBw : BD (up s' 60 0 0 0 w) := BD.put hB' hw
    have hBt : BD (th (up s' 60 0 0 0 w) 0) := th_BD hBw (by decide)
    have h1 : RR σ (th (up s' 60 0 0 0 w) 0) A := hR.tm hBt (fun k i j x q1 q2 q3 => by
      rw [th_c (by omega), up_k (by omega)]
      exact hs k i j x q1)
    obtain ⟨τ0, e1, e2, e3⟩ := (hAG _ h1).2 r s' hr
    have hA : Arr G ok ad (up s' 60 0 0 0 w) (aK A) e := hI.2.2.1.1.of (by funext i j x; exact (up_k (by decide)).trans (hs 54 i j x (by decide))) (by funext i j x; exact (up_k (by decide)).trans (hs 55 i j x (by decide))) (by funext i j x; exact (up_k (by decide)).trans (hs 56 i j x (by decide)))
    refine ⟨hBw, hA, τ0, e1, fun τx b1 b2 b3 b4 => ⟨hI.tests e2 e3 (fun k i j x q1 q2 => ?_) b1 b2 b3 b4, ?_, ?_⟩⟩
    · rw [th_c q2, up_k (by omega)]
    · show τ0 30 0 0 0 = 0
      rw [e3.2 30 0 0 0 (.inr (.inr ⟨rfl, .inl rfl⟩))]
      exact up_same _ _ _ _ _ _
    · show τ0 60 0 0 0 = w
      rw [e3.2 60 0 0 0 (.inr (.inl (by decide)))]
      show up (up s' 60 0 0 0 w) 30 0 0 0 0 60 0 0 0 = w
      rw [up_k (by decide), up_same]
end PAIRT
theorem TM.dw {G : GT} {ok : KF} {ad : AD} {s τ τ' : SG} {A : AS} {e : Nat} (h : TM G ok ad s τ A e) (hB : BD τ') (hf : ∀ k i j x, k < 57 → ¬ (k = 30 ∧ x = 0) → τ' k i j x = τ k i j x) : TM G ok ad s τ' A e := by
  obtain ⟨-, h2, h3, h4, h5, h6, h7⟩ := h
  refine ⟨hB, h2.of (fun k i j x q => ?_), h3.mf (fun k i j x q => ?_), h4.of (by funext i j x; exact hf 54 i j x (by decide) (by omega)) (by funext i j x; exact hf 55 i j x (by decide) (by omega)) (by funext i j x; exact hf 56 i j x (by decide) (by omega)), by rw [hf 30 0 0 5 (by decide) (by omega)]; exact h5, h6, h7⟩
  · simp only [smB, Bool.or_eq_true, Bool.and_eq_true, beq_iff_eq] at q
    exact hf k i j x (by omega) (by omega)
  · simp only [mfB, Bool.or_eq_true, Bool.and_eq_true, beq_iff_eq] at q
    exact hf k i j x (by omega) (by omega)
