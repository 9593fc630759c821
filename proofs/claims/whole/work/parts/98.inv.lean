/-! ===== what holds between two calls of the law ===== -/
theorem RR.fr {s τ : SG} {A : AS} (h : RR s τ A) (hf : ∀ k i j x, k < 30 → τ k i j x = s k i j x) : RR τ τ A := by
  have e : ∀ k, k < 30 → τ k = s k := fun k hk => by funext i j x; exact hf k i j x hk
  obtain ⟨hBs, hBt, hC, hA, hQ, hS, hM, hX, hD⟩ := h
  refine ⟨hBt, hBt, ?_, ?_, ?_, ?_, ?_, ?_, ?_⟩
  · unfold RC lsO at *
    rw [e 6 (by decide), e 12 (by decide), e 13 (by decide), e 15 (by decide)]
    exact hC
  · unfold AI at *
    rw [e 0 (by decide)]
    exact hA
  · unfold QI at *
    rw [e 0 (by decide)]
    exact hQ
  · exact hS.cf ⟨e 0 (by decide), fun c => by rw [e 6 (by decide)], e 7 (by decide), by rw [e 16 (by decide)], e 18 (by decide)⟩
  · unfold RM at *
    rw [e 0 (by decide)]
    exact hM
  · unfold RX at *
    rw [e 0 (by decide), e 1 (by decide), e 2 (by decide), e 3 (by decide), e 4 (by decide), e 6 (by decide), e 8 (by decide), e 9 (by decide), e 11 (by decide), e 16 (by decide)]
    exact hX
  · exact hD.cf ⟨e 0 (by decide), fun c => by rw [e 6 (by decide)], e 7 (by decide), by rw [e 16 (by decide)], e 18 (by decide)⟩ rfl rfl
/-- other kinds of the model's memory, and the class's, don't tell -/
theorem RR.tm {s τ τ' : SG} {A : AS} (h : RR s τ A) (hB : BD τ') (hf : ∀ k i j x, 30 ≤ k → k < 54 → ¬ (k = 30 ∧ (x = 0 ∨ 5 ≤ x)) → τ' k i j x = τ k i j x) : RR s τ' A := by
  obtain ⟨hBs, hBt, hC, hA, hQ, hS, hM, hX, hD⟩ := h
  have g : ∀ k i j x, (Nat.blt 30 k && Nat.blt k 54) = true → τ' k i j x = τ k i j x := fun k i j x q => by
    simp only [Bool.and_eq_true] at q
    have q1 : 30 < k := Nat.le_of_ble_eq_true q.1
    have q2 : k < 54 := Nat.le_of_ble_eq_true q.2
    exact hf k i j x (by omega) q2 (by omega)
  refine ⟨hBs, hB, hC, hA, hQ, hS.of (fun k i j x q => ?_), hM.mf (fun k i j x q => ?_), ?_, hD⟩
  · simp only [smB, Bool.or_eq_true, Bool.and_eq_true, beq_iff_eq] at q
    exact hf k i j x (by omega) (by omega) (by omega)
  · simp only [mfB, Bool.or_eq_true, Bool.and_eq_true, beq_iff_eq] at q
    exact hf k i j x (by omega) (by omega) (by omega)
  · have e : ∀ k, (Nat.blt 30 k && Nat.blt k 54) = true → τ' k = τ k := fun k hk => by funext i j x; exact g k i j x hk
    unfold RX at *
    rw [e 36 rfl, e 37 rfl, e 38 rfl, e 39 rfl, e 49 rfl, e 45 rfl, e 48 rfl, e 35 rfl]
    exact hX
def INV (G : GT) (ok : KF) (ad : AD) (σ : SG) (A : AS) (e i : Nat) : Prop := RR σ σ A ∧ (CK ok ad σ (aK A) ∧ VK σ (aK A)) ∧ (Arr G ok ad σ (aK A) e ∧ KM ok (σ 30 0 0 5) e) ∧ (ok 60 0 0 ∧ ok 61 0 0 ∧ ¬ ok 57 0 0 ∧ ¬ ok 58 0 0 ∧ ¬ ok 62 0 0 ∧ OKC ok ∧ OKM ok) ∧ σ 30 0 0 5 = σ 16 0 0 2 ∧ σ 16 0 0 1 = σ 16 0 0 2 ∧ σ 30 0 0 6 = σ 16 0 0 3 ∧ (aK A).length ≤ σ 16 0 0 2 ∧ σ 16 0 0 2 + 6 * (aQ A).length ≤ 6 * i ∧ σ 16 0 0 3 ≤ 28 * i ∧ e ≤ 4700
section INVS
variable {G : GT} {ok : KF} {ad : AD} {σ : SG} {A : AS} {e i : Nat}
theorem INV.ts (h : INV G ok ad σ A e i) : TS ok ad σ σ A := ⟨h.1.1, SF.refl σ, h.1.2.2.1, h.2.1.1, h.2.1.2, h.1.2.2.2.1⟩
theorem INV.tm (h : INV G ok ad σ A e i) : TM G ok ad σ σ A e := ⟨h.1.1, h.1.2.2.2.2.2.1, h.1.2.2.2.2.2.2.1, h.2.2.1.1, h.2.2.1.2, h.1.2.2.2.1, h.1.2.2.2.2.1⟩
theorem INV.more {i' : Nat} (h : INV G ok ad σ A e i) (hi : i ≤ i') : INV G ok ad σ A e i' := by
  obtain ⟨h1, h2, h3, h4, h5, h6, h7, h8, h9, h10, h11⟩ := h
  exact ⟨h1, h2, h3, h4, h5, h6, h7, h8, by omega, by omega, h11⟩
/-- after a call that neither builds nor changes a test -/
theorem INV.simple {A' : AS} {s' τ τ' : SG} (h : INV G ok ad σ A e i) (hR : RR s' τ' A') (hK : aK A' = aK A) (hFS : FS σ s') (h1 : ∀ k i j x, ¬ (k = 60 ∨ k = 61) → ¬ (k = 30 ∧ x = 0) → τ k i j x = s' k i j x) (hFT : FT τ τ') (hq : (aQ A').length ≤ (aQ A).length + 1) : INV G ok ad τ' A' e (i + 1) := by
  obtain ⟨g1, ⟨g2, g3⟩, ⟨g4, g5⟩, g6, c5, c1, c6, cK, cq, ct, ce⟩ := h
  have lo : ∀ k i j x, k < 30 → τ' k i j x = s' k i j x := fun k i j x hk => (hFT k i j x (.inl hk)).trans (h1 k i j x (by omega) (by omega))
  have hi : ∀ k i j x, 16 ≤ k → k < 30 → τ' k i j x = σ k i j x := fun k i j x h2 h3 => (lo k i j x h3).trans (hFS k i j x h2)
  have hc : ∀ k i j x, 54 ≤ k → ¬ (k = 60 ∨ k = 61) → τ' k i j x = σ k i j x := fun k i j x h2 h3 => ((hFT k i j x (.inr (.inl h2))).trans (h1 k i j x h3 (by omega))).trans (hFS k i j x (by omega))
  have h30 : ∀ x, 5 ≤ x → τ' 30 0 0 x = σ 30 0 0 x := fun x hx => ((hFT 30 0 0 x (.inr (.inr ⟨rfl, .inr hx⟩))).trans (h1 30 0 0 x (by omega) (by omega))).trans (hFS 30 0 0 x (by omega))
  have ek : ∀ k, 16 ≤ k → k < 30 → τ' k = σ k := fun k h2 h3 => by funext i j x; exact hi k i j x h2 h3
  have e16 := ek 16 (by decide) (by decide)
  refine ⟨hR.fr lo, ⟨?_, ?_⟩, ⟨?_, ?_⟩, g6, ?_⟩
  · rw [hK]
    exact g2.same (ek 19 (by decide) (by decide)) (ek 21 (by decide) (by decide)) (ek 22 (by decide) (by decide)) (by rw [e16])
  · rw [hK]
    exact VK_of g3 (ek 18 (by decide) (by decide)) (by rw [e16])
  · rw [hK]
    exact g4.of (by funext i j x; exact hc 54 i j x (by decide) (by omega)) (by funext i j x; exact hc 55 i j x (by decide) (by omega)) (by funext i j x; exact hc 56 i j x (by decide) (by omega))
  · rw [h30 5 (by decide)]
    exact g5
  · rw [h30 5 (by decide), h30 6 (by decide), e16, hK]
    exact ⟨c5, c1, c6, cK, by omega, by omega, ce⟩
/-- a call that leaves all as it is but for what was thrown -/
theorem INV.same {σ' : SG} (h : INV G ok ad σ A e i) (hB : BD σ') (h1 : ∀ k i j x, ¬ (k = 60 ∨ k = 61) → ¬ (k = 30 ∧ x = 0) → σ' k i j x = σ k i j x) : INV G ok ad σ' A e (i + 1) :=
  h.simple (s' := σ) (τ := σ') (τ' := σ') (h.1.tm hB (fun k i j x h2 h3 h4 => h1 k i j x (by omega) (by omega))) rfl (FS.refl σ) h1 (FT.refl _) (by omega)
end INVS
