theorem CK.mxK {ok nk : KF} {ad na : AD} {σ : SG} {K : List (List Nat)} (h : CK ok ad σ K) (h80 : ∀ k i j, _root_.Jvm.Pilot.CBranchyardLaw_law_r6979_5704fe.mxK ok nk k i j → k < 80) : CK (_root_.Jvm.Pilot.CBranchyardLaw_law_r6979_5704fe.mxK ok nk) (mxA ad na) σ K := by
  obtain ⟨⟨L, hL⟩, h1, h2, h3⟩ := h
  exact ⟨⟨L, fun d hd => ⟨Chn.ext (ok := ok) (ok' := _root_.Jvm.Pilot.CBranchyardLaw_law_r6979_5704fe.mxK ok nk) (ad := ad) (ad' := mxA ad na) (σ := σ) (σ' := σ) (Q := fun _ => True) (fun _ _ q => q) (fun _ _ q => q) (fun _ _ => rfl) (fun _ _ => rfl) (fun _ _ => rfl) (fun _ _ => trivial) (hL d hd).1, (hL d hd).2⟩⟩, h80, h2, h3⟩
section BUILT
variable {G : GT} {ok nk nk2 : KF} {ad na na2 : AD} {σ σ' σ1 τ' : SG} {A A' : AS} {e e' i t B : Nat}
/-- the model before its own call stands as the class stood before -/
theorem INV.mid (h : INV G ok ad σ A e i) (hT : TS (mixK ok nk) (mixA ad na) σ σ' A') (h1 : ∀ k i j x, ¬ (k = 60 ∨ k = 61) → ¬ (k = 30 ∧ x = 0) → σ1 k i j x = σ' k i j x) (hB1 : BD σ1) (hc : σ' 30 = σ 30) : TM G (mixK ok nk) (mixA ad na) σ σ1 A e := by
  obtain ⟨g1, ⟨g2, g3⟩, ⟨g4, g5⟩, g6, c5, c1, c6, cK, cq, ct, ce⟩ := h
  obtain ⟨t1, t2, t3, t4, t5, t6⟩ := hT
  obtain ⟨hBs, hBt, hC, hA, hQ, hS, hM, hX, hD⟩ := g1
  have hk : ∀ k, 30 ≤ k → σ' k = σ k := fun k hk => t2.1 k (by omega) (by omega) (by omega) (by omega) (by omega) (kS_hi hk)
  have hm : ∀ k i j x, 30 ≤ k → ¬ (k = 60 ∨ k = 61) → ¬ (k = 30 ∧ x = 0) → σ1 k i j x = σ k i j x := fun k i j x q1 q2 q3 => (h1 k i j x q2 q3).trans (by rw [hk k q1])
  refine ⟨hB1, hS.of (fun k i j x q => ?_), hM.mf (fun k i j x q => ?_), ?_, ?_, hA, hQ⟩
  · simp only [smB, Bool.or_eq_true, Bool.and_eq_true, beq_iff_eq] at q
    exact hm k i j x (by omega) (by omega) (by omega)
  · simp only [mfB, Bool.or_eq_true, Bool.and_eq_true, beq_iff_eq] at q
    exact hm k i j x (by omega) (by omega) (by omega)
  · have g4 : Arr G (mixK ok nk) (mixA ad na) σ (aK A) e := g4
    exact g4.of (by funext i j x; exact hm 54 i j x (by decide) (by omega) (by omega)) (by funext i j x; exact hm 55 i j x (by decide) (by omega) (by omega)) (by funext i j x; exact hm 56 i j x (by decide) (by omega) (by omega))
  · rw [hm 30 0 0 5 (by decide) (by omega) (by omega)]
    refine ⟨fun k i j q => ?_, g5.2.1, g5.2.2⟩
    have k80 := t4.2.1 k i j q
    refine ⟨k80, ?_⟩
    rintro rfl
    have q : ok 59 i j := q
    exact (g5.1 _ _ _ q).2 rfl
/-- after a step or a revert of both -/
theorem INV.built (h : INV G ok ad σ A e i) (hT : TS (mixK ok nk) (mixA ad na) σ σ' A') (hCT : CT σ σ' (aK A) (aK A') t B)
    (h1 : ∀ k i j x, ¬ (k = 60 ∨ k = 61) → ¬ (k = 30 ∧ x = 0) → σ1 k i j x = σ' k i j x)
    (hTM : TM G (mxK (mixK ok nk) nk2) (mxA (mixA ad na) na2) σ τ' A' e') (hNW : NW σ1 τ') (hCm : CTm σ1 τ' (aK A) (aK A') t B)
    (hD' : SND σ A') (hout : ∀ c, σ 0 0 0 0 ≤ c → aS A' c = aS A c ∧ aF A' c = aF A c ∧ ∀ x, aC A' c x = aC A c x)
    (hq : σ 16 0 0 2 + ((aK A').length - (aK A).length) + 6 * (aQ A').length ≤ 6 * (i + 1)) (ht : t ≤ 28) (he' : e' ≤ 4700) : INV G (mxK (mixK ok nk) nk2) (mxA (mixA ad na) na2) τ' A' e' (i + 1) := by
  obtain ⟨g1, ⟨g2, g3⟩, ⟨g4, g5⟩, g6, c5, c1, c6, cK, cq, ct, ce⟩ := h
  obtain ⟨hBs, hBt, hC, hA, hQ, hS, hM, hX, hD⟩ := g1
  obtain ⟨t1, t2, t3, t4, t5, t6⟩ := hT
  obtain ⟨m1, m2, m3, m4, m5, m6, m7⟩ := hTM
  obtain ⟨b1, b2, b3, b4, b5, b6⟩ := hCT
  obtain ⟨d1, d2, d3, d4, d5⟩ := hCm
  have hk : ∀ k, 30 ≤ k → σ' k = σ k := fun k hk => t2.1 k (by omega) (by omega) (by omega) (by omega) (by omega) (kS_hi hk)
  have lo : ∀ k i j x, k < 30 → τ' k i j x = σ' k i j x := fun k i j x q => (hNW k i j x (nwB_lo q)).trans (h1 k i j x (by omega) (by omega))
  have hm : ∀ k i j x, 30 ≤ k → ¬ (k = 60 ∨ k = 61) → ¬ (k = 30 ∧ x = 0) → σ1 k i j x = σ k i j x := fun k i j x q1 q2 q3 => (h1 k i j x q2 q3).trans (by rw [hk k q1])
  have mm : ∀ k i j x, nwB k x = false → 30 ≤ k → ¬ (k = 60 ∨ k = 61) → ¬ (k = 30 ∧ x = 0) → τ' k i j x = σ k i j x := fun k i j x q1 q2 q3 q4 => (hNW k i j x q1).trans (hm k i j x q2 q3 q4)
  have e0 : σ' 0 = σ 0 := t2.1 0 (by decide) (by decide) (by decide) (by decide) (by decide) rfl
  have cf : CF σ σ' := ⟨e0, fun c => t2.2.1 c 3 (by decide) (by decide) (by decide), t2.1 7 (by decide) (by decide) (by decide) (by decide) (by decide) rfl, t2.2.2, t2.1 18 (by decide) (by decide) (by decide) (by decide) (by decide) rfl⟩
  have hn17 : σ 0 0 0 0 < 17 := hBs 0 0 0 0 rfl
  have rr : RR σ' τ' A' := by
    refine ⟨t1, m1, t3, ?_, ?_, m2.cf cf, ?_, ?_, ?_⟩
    · unfold AI at *; rw [e0]; exact m6
    · unfold QI at *; rw [e0]; exact m7
    · unfold RM at *; rw [e0]; exact m3
    · obtain ⟨w1, w2, w3, w4, w5, w6, w7⟩ := hX
      have ek : ∀ k, k ≠ 6 → k ≠ 12 → k ≠ 13 → k ≠ 14 → k ≠ 15 → kS k = false → σ' k = σ k := t2.1
      have em : ∀ k, (∀ x, nwB k x = false) → 30 < k → ¬ (k = 60 ∨ k = 61) → τ' k = σ k := fun k q1 q2 q3 => by funext i j x; exact mm k i j x (q1 x) (by omega) q3 (by omega)
      refine ⟨fun d hd => ?_, fun p hp => ?_, fun c hc => ?_, fun c hc p hp => ?_, fun c hc p hp h8 x hx => ?_, fun c hc h16 => ?_, fun tt q1 q2 => ?_⟩
      · rw [em 36 (fun _ => rfl) (by decide) (by decide), em 37 (fun _ => rfl) (by decide) (by decide), em 38 (fun _ => rfl) (by decide) (by decide), ek 1 (by decide) (by decide) (by decide) (by decide) (by decide) rfl, ek 2 (by decide) (by decide) (by decide) (by decide) (by decide) rfl, ek 3 (by decide) (by decide) (by decide) (by decide) (by decide) rfl]
        exact w1 d hd
      · rw [em 39 (fun _ => rfl) (by decide) (by decide), ek 4 (by decide) (by decide) (by decide) (by decide) (by decide) rfl]
        exact w2 p hp
      · rw [e0] at hc
        rw [em 49 (fun _ => rfl) (by decide) (by decide), t2.2.1 c 0 (by decide) (by decide) (by decide)]
        exact w3 c hc
      · rw [e0] at hc
        rw [em 45 (fun _ => rfl) (by decide) (by decide), ek 8 (by decide) (by decide) (by decide) (by decide) (by decide) rfl]
        exact w4 c hc p hp
      · rw [e0] at hc
        rw [ek 8 (by decide) (by decide) (by decide) (by decide) (by decide) rfl] at h8
        rw [em 48 (fun _ => rfl) (by decide) (by decide), ek 9 (by decide) (by decide) (by decide) (by decide) (by decide) rfl, ek 11 (by decide) (by decide) (by decide) (by decide) (by decide) rfl]
        exact w5 c hc p hp h8 x hx
      · rw [e0] at hc
        obtain ⟨u1, u2, u3, u4, u5⟩ := w6 c hc h16
        obtain ⟨o1, o2, o3⟩ := hout c hc
        rw [ek 8 (by decide) (by decide) (by decide) (by decide) (by decide) rfl, t3.1 c h16, t3.2.1 c h16, o1, o2, ← hC.1 c h16, ← hC.2.1 c h16, t2.2.1 c 3 (by decide) (by decide) (by decide)]
        refine ⟨u1, u2, u3, ?_, u5⟩
        have h4 : σ' 6 c 0 4 < 2 ^ 64 := t1 6 c 0 4 rfl
        apply Nat.eq_of_testBit_eq
        intro x
        rw [Nat.zero_testBit]
        by_cases hx : x < 64
        · rw [t3.2.2.1 c h16 x hx, o3 x, ← hC.2.2.1 c h16 x hx, u4, Nat.zero_testBit]
        · exact Nat.testBit_lt_two_pow (Nat.lt_of_lt_of_le h4 (Nat.pow_le_pow_right (by decide) (by omega)))
      · rw [t2.2.2] at q1
        rw [em 35 (fun _ => rfl) (by decide) (by decide)]
        exact w7 tt q1 q2
    · exact hD'.cf cf rfl rfl
  have e16 : τ' 16 = σ' 16 := by funext i j x; exact lo 16 i j x (by decide)
  have ek : ∀ k, k < 30 → τ' k = σ' k := fun k q => by funext i j x; exact lo k i j x q
  obtain ⟨k1, k2, k3, k4, k5, k6, k7⟩ := g6
  have s5 : σ1 30 0 0 5 = σ 30 0 0 5 := hm 30 0 0 5 (by decide) (by omega) (by omega)
  have s6 : σ1 30 0 0 6 = σ 30 0 0 6 := hm 30 0 0 6 (by decide) (by omega) (by omega)
  refine ⟨rr.fr lo, ⟨?_, ?_⟩, ⟨m4, m5⟩, ⟨k1, k2, k3, k4, k5, k6.mix.mx, k7.mix.mx⟩, ?_⟩
  · exact (t4.mxK (fun k i j q => (m5.1 k i j q).1)).same (ek 19 (by decide)) (ek 21 (by decide)) (ek 22 (by decide)) (by rw [e16])
  · exact VK_of t5 ((ek 18 (by decide)).trans cf.2.2.2.2) (by rw [e16]; exact t2.2.2)
  · rw [e16]
    refine ⟨by omega, by omega, by omega, by omega, by omega, by omega, he'⟩
end BUILT
