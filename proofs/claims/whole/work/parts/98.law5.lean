/-! ===== the invariant when both have just been made ===== -/
def A00 : AS := (fun _ => 111, fun _ => 0, fun _ _ => false, [], [], fun _ => 0, [])
theorem INV_start {G : GT} {ok : KF} {ad : AD} {σ : SG} (hB : BD σ)
    (n0 : σ 0 0 0 0 = 0) (n2 : σ 30 0 0 2 = 0) (n1 : σ 30 0 0 1 = 0) (n16 : ∀ x, x < 4 → σ 16 0 0 x = 0)
    (s6 : ∀ c, c < 16 → σ 6 c 0 1 = 111 ∧ σ 6 c 0 2 = 0 ∧ σ 6 c 0 3 = 0 ∧ σ 6 c 0 4 = 0 ∧ ∀ p, p < 6 → σ 8 c 0 p = 0)
    (l0 : σ 12 0 0 0 = 0) (l1 : σ 12 1 0 0 = 0) (m3 : σ 30 0 0 3 = 0) (m4 : σ 30 0 0 4 = 0) (m5 : σ 30 0 0 5 = 0) (m6 : σ 30 0 0 6 = 0)
    (t15 : ∀ x, x < 64 → σ 15 0 0 x = 0 ∧ σ 31 0 0 x = 0) (t53 : ∀ c, c < 16 → σ 53 0 0 c = 0 ∧ ∀ x, x < 64 → σ 43 c 0 x = 0)
    (w : ∀ d, d < 4 → σ 36 0 0 d = σ 1 0 0 d ∧ σ 37 0 0 d = σ 2 0 0 d ∧ σ 38 0 0 d = σ 3 0 0 d) (w2 : ∀ p, p < 6 → σ 39 0 0 p = σ 4 0 0 p) (w3 : ∀ t, t < 12 → σ 35 0 0 t = 0)
    (h19 : ∀ d, d < 4 → σ 19 0 0 d = 0) (hKI : KI ok 0) (hKM : KM ok 0 0) (a2 : σ 54 0 0 2 = 0) (a1 : σ 54 0 0 1 = G.2.2.2 0 + 1)
    (hk : ok 60 0 0 ∧ ok 61 0 0 ∧ ¬ ok 57 0 0 ∧ ¬ ok 58 0 0 ∧ ¬ ok 62 0 0 ∧ OKC ok ∧ OKM ok) : INV G ok ad σ A00 0 0 := by
  have hRC : RC σ A00 := by
    refine ⟨fun c hc => (s6 c hc).1, fun c hc => (s6 c hc).2.1, fun c hc x hx => ?_, ?_, ?_, fun x hx => (t15 x hx).1⟩
    · rw [(s6 c hc).2.2.2.1, Nat.zero_testBit]; rfl
    · unfold lsO; rw [l0]; rfl
    · unfold lsO; rw [l1]; rfl
  have hRM : RM σ σ A00 := by
    refine ⟨fun c hc => absurd hc (by omega), fun c hc => (t53 c hc).1, fun c hc x hx => ?_, ?_, ?_, fun x hx => (t15 x hx).2⟩
    · rw [(t53 c hc).2 x hx]; rfl
    · show (List.range (σ 30 0 0 3)).map _ = []; rw [m3]; rfl
    · show (List.range (σ 30 0 0 4)).map _ = []; rw [m4]; rfl
  have hS : SM σ σ := by
    refine ⟨n2.trans n0.symm, fun c hc => absurd hc (by omega), n1.trans (n16 0 (by decide)).symm, fun t ht => absurd ht (by rw [n16 0 (by decide)]; omega)⟩
  have hX : RX σ σ := by
    refine ⟨w, w2, fun c hc => absurd hc (by omega), fun c hc => absurd hc (by omega), fun c hc => absurd hc (by omega), fun c _ hc => ?_, fun t _ ht => w3 t ht⟩
    obtain ⟨q1, q2, q3, q4, q5⟩ := s6 c hc
    exact ⟨q1, q2, q3, q4, q5⟩
  have hA : AI σ A00 := ⟨List.nodup_nil, List.nodup_nil, fun c hc => (by cases hc), fun c hc => (by cases hc)⟩
  have hQ : QI σ A00 := ⟨fun c hc => absurd hc (by omega), fun c hc => absurd hc (by omega)⟩
  have hD : SND σ A00 := ⟨fun _ _ => rfl, fun d _ => by
    show allB _ 0 (σ 16 0 0 0) = true
    rw [n16 0 (by decide)]
    rfl⟩
  refine ⟨⟨hB, hB, hRC, hA, hQ, hS, hRM, hX, hD⟩, ⟨⟨⟨fun _ => [], fun d hd => ⟨?_, rfl⟩⟩, by rw [n16 1 (by decide)]; exact hKI⟩, fun x hx => by cases hx⟩, ⟨⟨a2, .inl ⟨rfl, rfl, a1⟩⟩, by rw [m5]; exact hKM⟩, hk, ?_⟩
  · rw [h19 d hd]
    rfl
  · rw [m5, m6, n16 1 (by decide), n16 2 (by decide), n16 3 (by decide)]
    exact ⟨rfl, rfl, rfl, Nat.le_refl _, Nat.le_refl _, Nat.le_refl _, by decide⟩
