theorem mrgA_SF {σ0 σ : SG} (h : SF σ0 σ) (A : AS) (i : Nat) : mrgA σ A i = mrgA σ0 A i := by
  have e0 : σ 0 0 0 0 = σ0 0 0 0 0 := by rw [h.1 0 (by decide) (by decide) (by decide) (by decide) (by decide) rfl]
  have e3 : ∀ c, σ 6 c 0 3 = σ0 6 c 0 3 := fun c => h.2.1 c 3 (by decide) (by decide) (by decide)
  have eh : ∀ c, hit σ A i c = hit σ0 A i c := fun c => by
    unfold hit shr
    rw [e0, e3, e3]
  unfold mrgA
  simp only [eh, e3, SF_layv h]
theorem TS_i {ok : KF} {ad : AD} {σ0 σ : SG} {A : AS} {i : Nat} (hB0 : BD σ0) (h : TS ok ad σ0 σ A) (hi : i ∈ aQ A) : i < 16 ∧ σ 12 1 0 0 < 16 := by
  obtain ⟨-, -, h3, -, -, h6⟩ := h
  have hn : σ0 0 0 0 0 < 17 := hB0 0 0 0 0 rfl
  have hl := (h6.2.2.1 i hi).1
  have h7 := AI_mrg h6 hi
  have h8 := AI_len h7.2.1 (fun c hc => (h7.2.2.2 c hc).1)
  have h9 : (aM (mrgA σ0 A i)).length = (aM A).length + 1 := by
    show (aM A ++ [i]).length = _
    simp
  have h10 := lsO_len σ 1
  rw [h3.2.2.2.2.1] at h10
  omega
theorem TS_mg {ok : KF} {ad : AD} {σ0 σ : SG} {A : AS} {i : Nat} (hB0 : BD σ0) (h : TS ok ad σ0 σ A) (hi : i ∈ aQ A) : TS ok ad σ0 (mgS σ i) (mrgA σ0 A i) := by
  obtain ⟨q1, q2⟩ := TS_i hB0 h hi
  obtain ⟨h1, h2, h3, h4, h5, h6⟩ := h
  refine ⟨mgl_BD (mg0_BD h1 q1 q2) _ _ _, h2.trans (SF_mgS σ i), ?_, ?_, h5, AI_mrg h6 hi⟩
  · rw [← mrgA_SF h2]
    exact RC_mgS h1 q1 (fun c hc => (h6.2.2.1 c hc).2) h3
  · exact h4.same (by funext a b x; exact mgS_k (by decide) (by decide) (by omega) (by decide)) (by funext a b x; exact mgS_k (by decide) (by decide) (by omega) (by decide)) (by funext a b x; exact mgS_k (by decide) (by decide) (by omega) (by decide)) (mgS_k (by decide) (by decide) (by omega) (by decide))
/-- a single change put back and marked -/
def flS (σ : SG) (i : Nat) : SG := up (rpn σ i) 6 i 0 2 1
theorem TS_fl {ok : KF} {ad : AD} {σ0 σ : SG} {A : AS} {i : Nat} (h : TS ok ad σ0 σ A) (hi : i ∈ aQ A) : TS ok ad σ0 (flS σ i) (falA A i) := by
  obtain ⟨h1, h2, h3, h4, h5, h6⟩ := h
  have hk : ∀ k a b x, k ≠ 12 → k ≠ 13 → ¬ (k = 6 ∧ (x = 1 ∨ x = 2)) → flS σ i k a b x = σ k a b x := fun k a b x g1 g2 g3 => by
    unfold flS
    by_cases e : k = 6
    · rw [up_x (fun q => g3 ⟨e, .inr q⟩)]
      exact rpn_k g1 g2 (fun q => g3 ⟨e, .inl q.2⟩)
    · rw [up_k e]
      exact rpn_k g1 g2 (fun q => e q.1)
  obtain ⟨r1, r2, r3, r4, r5, r6⟩ := h3
  refine ⟨BD.put (rpn_BD h1) (by decide), ⟨fun k g6 g12 g13 g14 g15 gk => ?_, fun c x g1 g2 g4 => ?_, ?_⟩, ⟨fun c hc => ?_, fun c hc => ?_, fun c hc x hx => ?_, ?_, ?_, fun x hx => ?_⟩, ?_, h5, AI_fal h6 hi⟩
  · rw [← h2.1 k g6 g12 g13 g14 g15 gk]
    funext a b x
    exact hk k a b x g12 g13 (fun q => g6 q.1)
  · rw [hk 6 c 0 x (by decide) (by decide) (by omega)]
    exact h2.2.1 c x g1 g2 g4
  · rw [hk 16 0 0 0 (by decide) (by decide) (by omega)]
    exact h2.2.2
  · show _ = if c = i then 111 else aS A c
    unfold flS
    rw [up_x (by decide)]
    unfold rpn
    by_cases e : c = i
    · rw [if_pos e, e, up_same]
    · rw [if_neg e, up_i e, drO_k (by decide) (by decide)]
      exact r1 c hc
  · show _ = if c = i then 1 else aF A c
    unfold flS
    by_cases e : c = i
    · rw [if_pos e, e, up_same]
    · rw [if_neg e, up_i e, rpn_k (by decide) (by decide) (by omega)]
      exact r2 c hc
  · rw [hk 6 c 0 4 (by decide) (by decide) (by omega)]
    exact r3 c hc x hx
  · have : lsO (flS σ i) 0 = lsO (drO σ 0 i) 0 := rfl
    rw [this, lsO_drO, r4]
    rfl
  · have : lsO (flS σ i) 1 = lsO (drO σ 0 i) 1 := rfl
    rw [this, lsO_other (by decide)]
    exact r5
  · rw [hk 15 0 0 x (by decide) (by decide) (by omega)]
    exact r6 x hx
  · exact h4.same (by funext a b x; exact hk 19 a b x (by decide) (by decide) (by omega)) (by funext a b x; exact hk 21 a b x (by decide) (by decide) (by omega)) (by funext a b x; exact hk 22 a b x (by decide) (by decide) (by omega)) (hk 16 0 0 1 (by decide) (by decide) (by omega))
