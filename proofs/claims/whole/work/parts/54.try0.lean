theorem lyl_00 (σ : SG) (a : Nat) : ∀ n x, lyl σ a n 15 0 0 x = σ 15 0 0 x
  | 0, x => by
    show cnd σ 15 0 0 x = _
    unfold cnd
    exact upr_i (by decide)
  | n + 1, x => by
    show lay (lyl σ a n) (σ 14 0 0 (a + n)) 1 64 15 0 0 x = _
    unfold lay
    rw [if_neg (fun q => absurd q.2.1 (by decide))]
    exact lyl_00 σ a n x
theorem RC_lyl {σ : SG} {A : AS} (h : RC σ A) (a n : Nat) : RC (lyl σ a n) A := by
  obtain ⟨h1, h2, h3, h4, h5, h6⟩ := h
  have e6 := lyl_kf (σ := σ) (a := a) (k := 6) (by decide) n
  have e12 := lyl_kf (σ := σ) (a := a) (k := 12) (by decide) n
  have e13 := lyl_kf (σ := σ) (a := a) (k := 13) (by decide) n
  have el : ∀ w, lsO (lyl σ a n) w = lsO σ w := fun w => by
    unfold lsO
    rw [e12, e13]
  exact ⟨fun c hc => by rw [e6]; exact h1 c hc, fun c hc => by rw [e6]; exact h2 c hc, fun c hc x hx => by rw [e6]; exact h3 c hc x hx, (el 0).trans h4, (el 1).trans h5, fun x hx => (lyl_00 σ a n x).trans (h6 x hx)⟩
theorem SF_lyl (σ : SG) (a n : Nat) : SF σ (lyl σ a n) :=
  ⟨fun k _ _ _ _ h15 _ => lyl_kf h15 n, fun c x _ _ _ => lyl_k (by decide) n, lyl_k (by decide) n⟩
theorem SF_mixS {σ τ : SG} (h : τ 16 0 0 0 = σ 16 0 0 0) : SF σ (mixS σ τ) :=
  ⟨fun k _ _ _ _ _ hk => by
    funext i j x
    show (bif kS k then _ else _) = _
    rw [hk]
    rfl, fun c x _ _ _ => rfl, h⟩
/-- the class's memory in a step -/
def TS (ok : KF) (ad : AD) (σ0 σ : SG) (A : AS) : Prop := BD σ ∧ SF σ0 σ ∧ RC σ A ∧ CK ok ad σ (aK A) ∧ VK σ0 (aK A) ∧ AI σ0 A
theorem VK_SF {σ0 σ : SG} (h : SF σ0 σ) {K : List (List Nat)} (hV : VK σ0 K) : VK σ K := VK_of hV (h.1 18 (by decide) (by decide) (by decide) (by decide) (by decide) rfl) h.2.2
theorem VK_SF' {σ0 σ : SG} (h : SF σ0 σ) {K : List (List Nat)} (hV : VK σ K) : VK σ0 K := VK_of hV (h.1 18 (by decide) (by decide) (by decide) (by decide) (by decide) rfl).symm h.2.2.symm
/-- what a build of the batch says is what the abstract state's build says -/
theorem sbl_bt {ok : KF} {ad : AD} {σ0 σ : SG} {A : AS} (h : TS ok ad σ0 σ A) (hB0 : BD σ0) (a n : Nat) (K : List (List Nat)) : sbl (lyl σ a n) (lyl σ a n 15 1 0) 4 K = sbl σ0 ((bt σ a n).foldl (fun v c => layv σ0 c v) (aT A)) 4 K := by
  obtain ⟨h1, h2, h3, -⟩ := h
  have h2b := h2.trans (SF_lyl σ a n)
  rw [sbl_18 (h2b.1 18 (by decide) (by decide) (by decide) (by decide) (by decide) rfl) h2b.2.2]
  have hl : (fun (v : Nat → Nat) c => layv σ c v) = fun v c => layv σ0 c v := by
    funext v c
    rw [SF_layv h2]
  have key : ∀ (l : List Nat) (v v' : Nat → Nat), (∀ x, x < 64 → v x = v' x) → ∀ x, x < 64 → l.foldl (fun v c => layv σ0 c v) v x = l.foldl (fun v c => layv σ0 c v) v' x := fun l => by
    induction l with
    | nil => exact fun v v' h => h
    | cons c l ih =>
      intro v v' h x hx
      exact ih _ _ (fun x hx => by
        unfold layv
        dsimp only
        rw [h x hx]) x hx
  refine sbl_v hB0 (fun x hx => ?_) 4 K
  rw [lyl_v σ a n x hx, hl]
  exact key _ _ _ h3.2.2.2.2.2 x hx
/-- behind a build of the batch -/
theorem TS_build {ok nk : KF} {ad na : AD} {σ0 σ τ : SG} {A : AS} {a n : Nat} {K' : List (List Nat)} (h : TS ok ad σ0 σ A) (h1 : BD (mixS (lyl σ a n) τ)) (h2 : CK (mixK ok nk) (mixA ad na) (mixS (lyl σ a n) τ) K') (h3 : VK (lyl σ a n) K') (h4 : τ 16 0 0 0 = lyl σ a n 16 0 0 0) : TS (mixK ok nk) (mixA ad na) σ0 (mixS (lyl σ a n) τ) (setK A K') := by
  obtain ⟨-, g2, g3, -, -, g6⟩ := h
  exact ⟨h1, (g2.trans (SF_lyl σ a n)).trans (SF_mixS h4), RC_lyl g3 a n, h2, VK_SF' (g2.trans (SF_lyl σ a n)) h3, g6⟩
