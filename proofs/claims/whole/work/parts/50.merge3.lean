theorem RC_mgS {σ : SG} {A : AS} {i : Nat} (hB : BD σ) (hi : i < 16) (hQ : ∀ c ∈ aQ A, aS A c = 113) (h : RC σ A) : RC (mgS σ i) (mrgA σ A i) := by
  have hn : σ 0 0 0 0 < 17 := hB 0 0 0 0 rfl
  have key : ∀ o, o ≤ σ 0 0 0 0 → RC (mgl (mg0 σ i) i (σ 6 i 0 3) o) (mrP σ A i o) := fun o => by
    induction o with
    | zero => exact fun _ => RC_mg0 hi h
    | succ o ih =>
      intro ho
      have ih := ih (by omega)
      unfold mgl
      by_cases e : o = i
      · rw [if_pos e, mrP_no (by rw [e]; exact hit_self _ _ _)]
        exact ih
      · rw [if_neg e]
        exact RC_clS (by omega) e (by omega) hQ ((mgl_k (by decide) (by decide) (by omega) (by omega) o).trans (mg0_k (by decide) (by decide) (by omega) (by omega) (by decide))) ih
  have := key _ (Nat.le_refl _)
  rw [mrP_last] at this
  exact this
theorem mgS_k {σ : SG} {n k i j x : Nat} (h1 : k ≠ 12) (h2 : k ≠ 13) (h3 : ¬ (k = 6 ∧ (x = 1 ∨ x = 2 ∨ x = 4))) (h5 : k ≠ 15) : mgS σ n k i j x = σ k i j x :=
  (mgl_k h1 h2 (by omega) (by omega) _).trans (mg0_k h1 h2 (by omega) (by omega) h5)
theorem SF_mgS (σ : SG) (n : Nat) : SF σ (mgS σ n) :=
  ⟨fun k h6 h12 h13 h14 h15 _ => by
    funext i j x
    exact mgS_k h12 h13 (fun q => h6 q.1) h15, fun c x h1 h2 h4 => mgS_k (by decide) (by decide) (by omega) (by decide), mgS_k (by decide) (by decide) (by omega) (by decide)⟩
