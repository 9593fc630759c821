theorem arrV_congr {c : ClassId} {n : Nat} {f g : Nat → Value} (h : ∀ j, j < n → f j = g j) : arrV c n f = arrV c n g := by
  have e : (arrV c n f).slots = (arrV c n g).slots := by
    apply Array.ext_getElem?
    intro i
    by_cases hi : i < n
    · rw [arrV_read _ _ hi, arrV_read _ _ hi, h i hi]
    · rw [Array.getElem?_eq_none (by rw [arrV_size]; omega), Array.getElem?_eq_none (by rw [arrV_size]; omega)]
  unfold arrV at e ⊢
  simp only at e
  rw [e]
/-! ===== keys that come and go: mixed pictures ===== -/
def dynB (k : Nat) : Bool := k == 21 || k == 22
def mixA (ad na : AD) : AD := fun k i j => bif dynB k then na k i j else ad k i j
def mixK (ok nk : KF) : KF := fun k i j => bif dynB k then nk k i j else ok k i j
theorem mixA_mixA (ad na nb : AD) : mixA (mixA ad na) nb = mixA ad nb := by
  funext k i j
  simp only [mixA]
  cases dynB k <;> rfl
theorem mixK_mixK (ok nk nl : KF) : mixK (mixK ok nk) nl = mixK ok nl := by
  funext k i j
  simp only [mixK]
  cases dynB k <;> rfl
theorem mixA_id (ad : AD) : mixA ad ad = ad := by
  funext k i j
  simp only [mixA]
  cases dynB k <;> rfl
theorem mixK_id (ok : KF) : mixK ok ok = ok := by
  funext k i j
  simp only [mixK]
  cases dynB k <;> rfl
theorem mixA_of {ad ad' : AD} (h : ∀ k i j, dynB k = false → ad' k i j = ad k i j) : ad' = mixA ad ad' := by
  funext k i j
  simp only [mixA]
  cases e : dynB k with
  | true => rfl
  | false => exact h k i j e
theorem mixK_of {ok ok' : KF} (h : ∀ k i j, dynB k = false → (ok' k i j ↔ ok k i j)) : ok' = mixK ok ok' := by
  funext k i j
  simp only [mixK]
  cases e : dynB k with
  | true => rfl
  | false => exact propext (h k i j e)
theorem dynB_cases {k : Nat} (e : dynB k = true) : k = 21 ∨ k = 22 ∨ ∃ m, k = m + 55 := by
  simp only [dynB, Bool.or_eq_true, beq_iff_eq] at e
  rcases e with h | h
  · exact .inl h
  · exact .inr (.inl h)
theorem okc_hi (m i j : Nat) : okc (m + 55) i j = false := rfl
theorem okm_hi (m i j : Nat) : okm (m + 55) i j = false := rfl
theorem okc_dyn {k i j : Nat} (e : dynB k = true) : okc k i j = false := by
  rcases dynB_cases e with rfl | rfl | ⟨m, rfl⟩
  · rfl
  · rfl
  · exact okc_hi m i j
theorem okm_dyn {k i j : Nat} (e : dynB k = true) : okm k i j = false := by
  rcases dynB_cases e with rfl | rfl | ⟨m, rfl⟩
  · rfl
  · rfl
  · exact okm_hi m i j
theorem OKC.mix {ok nk : KF} (h : OKC ok) : OKC (mixK ok nk) := fun k i j hk => by
  have e : dynB k = false := by
    cases e : dynB k with
    | false => rfl
    | true => rw [okc_dyn e] at hk; cases hk
  show bif dynB k then _ else _
  rw [e]
  exact h k i j hk
theorem OKM.mix {ok nk : KF} (h : OKM ok) : OKM (mixK ok nk) := fun k i j hk => by
  have e : dynB k = false := by
    cases e : dynB k with
    | false => rfl
    | true => rw [okm_dyn e] at hk; cases hk
  show bif dynB k then _ else _
  rw [e]
  exact h k i j hk
/-- the same cells under other keys -/
theorem v_rekey {X : XT} {G : GT} {kc ks : Nat} {ok ok' : KF} {ad ad' : AD} {σ σ' : SG} {l : List (Nat × Value)} {pc : Nat} {st : List Value} (f : Nat → Nat → Nat → Nat × Nat × Nat)
    (hf : ∀ k i j, ok' k i j → ok (f k i j).1 (f k i j).2.1 (f k i j).2.2 ∧ ad' k i j = ad (f k i j).1 (f k i j).2.1 (f k i j).2.2 ∧ enck G.2.2.1 ad' k i j (σ' k i j) = enck G.2.2.1 ad (f k i j).1 (f k i j).2.1 (f k i j).2.2 (σ (f k i j).1 (f k i j).2.1 (f k i j).2.2))
    (hi : ∀ k i j k' i' j', ok' k i j → ok' k' i' j' → f k i j = f k' i' j' → k = k' ∧ i = i' ∧ j = j') (kk : V X G kc ks ok' ad' σ' l pc st) : V X G kc ks ok ad σ l pc st := fun H locs ls hR hS hls => kk H locs ls (hR.map f hf hi) hS hls
