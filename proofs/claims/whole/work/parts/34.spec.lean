/-! ===== builds, as the document tells them: what a directory's tests read, what they say, what is kept ===== -/
def psv (σ : SG) (v : Nat → Nat) (t : Nat) : Bool := decide (v (σ 18 t 0 0) + v (σ 18 t 0 1) ≤ σ 18 t 0 2)
def apv (σ : SG) (v : Nat → Nat) (d n : Nat) : Bool := allB (fun t => !(iso σ t d) || psv σ v t) 0 n
theorem aps_apv (σ : SG) (w d n : Nat) : aps σ w d n = apv σ (σ 15 w 0) d n := rfl
def inpv (σ : SG) (v : Nat → Nat) (d : Nat) : Nat → List Nat
  | 0 => []
  | t + 1 => inpv σ v d t ++ (if iso σ t d = true then [v (σ 18 t 0 0), v (σ 18 t 0 1)] else [])
abbrev nT (σ : SG) : Nat := σ 16 0 0 0
def ev (σ : SG) (v : Nat → Nat) (d : Nat) : List Nat := d :: b2n (apv σ v d (nT σ)) :: inpv σ v d (nT σ)
def addK (K : List (List Nat)) (e : List Nat) : List (List Nat) := if e ∈ K then K else K ++ [e]
/-- the directories 4 - r, .. 3 built until one is not good: whether all are, what is kept then, how many were taken from there -/
def sbl (σ : SG) (v : Nat → Nat) : Nat → List (List Nat) → Bool × List (List Nat) × Nat
  | 0, K => (true, K, 0)
  | r + 1, K =>
    if inpv σ v (3 - r) (nT σ) = [] then sbl σ v r K
    else if apv σ v (3 - r) (nT σ) = true then ((sbl σ v r (addK K (ev σ v (3 - r)))).1, (sbl σ v r (addK K (ev σ v (3 - r)))).2.1, (sbl σ v r (addK K (ev σ v (3 - r)))).2.2 + (if ev σ v (3 - r) ∈ K then 1 else 0))
    else (false, addK K (ev σ v (3 - r)), if ev σ v (3 - r) ∈ K then 1 else 0)
theorem inpv_app_inj {σ : SG} {v v' : Nat → Nat} {d : Nat} : ∀ {n : Nat}, inpv σ v d n = inpv σ v' d n → ∀ t, t < n → iso σ t d = true → v (σ 18 t 0 0) = v' (σ 18 t 0 0) ∧ v (σ 18 t 0 1) = v' (σ 18 t 0 1)
  | 0, _, t, ht, _ => absurd ht (Nat.not_lt_zero _)
  | n + 1, h, t, ht, hi => by
    unfold inpv at h
    have hl : ∀ (u : Nat → Nat), (inpv σ u d n).length = (inpv σ v d n).length := fun u => by
      have : ∀ m, (inpv σ u d m).length = (inpv σ v d m).length := fun m => by
        induction m with
        | zero => rfl
        | succ m ih => unfold inpv; rw [List.length_append, List.length_append, ih]; split <;> rfl
      exact this n
    have h2 := List.append_inj h (hl v').symm
    by_cases e : t = n
    · subst e
      rw [if_pos hi, if_pos hi] at h2
      have h3 := h2.2
      simp only [List.cons.injEq] at h3
      exact ⟨h3.1, h3.2.1⟩
    · exact inpv_app_inj h2.1 t (by omega) hi
/-- what the tests say is told by what they read -/
theorem apv_of_inp {σ : SG} {v v' : Nat → Nat} {d n : Nat} (h : inpv σ v d n = inpv σ v' d n) : apv σ v d n = apv σ v' d n := by
  have key := inpv_app_inj h
  have f : ∀ t, t < n → (!(iso σ t d) || psv σ v t) = (!(iso σ t d) || psv σ v' t) := fun t ht => by
    cases e : iso σ t d with
    | false => rfl
    | true =>
      obtain ⟨h1, h2⟩ := key t ht e
      unfold psv
      rw [h1, h2]
  have g : ∀ m, m ≤ n → apv σ v d m = apv σ v' d m := fun m => by
    induction m with
    | zero => intro _; rfl
    | succ m ih =>
      intro hm
      show (apv σ v d m && (!(iso σ (0 + m) d) || psv σ v (0 + m))) = (apv σ v' d m && (!(iso σ (0 + m) d) || psv σ v' (0 + m)))
      rw [ih (by omega), Nat.zero_add, f m (by omega)]
  exact g n (Nat.le_refl n)
/-- every result kept is of the tests that count now -/
def VK (σ : SG) (K : List (List Nat)) : Prop := ∀ e ∈ K, ∃ v d, d < 4 ∧ e = ev σ v d
theorem VK.good {σ : SG} {K : List (List Nat)} (h : VK σ K) {v : Nat → Nat} {d g : Nat} (he : (d :: g :: inpv σ v d (nT σ)) ∈ K) : g = b2n (apv σ v d (nT σ)) := by
  obtain ⟨v', d', -, e⟩ := h _ he
  unfold ev at e
  simp only [List.cons.injEq] at e
  obtain ⟨e1, e2, e3⟩ := e
  subst e1
  rw [e2, apv_of_inp e3]
theorem VK.add {σ : SG} {K : List (List Nat)} (h : VK σ K) (v : Nat → Nat) {d : Nat} (hd : d < 4) : VK σ (addK K (ev σ v d)) := fun e he => by
  unfold addK at he
  split at he
  · exact h e he
  · rcases List.mem_append.mp he with q | q
    · exact h e q
    · exact ⟨v, d, hd, List.mem_singleton.mp q⟩
theorem rdi_inp (σ : SG) (w d : Nat) : ∀ t, (List.range (rdi σ w d t).2).map (rdi σ w d t).1 = inpv σ (σ 15 w 0) d t
  | 0 => rfl
  | t + 1 => by
    have ih := rdi_inp σ w d t
    unfold rdi inpv
    split
    · rename_i hc
      show (List.range ((rdi σ w d t).2 + 2)).map _ = _
      rw [List.range_succ, List.range_succ, List.map_append, List.map_append, ← ih, List.append_assoc]
      congr 1
      · apply List.map_congr_left
        intro x hx
        have hx2 := List.mem_range.mp hx
        dsimp only
        rw [if_neg (by omega), if_neg (by omega)]
      · simp
    · rename_i hc
      rw [ih, List.append_nil]
theorem rdi_len (σ : SG) (w d t : Nat) : (rdi σ w d t).2 = (inpv σ (σ 15 w 0) d t).length := by
  rw [← rdi_inp]
  simp
