/-! ===== a step and a revert over an abstract state: states, failed, clashes, queue, merged, trunk, cells ===== -/
abbrev AS : Type := (Nat → Nat) × (Nat → Nat) × (Nat → Nat → Bool) × List Nat × List Nat × (Nat → Nat) × List (List Nat)
abbrev aS (A : AS) : Nat → Nat := A.1
abbrev aF (A : AS) : Nat → Nat := A.2.1
abbrev aC (A : AS) : Nat → Nat → Bool := A.2.2.1
abbrev aQ (A : AS) : List Nat := A.2.2.2.1
abbrev aM (A : AS) : List Nat := A.2.2.2.2.1
abbrev aT (A : AS) : Nat → Nat := A.2.2.2.2.2.1
abbrev aK (A : AS) : List (List Nat) := A.2.2.2.2.2.2
def layv (σ : SG) (c : Nat) (v : Nat → Nat) : Nat → Nat := fun x => if (σ 6 c 0 3).testBit x = true then σ 7 c 0 x else v x
def shr (σ : SG) (c c' : Nat) : Bool := decide (σ 6 c 0 3 &&& σ 6 c' 0 3 ≠ 0)
/-- the change c clashes when i is merged -/
def hit (σ : SG) (A : AS) (i c : Nat) : Bool := decide (c < σ 0 0 0 0) && decide (c ≠ i) && shr σ c i && (decide (aS A c = 111) || decide (aS A c = 113))
def mrgA (σ : SG) (A : AS) (i : Nat) : AS :=
  (fun c => if c = i then 109 else if hit σ A i c = true then 111 else aS A c,
   fun c => if c = i then 0 else aF A c,
   fun c x => aC A c x || (hit σ A i c && (σ 6 c 0 3).testBit x && (σ 6 i 0 3).testBit x),
   (aQ A).filter (fun c => decide (c ≠ i) && !hit σ A i c),
   aM A ++ [i],
   layv σ i (aT A),
   aK A)
def setK (A : AS) (K : List (List Nat)) : AS := (aS A, aF A, aC A, aQ A, aM A, aT A, K)
/-- a single change that is not good: back to open, marked as failed -/
def falA (A : AS) (i : Nat) : AS := (fun c => if c = i then 111 else aS A c, fun c => if c = i then 1 else aF A c, aC A, (aQ A).filter (fun c => decide (c ≠ i)), aM A, aT A, aK A)
/-- the changes b of a batch tried together; fuel says how often it may still be halved: how many are merged, what is then, how many results were taken -/
def trsA (σ : SG) : Nat → List Nat → AS → Nat × AS × Nat
  | 0, _, A => (0, A, 0)
  | f + 1, b, A =>
    let r := sbl σ (b.foldl (fun v c => layv σ c v) (aT A)) 4 (aK A)
    let A1 := setK A r.2.1
    if r.1 = true then (b.length, b.foldl (mrgA σ) A1, r.2.2)
    else if b.length ≤ 1 then (0, falA A1 (b.headD 0), r.2.2)
    else
      let r1 := trsA σ f (b.take (b.length / 2)) A1
      let r2 := trsA σ f (b.drop (b.length / 2)) r1.2.1
      (r1.1 + r2.1, r2.2.1, r.2.2 + r1.2.2 + r2.2.2)
/-- an order's numbers as a list -/
def lsO (σ : SG) (w : Nat) : List Nat := (List.range (σ 12 w 0 0)).map (σ 13 w 0)
/-- the class's memory stands for A -/
def RC (σ : SG) (A : AS) : Prop := (∀ c, c < 16 → σ 6 c 0 1 = aS A c) ∧ (∀ c, c < 16 → σ 6 c 0 2 = aF A c) ∧ (∀ c, c < 16 → ∀ x, x < 64 → (σ 6 c 0 4).testBit x = aC A c x) ∧ lsO σ 0 = aQ A ∧ lsO σ 1 = aM A ∧ ∀ x, x < 64 → σ 15 0 0 x = aT A x
/-- all else is as at the start -/
def SF (σ0 σ : SG) : Prop := (∀ k, k ≠ 6 → k ≠ 12 → k ≠ 13 → k ≠ 14 → k ≠ 15 → kS k = false → σ k = σ0 k) ∧ (∀ c x, x ≠ 1 → x ≠ 2 → x ≠ 4 → σ 6 c 0 x = σ0 6 c 0 x) ∧ σ 16 0 0 0 = σ0 16 0 0 0
theorem SF.refl (σ : SG) : SF σ σ := ⟨fun _ _ _ _ _ _ _ => rfl, fun _ _ _ _ _ => rfl, rfl⟩
theorem SF.trans {a b c : SG} (h : SF a b) (h2 : SF b c) : SF a c := ⟨fun k h1 h3 h4 h5 h6 h7 => (h2.1 k h1 h3 h4 h5 h6 h7).trans (h.1 k h1 h3 h4 h5 h6 h7), fun c x h1 h3 h4 => (h2.2.1 c x h1 h3 h4).trans (h.2.1 c x h1 h3 h4), h2.2.2.trans h.2.2⟩
/-- dropping a number is filtering it out -/
theorem drp_list (f : Nat → Nat) (n : Nat) : ∀ i, (List.range (drp f n i).2).map (drp f n i).1 = ((List.range i).map f).filter (fun c => decide (c ≠ n))
  | 0 => rfl
  | i + 1 => by
    have ih := drp_list f n i
    have hl := drp_le f n i
    rw [List.range_succ, List.map_append, List.filter_append, ← ih]
    by_cases h : f i ≠ n
    · have e : drp f n (i + 1) = (fun x => if x = (drp f n i).2 then f i else (drp f n i).1 x, (drp f n i).2 + 1) := if_pos h
      rw [e]
      show (List.range ((drp f n i).2 + 1)).map _ = _
      rw [List.range_succ, List.map_append]
      congr 1
      · apply List.map_congr_left
        intro x hx
        have := List.mem_range.mp hx
        dsimp only
        rw [if_neg (by omega)]
      · simp [h]
    · have e : drp f n (i + 1) = drp f n i := if_neg h
      have h2 : f i = n := Classical.byContradiction h
      rw [e]
      simp [h2]
theorem lsO_drO (σ : SG) (w n : Nat) : lsO (drO σ w n) w = (lsO σ w).filter (fun c => decide (c ≠ n)) := by
  unfold lsO
  have e1 : drO σ w n 12 w 0 0 = (drp (σ 13 w 0) n (σ 12 w 0 0)).2 := up_same _ _ _ _ _ _
  have e2 : drO σ w n 13 w 0 = (drp (σ 13 w 0) n (σ 12 w 0 0)).1 := by
    funext x
    unfold drO
    rw [up_k (by decide), upr_same]
  rw [e1, e2]
  exact drp_list _ _ _
theorem lsO_other {σ : SG} {w w' n : Nat} (h : w' ≠ w) : lsO (drO σ w n) w' = lsO σ w' := by
  unfold lsO
  have e1 : drO σ w n 12 w' 0 0 = σ 12 w' 0 0 := by
    unfold drO
    rw [up_i h, upr_k (by decide)]
  have e2 : drO σ w n 13 w' 0 = σ 13 w' 0 := by
    funext x
    unfold drO
    rw [up_k (by decide), upr_i h]
  rw [e1, e2]
theorem lsO_apO {σ : SG} {w n : Nat} : lsO (apO σ w n) w = lsO σ w ++ [n] := by
  unfold lsO
  have e1 : apO σ w n 12 w 0 0 = σ 12 w 0 0 + 1 := up_same _ _ _ _ _ _
  have e2 : ∀ x, apO σ w n 13 w 0 x = if x = σ 12 w 0 0 then n else σ 13 w 0 x := fun x => by
    unfold apO
    rw [up_k (by decide)]
    by_cases h : x = σ 12 w 0 0
    · rw [if_pos h, h, up_same]
    · rw [if_neg h, up_x h]
  rw [e1, List.range_succ, List.map_append]
  congr 1
  · apply List.map_congr_left
    intro x hx
    have := List.mem_range.mp hx
    rw [e2, if_neg (by omega)]
  · show [apO σ w n 13 w 0 (σ 12 w 0 0)] = [n]
    rw [e2, if_pos rfl]
