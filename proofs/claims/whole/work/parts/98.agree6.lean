def AGP (cd : String → Nat) (f : OC) (g : OM) (P : SG → SG → Prop) : Prop := (∀ E, f = .inl E → g = .inl (cd E)) ∧ ∀ r s', f = .inr (r, s') → ∃ τ', g = .inr (r, τ') ∧ P s' τ'
section AGPS
variable {cd : String → Nat} {P : SG → SG → Prop}
theorem AGP.err {E : String} {k : Nat} (h : cd E = k) : AGP cd (.inl E) (.inl k) P := ⟨fun E' q => (by cases q; rw [h]), fun _ _ q => (by cases q)⟩
theorem AGP.ret {s' τ' : SG} {r r' : Nat} (hr : r' = r) (h : P s' τ') : AGP cd (.inr (r, s')) (.inr (r', τ')) P := ⟨fun _ q => (by cases q), fun _ _ q => (by cases q; exact ⟨τ', by rw [hr], h⟩)⟩
theorem AGP.ite {c c' : Prop} [Decidable c] [Decidable c'] {f1 f2 : OC} {g1 g2 : OM} (h : c ↔ c') (h1 : c → AGP cd f1 g1 P) (h2 : ¬ c → AGP cd f2 g2 P) : AGP cd (if c then f1 else f2) (if c' then g1 else g2) P := by
  by_cases q : c
  · rw [if_pos q, if_pos (h.mp q)]
    exact h1 q
  · rw [if_neg q, if_neg (fun z => q (h.mpr z))]
    exact h2 q
theorem AGP.guard {x : Int32} {N N' k : Nat} {E : String} {f : Nat → OC} {g : Nat → OM} (hN : N' = N) (hE : cd E = k) (h : ∀ n, n < N → AGP cd (f n) (g n) P) : AGP cd (gR x N E f) (gM x N' k g) P := by
  subst hN
  unfold gR gM
  cases e : inR x N' with
  | none => exact AGP.err hE
  | some n => exact h n (inR_some e).2
theorem AGP.span {x y : Int32} {k : Nat} {E : String} {f : Nat → Nat → OC} {g : Nat → Nat → OM} (hE : cd E = k) (h : ∀ a b, a < 16 → b < 4 → AGP cd (f a b) (g a b) P) : AGP cd (gR x 16 E fun a => gR y 4 E fun b => f a b) (gS x y k g) P := by
  unfold gR gS
  cases e : inR x 16 with
  | none => exact AGP.err hE
  | some a =>
    dsimp only
    cases e2 : inR y 4 with
    | none => exact AGP.err hE
    | some b => exact h a b (inR_some e).2 (inR_some e2).2
end AGPS
section WRITES6
variable {s τ : SG} {A : AS}
theorem ag_along (h : RR s τ A) (c : Int32) : AG cd_along s τ A (k_along s c) (k6_along s A τ c) := by
  have hn17 := h.n17
  obtain ⟨hBs, hBt, hC, hA, hQ, hS, hM, hX, hD⟩ := id h
  refine AG.unl h cd_along_1 cd_along_2 (fun c hc hst => AG.same ?_ h)
  have hml : (List.range (s 12 1 0 0)).map (s 13 1 0) = aM A := hC.2.2.2.2.1
  have hgt : ∀ y, (gal s c (s 12 1 0 0)).1.testBit y = decide (y ∈ gnl s c (aM A)) := fun y => by
    have := (gal_gnl s c (s 12 1 0 0)).1 y
    rw [hml] at this
    exact this
  have hgL := gnl_ok s c hA.2.1
  unfold ipop
  rw [cnt_ext 32 (fun x _ => hgt x)]
  exact (cnt_mem 32 hgL.1 (fun x hx => by
    have := (hA.2.2.2 x (hgL.2 x hx)).1
    omega)).symm
/-- what a change of the tests leaves of both -/
def TFr (s s' τ τ' : SG) : Prop := (∃ u, s' = fgt u 4 ∧ ∀ k i j x, 16 ≤ k → k ≠ 18 → ¬ (k = 16 ∧ x = 0) → u k i j x = s k i j x) ∧ FT τ τ'
theorem ag_addTest (h : RR s τ A) (f t f2 t2 v : Int32) : AGP cd_addTest (k_addTest s f t f2 t2 v) (k6_addTest τ f t f2 t2 v) (fun s' τ' => RR s' τ' A ∧ TFr s s' τ τ') := by
  obtain ⟨hBs, hBt, hC, hA, hQ, hS, hM, hX, hD⟩ := id h
  have hn13 : s 16 0 0 0 < 13 := hBs 16 0 0 0 rfl
  refine AGP.span cd_addTest_1 (fun f t hf ht => AGP.span cd_addTest_1 (fun f2 t2 hf2 ht2 => AGP.guard rfl cd_addTest_2 (fun v hv => AGP.ite (by rw [hS.2.2.1]; omega) (fun _ => AGP.err cd_addTest_3) (fun hn => ?_))))
  have hn : s 16 0 0 0 < 12 := by omega
  have ha : f * 4 + t < 64 := by omega
  have hb : f2 * 4 + t2 < 64 := by omega
  rw [Nat.mul_comm 4 f, Nat.mul_comm 4 f2]
  generalize f * 4 + t = a at *
  generalize f2 * 4 + t2 = b at *
  have e1 : τ 31 0 0 a = s 15 0 0 a := (hM.2.2.2.2.2 a ha).trans (hC.2.2.2.2.2 a ha).symm
  have e2 : τ 31 0 0 b = s 15 0 0 b := (hM.2.2.2.2.2 b hb).trans (hC.2.2.2.2.2 b hb).symm
  rw [e1, e2]
  refine AGP.ite Iff.rfl (fun _ => AGP.err cd_addTest_4) (fun hle => ?_)
  obtain ⟨n, hnd⟩ : ∃ n, n = s 16 0 0 0 := ⟨_, rfl⟩
  have htn : τ 30 0 0 1 = n := hS.2.2.1.trans hnd.symm
  have h35 : τ 35 0 0 n = 0 := hX.2.2.2.2.2.2 n (by omega) (by omega)
  have s18 : ∀ x y, tad s a b v 18 x 0 y = if x = n ∧ y = 3 then 1 else if x = n ∧ y = 2 then v else if x = n ∧ y = 1 then b else if x = n ∧ y = 0 then a else s 18 x 0 y := fun x y => by
    unfold tad
    rw [fgt_k (by decide), up_k (by decide), ← hnd]
    show (if _ then _ else (if _ then _ else (if _ then _ else (if _ then _ else _)))) = _
    simp only [true_and]
  have o18 : ∀ x y, x ≠ n → tad s a b v 18 x 0 y = s 18 x 0 y := fun x y e => by
    rw [s18]
    simp only [e, false_and, if_false]
  have k18 : tad s a b v 18 n 0 0 = a ∧ tad s a b v 18 n 0 1 = b ∧ tad s a b v 18 n 0 2 = v ∧ tad s a b v 18 n 0 3 = 1 := by
    rw [s18, s18, s18, s18]
    simp
  have n16 : tad s a b v 16 0 0 0 = n + 1 := by
    unfold tad
    rw [fgt_k (by decide), up_same, hnd]
  have m32 : ∀ x, mats τ a b v 32 0 0 x = if x = n then a else τ 32 0 0 x := fun x => by
    show up τ 32 0 0 (τ 30 0 0 1) a 32 0 0 x = _
    rw [upx, htn]
  have m33 : ∀ x, mats τ a b v 33 0 0 x = if x = n then b else τ 33 0 0 x := fun x => by
    show up (up τ 32 0 0 (τ 30 0 0 1) a) 33 0 0 (τ 30 0 0 1) b 33 0 0 x = _
    rw [upx, htn]
    rfl
  have m34 : ∀ x, mats τ a b v 34 0 0 x = if x = n then v else τ 34 0 0 x := fun x => by
    show up (up (up τ 32 0 0 (τ 30 0 0 1) a) 33 0 0 (τ 30 0 0 1) b) 34 0 0 (τ 30 0 0 1) v 34 0 0 x = _
    rw [upx, htn]
    rfl
  have hlay : layv (tad s a b v) = layv s := by
    funext c w x
    unfold layv tad
    rw [fgt_k (by decide), fgt_k (by decide)]
    rfl
  refine AGP.ret (by rw [htn, hnd]) ⟨⟨tad_BD hBs ha hb hv hn, BD.put (BD.put (BD.put (BD.put hBt ha) hb) hv) (by show τ 30 0 0 1 + 1 < 13; omega), hC, hA, hQ, ⟨hS.1, hS.2.1, ?_, fun x hx => ?_⟩, hM, ⟨hX.1, hX.2.1, hX.2.2.1, hX.2.2.2.1, hX.2.2.2.2.1, hX.2.2.2.2.2.1, fun x h1 h2 => ?_⟩, ?_, fun d hd => ?_⟩, ⟨_, rfl, fun k i j x h1 h2 h3 => ?_⟩, ((((FT.refl τ).up (by omega)).up (by omega)).up (by omega)).up (by omega)⟩
  · rw [n16]
    show up _ 30 0 0 1 (τ 30 0 0 1 + 1) 30 0 0 1 = n + 1
    rw [up_same, htn]
  · rw [n16] at hx
    by_cases e : x = n
    · subst e
      rw [m32, m33, m34, k18.1, k18.2.1, k18.2.2.1, k18.2.2.2, if_pos rfl, if_pos rfl, if_pos rfl]
      exact ⟨rfl, rfl, rfl, ⟨fun _ => by decide, fun _ => h35⟩⟩
    · rw [m32, m33, m34, o18 x 0 e, o18 x 1 e, o18 x 2 e, o18 x 3 e, if_neg e, if_neg e, if_neg e]
      exact hS.2.2.2 x (by omega)
  · rw [n16] at h1
    exact hX.2.2.2.2.2.2 x (by omega) h2
  · rw [hlay]
    exact hD.1
  · have old := (allB_iff _ _ _).mp (hD.2 d hd)
    show allB _ 0 (tad s a b v 16 0 0 0) = true
    rw [n16, allB_iff]
    intro q _ hq
    by_cases e : q = n
    · subst e
      have hp : psv (tad s a b v) (aT A) q = true := by
        unfold psv
        rw [k18.1, k18.2.1, k18.2.2.1]
        refine decide_eq_true ?_
        rw [← hC.2.2.2.2.2 a ha, ← hC.2.2.2.2.2 b hb]
        omega
      rw [hp, Bool.or_true]
    · have := old q (Nat.zero_le _) (by show q < 0 + s 16 0 0 0; omega)
      unfold iso psv at this ⊢
      rw [o18 q 0 e, o18 q 1 e, o18 q 2 e, o18 q 3 e]
      exact this
  · have e18 : ∀ (u : SG) (i' x' w : Nat), up u 18 i' 0 x' w k i j x = u k i j x := fun u i' x' w => up_k h2
    show (if k = 16 ∧ i = 0 ∧ j = 0 ∧ x = 0 then _ else _) = _
    rw [if_neg (fun q => h3 ⟨q.1, q.2.2.2⟩), e18, e18, e18, e18]
theorem ag_dropTest (h : RR s τ A) (t : Int32) : AGP cd_dropTest (k_dropTest s t) (k6_dropTest τ t) (fun s' τ' => RR s' τ' A ∧ TFr s s' τ τ') := by
  obtain ⟨hBs, hBt, hC, hA, hQ, hS, hM, hX, hD⟩ := id h
  refine AGP.guard hS.2.2.1 rfl (fun t ht => AGP.ite ?_ (fun _ => AGP.err rfl) (fun hk => ?_))
  · have := (hS.2.2.2 t ht).2.2.2
    constructor
    · intro q z; exact this.mp z q
    · intro q
      exact Classical.byContradiction (fun z => q (this.mpr z))
  have s18 : ∀ x y, tdp s t 18 x 0 y = if x = t ∧ y = 3 then 0 else s 18 x 0 y := fun x y => by
    unfold tdp
    rw [fgt_k (by decide)]
    by_cases e : x = t ∧ y = 3
    · rw [if_pos e, e.1, e.2, up_same]
    · rw [if_neg e, up_c e]
  have n18 : ∀ x y, y ≠ 3 → tdp s t 18 x 0 y = s 18 x 0 y := fun x y e => (s18 x y).trans (if_neg (fun z => e z.2))
  have hlay : layv (tdp s t) = layv s := by
    funext c w x
    unfold layv tdp
    rw [fgt_k (by decide), fgt_k (by decide)]
    rfl
  have h35 : ∀ x, x < s 16 0 0 0 → (up τ 35 0 0 t 1 35 0 0 x = 0 ↔ tdp s t 18 x 0 3 ≠ 0) := fun x hx => by
    rw [upx, s18]
    by_cases e : x = t
    · rw [if_pos e, if_pos ⟨e, rfl⟩]
      exact ⟨fun q => (by cases q), fun q => absurd rfl q⟩
    · rw [if_neg e, if_neg (fun z => e z.1)]
      exact (hS.2.2.2 x hx).2.2.2
  refine AGP.ret ?_ ⟨⟨tdp_BD hBs, BD.put hBt (by show 1 < 2; decide), hC, hA, hQ, ⟨hS.1, hS.2.1, hS.2.2.1, fun x hx => ?_⟩, hM, ⟨hX.1, hX.2.1, hX.2.2.1, hX.2.2.2.1, hX.2.2.2.2.1, hX.2.2.2.2.2.1, fun x h1 h2 => ?_⟩, ?_, fun d hd => ?_⟩, ⟨_, rfl, fun k i j x h1 h2 h3 => up_k h2⟩, (FT.refl τ).up (by omega)⟩
  · rw [hS.2.2.1]
    exact cnt_ext _ (fun x hx => decide_eq_decide.mpr (h35 x hx))
  · have hx : x < s 16 0 0 0 := hx
    have := hS.2.2.2 x hx
    rw [n18 x 0 (by decide), n18 x 1 (by decide), n18 x 2 (by decide)]
    exact ⟨this.1, this.2.1, this.2.2.1, h35 x hx⟩
  · have h1 : s 16 0 0 0 ≤ x := h1
    rw [upx, if_neg (by omega)]
    exact hX.2.2.2.2.2.2 x h1 h2
  · rw [hlay]
    exact hD.1
  · have old := (allB_iff _ _ _).mp (hD.2 d hd)
    refine (allB_iff _ _ _).mpr (fun q h1 hq => ?_)
    have := old q h1 hq
    unfold iso psv at this ⊢
    rw [n18 q 0 (by decide), n18 q 1 (by decide), n18 q 2 (by decide), s18]
    by_cases e : q = t
    · rw [if_pos ⟨e, rfl⟩]
      rfl
    · rw [if_neg (fun z => e z.1)]
      exact this
end WRITES6
