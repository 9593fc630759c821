theorem M64_bit : ∀ q, q < 64 → M64.testBit q = true := by decide +kernel
theorem clr_bit {m b q : Nat} (hq : q < 64) : (clr m b).testBit q = (m.testBit q && !b.testBit q) := by
  unfold clr
  rw [Nat.testBit_and, Nat.testBit_xor, M64_bit q hq, Bool.xor_true]
theorem p2_bit (p q : Nat) : (1 * 2 ^ p).testBit q = decide (q = p) := by
  rw [Nat.one_mul, Nat.testBit_two_pow]
  exact decide_eq_decide.mpr ⟨fun h => h.symm, fun h => h.symm⟩
theorem or_bit (m p q : Nat) : (m ||| 1 * 2 ^ p).testBit q = (m.testBit q || decide (q = p)) := by rw [Nat.testBit_or, p2_bit]
theorem fold_ne {f g : Nat → (Nat → Nat) → (Nat → Nat)} : ∀ (l : List Nat) (v : Nat → Nat), (∀ c ∈ l, f c = g c) → l.foldl (fun v c => f c v) v = l.foldl (fun v c => g c v) v
  | [], _, _ => rfl
  | c :: l, v, h => by
    rw [List.foldl_cons, List.foldl_cons, h c List.mem_cons_self]
    exact fold_ne l _ (fun x hx => h x (List.mem_cons_of_mem _ hx))
section WRITES3
variable {s τ : SG} {A : AS}
theorem SND.of {s s' : SG} {A A' : AS} (h : SND s A) (hl : ∀ c ∈ aM A, layv s' c = layv s c) (h16 : s' 16 0 0 0 = s 16 0 0 0) (h18 : s' 18 = s 18) (hM : aM A' = aM A) (hT : aT A' = aT A) : SND s' A' := by
  refine ⟨fun x hx => ?_, fun d hd => ?_⟩
  · rw [hM, hT, h.1 x hx]
    exact congrFun (fold_ne (f := layv s) (g := layv s') (aM A) _ (fun c hc => (hl c hc).symm)) x
  · rw [hT, show nT s' = nT s from h16, apv_18 h18]
    exact h.2 d hd
theorem ag_edit (h : RR s τ A) (c f t v : Int32) : AG cd_edit s τ A (k_edit s c f t v) (k6_edit τ c f t v) := by
  have hn17 := h.n17
  obtain ⟨hBs, hBt, hC, hA, hQ, hS, hM, hX, hD⟩ := id h
  refine AG.guard hS.1 cd_edit_1 (fun c hc => AG.span cd_edit_2 (fun f t hf ht => AG.guard rfl cd_edit_3 (fun v hv => AG.ite (by rw [hC.1 c (by omega), hM.1 c hc]) (fun _ => AG.err cd_edit_4) (fun hst => ?_))))
  have hst : aS A c = 111 := by rw [← hC.1 c (by omega)]; exact Classical.not_not.mp hst
  have hp : f * 4 + t < 64 := by omega
  rw [Nat.mul_comm 4 f]
  generalize f * 4 + t = p at *
  have b6 : ∀ x y, pe s c p v 6 x 0 y = if x = c ∧ y = 3 then s 6 c 0 3 ||| 1 * 2 ^ p else s 6 x 0 y := fun x y => by
    show up s 6 c 0 3 _ 6 x 0 y = _
    by_cases e : x = c ∧ y = 3
    · rw [if_pos e, e.1, e.2, up_same]
    · rw [if_neg e, up_c e]
  have b7 : ∀ x y, pe s c p v 7 x 0 y = if x = c ∧ y = p then v else s 7 x 0 y := fun x y => by
    show up (up s 6 c 0 3 _) 7 c 0 p v 7 x 0 y = _
    by_cases e : x = c ∧ y = p
    · rw [if_pos e, e.1, e.2, up_same]
    · rw [if_neg e, up_c e]
      rfl
  have c3 : pe s c p v 6 c 0 3 = s 6 c 0 3 ||| 1 * 2 ^ p := (b6 c 3).trans (if_pos ⟨rfl, rfl⟩)
  have n6 : ∀ x y, x ≠ c → pe s c p v 6 x 0 y = s 6 x 0 y := fun x y e => (b6 x y).trans (if_neg (fun z => e z.1))
  have c7 : ∀ y, pe s c p v 7 c 0 y = if y = p then v else s 7 c 0 y := fun y => by
    rw [b7]
    by_cases e : y = p
    · rw [if_pos e, if_pos ⟨rfl, e⟩]
    · rw [if_neg e, if_neg (fun z => e z.2)]
  have n7 : ∀ x y, x ≠ c → pe s c p v 7 x 0 y = s 7 x 0 y := fun x y e => (b7 x y).trans (if_neg (fun z => e z.1))
  have hS' : SM (pe s c p v) (med τ c p (v + 1)) := by
    refine ⟨hS.1, fun x hx q hq => ?_, hS.2.2.1, hS.2.2.2⟩
    show up τ 41 c 0 p (v + 1) 41 x 0 q = _
    by_cases e : x = c
    · subst e
      rw [upx, c3, c7, or_bit]
      by_cases e2 : q = p
      · rw [if_pos e2, if_pos e2, decide_eq_true e2, Bool.or_true, if_pos rfl]
      · rw [if_neg e2, if_neg e2, decide_eq_false e2, Bool.or_false]
        exact hS.2.1 x hx q hq
    · rw [up_i e, n6 x 3 e, n7 x q e]
      exact hS.2.1 x hx q hq
  refine AG.ret (hS'.Emy hc) ⟨pe_BD hBs hp hv, BD.put hBt (by show v + 1 < 101; omega), ⟨fun x hx => ?_, fun x hx => ?_, fun x hx y hy => ?_, hC.2.2.2⟩, hA, hQ, hS', hM, ⟨hX.1, hX.2.1, fun x hx => ?_, hX.2.2.2.1, hX.2.2.2.2.1, fun x hx hx16 => ?_, hX.2.2.2.2.2.2⟩, hD.of (fun x hx => ?_) rfl rfl rfl rfl⟩ rfl (((FS.refl s).up (by decide)).up (by decide)) ((FT.refl τ).up (by omega)) (Nat.le_succ _)
  · rw [b6, if_neg (by omega)]; exact hC.1 x hx
  · rw [b6, if_neg (by omega)]; exact hC.2.1 x hx
  · rw [b6, if_neg (by omega)]; exact hC.2.2.1 x hx y hy
  · rw [b6, if_neg (by omega)]; exact hX.2.2.1 x hx
  · have hx : s 0 0 0 0 ≤ x := hx
    rw [b6, b6, b6, b6, if_neg (by omega), if_neg (by omega), if_neg (by omega), if_neg (by omega)]
    exact hX.2.2.2.2.2.1 x hx hx16
  · have hne : x ≠ c := fun q => by
      have := (hA.2.2.2 x hx).2
      rw [q, hst] at this
      cases this
    funext w y
    unfold layv
    rw [n6 x 3 hne, n7 x y hne]
theorem ag_take (h : RR s τ A) (c f t : Int32) : AG cd_take s τ A (k_take s c f t) (k6_take τ c f t) := by
  have hn17 := h.n17
  obtain ⟨hBs, hBt, hC, hA, hQ, hS, hM, hX, hD⟩ := id h
  refine AG.guard hS.1 cd_take_1 (fun c hc => AG.span cd_take_2 (fun f t hf ht => AG.ite (by rw [hC.1 c (by omega), hM.1 c hc]) (fun _ => AG.err cd_take_3) (fun hst => ?_)))
  have hst : aS A c = 111 := by rw [← hC.1 c (by omega)]; exact Classical.not_not.mp hst
  have hp : f * 4 + t < 64 := by omega
  rw [Nat.mul_comm 4 f]
  generalize f * 4 + t = p at *
  refine AG.ite ?_ (fun _ => AG.err cd_take_3) (fun hbit => ?_)
  · rw [hS.2.1 c hc p hp]
    cases (s 6 c 0 3).testBit p <;> simp
  have b6 : ∀ x y, tk s c p 6 x 0 y = if x = c ∧ y = 4 then clr (s 6 c 0 4) (1 * 2 ^ p) else if x = c ∧ y = 3 then clr (s 6 c 0 3) (1 * 2 ^ p) else s 6 x 0 y := fun x y => by
    unfold tk
    by_cases e : x = c ∧ y = 4
    · rw [if_pos e, e.1, e.2, up_same]
    · rw [if_neg e, up_c e]
      by_cases e2 : x = c ∧ y = 3
      · rw [if_pos e2, e2.1, e2.2, up_same]
      · rw [if_neg e2, up_c e2]
  have c3 : tk s c p 6 c 0 3 = clr (s 6 c 0 3) (1 * 2 ^ p) := ((b6 c 3).trans (if_neg (by omega))).trans (if_pos ⟨rfl, rfl⟩)
  have n6 : ∀ x y, x ≠ c → tk s c p 6 x 0 y = s 6 x 0 y := fun x y e => ((b6 x y).trans (if_neg (fun z => e z.1))).trans (if_neg (fun z => e z.1))
  have n7 : tk s c p 7 = s 7 := rfl
  have hS' : SM (tk s c p) (mtk τ c p) := by
    refine ⟨hS.1, fun x hx q hq => ?_, hS.2.2.1, hS.2.2.2⟩
    show up τ 41 c 0 p 0 41 x 0 q = _
    rw [n7]
    by_cases e : x = c
    · subst e
      rw [upx, c3, clr_bit hq, p2_bit]
      by_cases e2 : q = p
      · rw [if_pos e2, decide_eq_true e2, Bool.not_true, Bool.and_false, if_neg (by decide)]
      · rw [if_neg e2, decide_eq_false e2, Bool.not_false, Bool.and_true]
        exact hS.2.1 x hx q hq
    · rw [up_i e, n6 x 3 e]
      exact hS.2.1 x hx q hq
  refine AG.ret (A' := (aS A, aF A, fun x y => aC A x y && !(decide (x = c) && decide (y = p)), aQ A, aM A, aT A, aK A)) (hS'.Emy hc) ⟨tk_BD hBs, BD.put (BD.put hBt (by show 0 < 101; decide)) (by show 0 < 2; decide), ⟨fun x hx => ?_, fun x hx => ?_, fun x hx y hy => ?_, hC.2.2.2⟩, hA, hQ, hS', ⟨hM.1, hM.2.1, fun x hx y hy => ?_, hM.2.2.2⟩, ⟨hX.1, hX.2.1, fun x hx => ?_, hX.2.2.2.1, hX.2.2.2.2.1, fun x hx hx16 => ?_, hX.2.2.2.2.2.2⟩, hD.of (fun x hx => ?_) rfl rfl rfl rfl⟩ rfl (((FS.refl s).up (by decide)).up (by decide)) (((FT.refl τ).up (by omega)).up (by omega)) (Nat.le_succ _)
  · rw [b6, if_neg (by omega), if_neg (by omega)]; exact hC.1 x hx
  · rw [b6, if_neg (by omega), if_neg (by omega)]; exact hC.2.1 x hx
  · rw [b6]
    show _ = (aC A x y && !(decide (x = c) && decide (y = p)))
    by_cases e : x = c
    · subst e
      rw [if_pos ⟨rfl, rfl⟩, clr_bit hy, p2_bit, hC.2.2.1 x hx y hy, decide_eq_true rfl, Bool.true_and]
    · rw [if_neg (fun z => e z.1), if_neg (by omega), hC.2.2.1 x hx y hy, decide_eq_false e, Bool.false_and, Bool.not_false, Bool.and_true]
  · show up (up τ 41 c 0 p 0) 43 c 0 p 0 43 x 0 y = b2n (aC A x y && !(decide (x = c) && decide (y = p)))
    by_cases e : x = c ∧ y = p
    · rw [e.1, e.2, up_same, decide_eq_true rfl, decide_eq_true rfl, Bool.and_self, Bool.not_true, Bool.and_false]
      rfl
    · rw [up_c e, show (decide (x = c) && decide (y = p)) = false by simpa using e, Bool.not_false, Bool.and_true]
      exact hM.2.2.1 x hx y hy
  · rw [b6, if_neg (by omega), if_neg (by omega)]; exact hX.2.2.1 x hx
  · have hx : s 0 0 0 0 ≤ x := hx
    have hne : x ≠ c := by omega
    rw [n6 x 1 hne, n6 x 2 hne, n6 x 3 hne, n6 x 4 hne]
    have := hX.2.2.2.2.2.1 x hx hx16
    exact this
  · have hne : x ≠ c := fun q => by
      have := (hA.2.2.2 x hx).2
      rw [q, hst] at this
      cases this
    funext w y
    unfold layv
    rw [n6 x 3 hne, n7]
end WRITES3
