/-! ===== construction: cells whose pictures name no other ===== -/
def lf : Nat → Bool
  | 0 => false
  | 5 => false
  | 6 => false
  | 10 => false
  | 12 => false
  | 16 => false
  | 17 => false
  | 21 => false
  | 30 => false
  | 40 => false
  | 42 => false
  | 44 => false
  | 46 => false
  | 47 => false
  | 59 => false
  | _ => true
set_option maxHeartbeats 4000000 in
theorem enck_lf {cA : Nat → ClassId} {ad ad1 : AD} {i j : Nat} {s : Nat → Nat} : ∀ k, lf k = true → enck cA ad1 k i j s = enck cA ad k i j s
  | 0, h => by cases h
  | 1, _ => rfl
  | 2, _ => rfl
  | 3, _ => rfl
  | 4, _ => rfl
  | 5, h => by cases h
  | 6, h => by cases h
  | 7, _ => rfl
  | 8, _ => rfl
  | 9, _ => rfl
  | 10, h => by cases h
  | 11, _ => rfl
  | 12, h => by cases h
  | 13, _ => rfl
  | 14, _ => rfl
  | 15, _ => rfl
  | 16, h => by cases h
  | 17, h => by cases h
  | 18, _ => rfl
  | 19, _ => rfl
  | 20, _ => rfl
  | 21, h => by cases h
  | 22, _ => rfl
  | 23, _ => rfl
  | 24, _ => rfl
  | 25, _ => rfl
  | 26, _ => rfl
  | 27, _ => rfl
  | 28, _ => rfl
  | 29, _ => rfl
  | 30, h => by cases h
  | 31, _ => rfl
  | 32, _ => rfl
  | 33, _ => rfl
  | 34, _ => rfl
  | 35, _ => rfl
  | 36, _ => rfl
  | 37, _ => rfl
  | 38, _ => rfl
  | 39, _ => rfl
  | 40, h => by cases h
  | 41, _ => rfl
  | 42, h => by cases h
  | 43, _ => rfl
  | 44, h => by cases h
  | 45, _ => rfl
  | 46, h => by cases h
  | 47, h => by cases h
  | 48, _ => rfl
  | 49, _ => rfl
  | 50, _ => rfl
  | 51, _ => rfl
  | 52, _ => rfl
  | 53, _ => rfl
  | 54, _ => rfl
  | 55, _ => rfl
  | 56, _ => rfl
  | 57, _ => rfl
  | 58, _ => rfl
  | 59, h => by cases h
  | 60, _ => rfl
  | 61, _ => rfl
  | 62, _ => rfl
  | 63, _ => rfl
  | 64, _ => rfl
  | 65, _ => rfl
  | 66, _ => rfl
  | 67, _ => rfl
  | 68, _ => rfl
  | 69, _ => rfl
  | 70, _ => rfl
  | 71, _ => rfl
  | 72, _ => rfl
  | 73, _ => rfl
  | 74, _ => rfl
  | 75, _ => rfl
  | 76, _ => rfl
  | 77, _ => rfl
  | 78, _ => rfl
  | 79, _ => rfl
  | 80, _ => rfl
  | 81, _ => rfl
  | 82, _ => rfl
  | 83, _ => rfl
  | 84, _ => rfl
  | 85, _ => rfl
  | 86, _ => rfl
  | 87, _ => rfl
  | 88, _ => rfl
  | 89, _ => rfl
  | 90, _ => rfl
  | 91, _ => rfl
  | 92, _ => rfl
  | 93, _ => rfl
  | 94, _ => rfl
  | 95, _ => rfl
  | 96, _ => rfl
  | 97, _ => rfl
  | 98, _ => rfl
  | k + 99, _ => rfl
def adR (ad : AD) : AD := fun k i j => if k ≤ 22 then ad k i j else 0
set_option maxHeartbeats 4000000 in
theorem enck_cls {cA : Nat → ClassId} {ad : AD} {i j : Nat} {s : Nat → Nat} : ∀ k, k ≤ 22 → enck cA ad k i j s = enck cA (adR ad) k i j s
  | 0, _ => rfl
  | 1, _ => rfl
  | 2, _ => rfl
  | 3, _ => rfl
  | 4, _ => rfl
  | 5, _ => rfl
  | 6, _ => rfl
  | 7, _ => rfl
  | 8, _ => rfl
  | 9, _ => rfl
  | 10, _ => rfl
  | 11, _ => rfl
  | 12, _ => rfl
  | 13, _ => rfl
  | 14, _ => rfl
  | 15, _ => rfl
  | 16, _ => rfl
  | 17, _ => rfl
  | 18, _ => rfl
  | 19, _ => rfl
  | 20, _ => rfl
  | 21, _ => rfl
  | 22, _ => rfl
  | k + 23, h => absurd h (by omega)
def IN (k0 k : Nat) : Prop := lf k = true ∨ (k ≤ 22 ∧ 23 ≤ k0)
theorem IN.eq {cA : Nat → ClassId} {ad ad1 : AD} {k0 k i j : Nat} {s : Nat → Nat} (h : IN k0 k) (ha : 23 ≤ k0 → ∀ k' i' j', k' ≤ 22 → ad1 k' i' j' = ad k' i' j') : enck cA ad1 k i j s = enck cA ad k i j s := by
  rcases h with h | ⟨h1, h2⟩
  · exact enck_lf k h
  · have e : adR ad1 = adR ad := by
      funext k' i' j'
      unfold adR
      by_cases c : k' ≤ 22
      · rw [if_pos c, if_pos c]; exact ha h2 _ _ _ c
      · rw [if_neg c, if_neg c]
    rw [enck_cls k h1, enck_cls (ad := ad) k h1, e]
theorem IN.e {cA : Nat → ClassId} {ad : AD} {k0 i0 j0 a k i j : Nat} {s : Nat → Nat} (h : IN k0 k) : enck cA (adA ad k0 i0 j0 a) k i j s = enck cA ad k i j s := h.eq (fun h2 k' i' j' h' => adA_off ad a (fun e => by omega))
def INo (ok : KF) (k0 : Nat) : Prop := ∀ k i j, ok k i j → IN k0 k
theorem INo.add {ok : KF} {k0 k i j : Nat} (h : INo ok k0) (hl : lf k = true) : INo (okA ok k i j) k0 := fun k' i' j' q => by
  rcases q with q | ⟨rfl, rfl, rfl⟩
  · exact h _ _ _ q
  · exact .inl hl
/-- more cells at the heap's end -/
theorem Rep.grow {G : GT} {ok ok1 : KF} {ad ad1 : AD} {σ σ1 : SG} {H H1 : Heap} (h : Rep G ok ad σ H) (hB : G.2.1 ≤ H.size) (oq : ∀ q, q < H.size → H1[q]? = H[q]?)
    (hk : ∀ k i j, ok1 k i j → (ok k i j ∧ ad1 k i j = ad k i j ∧ enck G.2.2.1 ad1 k i j (σ1 k i j) = enck G.2.2.1 ad k i j (σ k i j)) ∨ (H.size ≤ ad1 k i j ∧ va_at G.1 CL (ad1 k i j, enck G.2.2.1 ad1 k i j (σ1 k i j)) H1))
    (hi : ∀ k i j k' i' j', ok1 k i j → ok1 k' i' j' → H.size ≤ ad1 k i j → ad1 k i j = ad1 k' i' j' → k = k' ∧ i = i' ∧ j = j') : Rep G ok1 ad1 σ1 H1 := by
  refine ⟨fun k i j q => ?_, fun k i j k' i' j' q q' e => ?_⟩
  · rcases hk k i j q with ⟨h1, h2, h3⟩ | ⟨h1, h2⟩
    · obtain ⟨g1, g2⟩ := h.1 k i j h1
      rw [h2, h3]
      exact ⟨g1.kept (oq _ g1.lt), g2⟩
    · exact ⟨h2, Nat.le_trans hB h1⟩
  · by_cases c : H.size ≤ ad1 k i j
    · exact hi k i j k' i' j' q q' c e
    · rcases hk k i j q with ⟨h1, h2, h3⟩ | ⟨h1, h2⟩
      · rcases hk k' i' j' q' with ⟨g1, g2, g3⟩ | ⟨g1, g2⟩
        · exact h.2 _ _ _ _ _ _ h1 g1 (by rw [← h2, ← g2]; exact e)
        · rw [← e] at g1
          exact absurd g1 c
      · exact absurd h1 c
/-- the same cells under other keys, told alike -/
theorem v_rekey2 {X : XT} {G : GT} {kc ks : Nat} {ok ok' : KF} {ad ad' : AD} {σ σ' : SG} {l : List (Nat × Value)} {pc : Nat} {st : List Value} (f : Nat → Nat → Nat → Nat × Nat × Nat)
    (hf : ∀ k i j, ok' k i j → ok (f k i j).1 (f k i j).2.1 (f k i j).2.2 ∧ ad' k i j = ad (f k i j).1 (f k i j).2.1 (f k i j).2.2 ∧ ∀ H, va_at G.1 CL (ad (f k i j).1 (f k i j).2.1 (f k i j).2.2, enck G.2.2.1 ad (f k i j).1 (f k i j).2.1 (f k i j).2.2 (σ (f k i j).1 (f k i j).2.1 (f k i j).2.2)) H → va_at G.1 CL (ad (f k i j).1 (f k i j).2.1 (f k i j).2.2, enck G.2.2.1 ad' k i j (σ' k i j)) H)
    (hi : ∀ k i j k' i' j', ok' k i j → ok' k' i' j' → f k i j = f k' i' j' → k = k' ∧ i = i' ∧ j = j') (kk : V X G kc ks ok' ad' σ' l pc st) : V X G kc ks ok ad σ l pc st := fun H locs ls hR hS hls => kk H locs ls ⟨fun k i j q => by
      obtain ⟨h1, h2, h3⟩ := hf k i j q
      obtain ⟨g1, g2⟩ := hR.1 _ _ _ h1
      rw [h2]
      exact ⟨h3 H g1, g2⟩, fun k i j k' i' j' q q' e => hi k i j k' i' j' q q' (by
      obtain ⟨h1, h2, -⟩ := hf k i j q
      obtain ⟨h1', h2', -⟩ := hf k' i' j' q'
      rw [h2, h2'] at e
      obtain ⟨e1, e2, e3⟩ := hR.2 _ _ _ _ _ _ h1 h1' e
      exact Prod.ext e1 (Prod.ext e2 e3))⟩ hS hls
theorem at_arr {G : GT} {q N : Nat} {c : ClassId} {f f' : Nat → Option Nat} {H : Heap} (hf : ∀ x, x < N → f x = f' x) (h : va_at G.1 CL (q, eQ c N f) H) : va_at G.1 CL (q, eQ c N f') H := by
  have e : vp_cell c (N, .inr (.inr (.inr (.inr f)))) = vp_cell c (N, .inr (.inr (.inr (.inr f')))) := by
    show arrV c N (fun j => va_rf (f j)) = arrV c N (fun j => va_rf (f' j))
    exact arrV_congr (fun j hj => by rw [hf j hj])
  show H[q]? = some (vp_cell c (N, .inr (.inr (.inr (.inr f')))))
  rw [← e]
  exact h
def rw82 (N t : Nat) : Nat → Nat := fun x => if x = 9000 then N else if x = 9001 then t else 0
theorem rw82_lo {N t x : Nat} (h : x < 1000) : rw82 N t x = 0 := by
  unfold rw82
  rw [if_neg (by omega), if_neg (by omega)]
section NEWC
variable {X : XT} {G : GT} {own : String} {cc : ByteArray} {nL n mc ms : Nat} {kc ks : Nat} {ok : KF} {ad : AD} {σ σ1 : SG} {l : List (Nat × Value)} {pc : Nat} {st : List Value}
/-- a new array of numbers, all 0 -/
theorem n_a {atype : ArrayType} {ty : FieldType} {N : Nat} {a0 : vp_A} (t0 k0 i0 j0 : Nat) (hC : Cx X G own cc nL n mc ms) (d : decode cc pc = .ok (.newarray atype, 2)) (hty : newarray.typeOf atype = ty) (hw : Cond.arrayClass ty ∈ lw_good) (ht : (TYS G.2.2.1)[t0]? = some (G.2.2.1 t0, ty)) (hra : va_RA (xs X) (G.2.2.1 t0) ty = ((xs X).vm.findClass ("[" ++ ty.toString) = some (G.2.2.1 t0))) (hN : N < 2 ^ 31) (hb : N * componentBytes ty ≤ 536870912)
    (h1 : kc + 1 ≤ mc) (h2 : ks + N ≤ ms) (hn : ¬ ok k0 i0 j0) (hin : INo ok k0) (hl : lf k0 = true) (he : enck G.2.2.1 ad k0 i0 j0 (σ k0 i0 j0) = .inl (G.2.2.1 t0, a0)) (hz : vp_cell (G.2.2.1 t0) a0 = arrV (G.2.2.1 t0) N (fun _ => defaultValue ty))
    (kk : ∀ a, V X G (kc + 1) (ks + N) (okA ok k0 i0 j0) (adA ad k0 i0 j0 a) σ l (pc + 2) (.ref a :: st)) : V X G kc ks ok ad σ l pc (iv N :: st) :=
  v_newa (σ1 := σ) t0 k0 i0 j0 hC d hty hw ht hra hN hb h1 h2 hn (fun a k' i' j' q s => (hin k' i' j' q).e) (fun _ _ _ _ => rfl) (fun a => (enck_lf k0 hl).trans he) hz kk
/-- a new array of things, all null -/
theorem n_q {C : String} {N ix : Nat} (t o : Nat) (hC : Cx X G own cc nL n mc ms) (d : decode cc pc = .ok (.anewarray ix, 3)) (hcl : Cond.classLink own ix C ∈ lw_good) (hov : FieldType.object C ∈ aos) (ht : (TYS G.2.2.1)[t]? = some (G.2.2.1 t, .object C)) (hN : N < 1000) (h1 : kc + 1 ≤ mc) (h2 : ks + N ≤ ms) (hn : ¬ ok 82 o 0)
    (kk : ∀ a, V X G (kc + 1) (ks + N) (okA ok 82 o 0) (adA ad 82 o 0 a) (upr σ 82 o 0 (rw82 N t)) l (pc + 3) (.ref a :: st)) : V X G kc ks ok ad σ l pc (iv N :: st) :=
  v_anew (C := C) (a0 := (N, .inr (.inr (.inr (.inr fun x => rf (rw82 N t x)))))) (σ1 := upr σ 82 o 0 (rw82 N t)) t 82 o 0 hC d hcl hov ht (by omega) (by omega) h1 h2 hn (dyn_ok (cA := G.2.2.1 0) (.inr (.inr (.inr (by decide))))) (fun _ _ _ h => upr_off _ _ h) (fun a => by rw [upr_row]; rfl)
    (show arrV (G.2.2.1 t) N (fun x => va_rf (rf (rw82 N t x))) = arrV (G.2.2.1 t) N (fun _ => .null) from arrV_congr (fun j hj => by rw [rw82_lo (by omega)]; rfl)) kk
theorem n_q19 {ix : Nat} (hC : Cx X G own cc nL n mc ms) (d : decode cc pc = .ok (.anewarray ix, 3)) (hcl : Cond.classLink own ix "Branchyard$Cell" ∈ lw_good) (hov : FieldType.object "Branchyard$Cell" ∈ aos) (h1 : kc + 1 ≤ mc) (h2 : ks + 4 ≤ ms) (hn : ¬ ok 19 0 0) (hin : INo ok 19) (hz : σ 19 0 0 = fun _ => 0)
    (kk : ∀ a, V X G (kc + 1) (ks + 4) (okA ok 19 0 0) (adA ad 19 0 0 a) σ l (pc + 3) (.ref a :: st)) : V X G kc ks ok ad σ l pc (iv 4 :: st) :=
  v_anew (C := "Branchyard$Cell") (a0 := (4, .inr (.inr (.inr (.inr fun _ => none))))) (σ1 := σ) 7 19 0 0 hC d hcl hov rfl (by decide) (by decide) h1 h2 hn (fun a k' i' j' q s => (hin k' i' j' q).e) (fun _ _ _ _ => rfl) (fun a => by rw [hz]; rfl) rfl kk
/-- a thing put into an array of things -/
theorem s_q {E : String} {N o x t k i j ci : Nat} {fs : List Value} {r : vw_C} (ht : (TYS G.2.2.1)[t]? = some (G.2.2.1 t, .object E)) (hC : Cx X G own cc nL n mc ms) (d : decode cc pc = .ok (.aastore, 1)) (hq : ok 82 o 0) (h0 : σ 82 o 0 9000 = N) (h1 : σ 82 o 0 9001 = t) (hx : x < N) (hN : N < 1000) (hc : CL[ci]? = some r) (hE : r.1 = E) (hk : ok k i j) (he : enck G.2.2.1 ad k i j (σ k i j) = .inr (ci, fs))
    (kk : V X G kc ks ok ad (up σ 82 o 0 x (ad k i j + 1)) l (pc + 1) st) : V X G kc ks ok ad σ l pc (.ref (ad k i j) :: iv x :: .ref (ad 82 o 0) :: st) := by
  subst hE
  refine v_aast (k := 82) (i := o) (j := 0) (c := G.2.2.1 t) (N := N) (f := fun x => rf (σ 82 o 0 x)) (f1 := fun y => rf (if y = x then ad k i j + 1 else σ 82 o 0 y)) t ht hC d hq ?_ hx (by omega) (any_own hC hc hk he rfl) up_ne ?_ (fun a => ?_) kk
  · show eQ (G.2.2.1 (σ 82 o 0 9001)) (σ 82 o 0 9000) (fun x => rf (σ 82 o 0 x)) = _
    rw [h0, h1]
  · rw [up_row]
    show eQ (G.2.2.1 (if 9001 = x then _ else σ 82 o 0 9001)) (if 9000 = x then _ else σ 82 o 0 9000) _ = _
    rw [if_neg (by omega), if_neg (by omega), h0, h1]
  · by_cases h : a = x
    · rw [if_pos h, if_pos h]; rfl
    · rw [if_neg h, if_neg h]
/-- a number put into an array of numbers -/
theorem s_i {K x v N : Nat} (hC : Cx X G own cc nL n mc ms) (d : decode cc pc = .ok (.iastore, 1)) (hk : ok K 0 0) (he : ∀ s, enck G.2.2.1 ad K 0 0 s = eI (G.2.2.1 0) N s) (hx : x < N) (hN : N < 2 ^ 31)
    (kk : V X G kc ks ok ad (up σ K 0 0 x v) l (pc + 1) st) : V X G kc ks ok ad σ l pc (iv v :: iv x :: .ref (ad K 0 0) :: st) :=
  v_iast (f := fun y => nI (σ K 0 0 y)) (f1 := fun y => nI (if y = x then v else σ K 0 0 y)) hC d hk (he _) hx hN up_ne (by rw [up_row]; exact he _) (fun a => by by_cases h : a = x <;> simp [h]) kk
theorem outer_arr (c : ClassId) (N h0 : Nat) : Jvm.Free.Multi.outerC c N h0 N = arrV c N (fun j => .ref (h0 + 1 + j)) := by
  obtain ⟨o1, o2, o3⟩ := Jvm.Free.Multi.outerC_facts c N h0 N
  obtain ⟨p1, p2⟩ := Jvm.Free.Multi.outerC_plain c N h0 N
  have e : (Jvm.Free.Multi.outerC c N h0 N).slots = (arrV c N (fun j => .ref (h0 + 1 + j))).slots := by
    apply Array.ext_getElem?
    intro j
    by_cases hj : j < N
    · rw [Jvm.Free.Multi.outerC_slot c N h0 N j hj, if_pos hj, arrV_read _ _ hj]
    · rw [Array.getElem?_eq_none (by omega), Array.getElem?_eq_none (by rw [arrV_size]; omega)]
  generalize Jvm.Free.Multi.outerC c N h0 N = z at o1 o2 p1 p2 e
  cases z
  dsimp only at o1 o2 p1 p2 e
  subst o1 o2 p1 p2 e
  rfl
theorem cell3_plain (c : ClassId) (h0 : Nat) : ∀ i, (cell3 c h0 i).monitor = {} ∧ (cell3 c h0 i).hash = none
  | 0 => ⟨rfl, rfl⟩
  | i + 1 => by
    obtain ⟨a, b⟩ := cell3_plain c h0 i
    exact ⟨by simp [cell3, Cell.setSlot, a], by simp [cell3, Cell.setSlot, b]⟩
theorem cell3_arr (c : ClassId) (h0 : Nat) : cell3 c h0 16 = arrV c 16 (fun j => .ref (h0 + 1 + j * 7)) := by
  obtain ⟨o1, o2, o3⟩ := cell3_facts c h0 16
  obtain ⟨p1, p2⟩ := cell3_plain c h0 16
  have e : (cell3 c h0 16).slots = (arrV c 16 (fun j => .ref (h0 + 1 + j * 7))).slots := by
    apply Array.ext_getElem?
    intro j
    by_cases hj : j < 16
    · rw [cell3_slot c h0 16 j hj, if_pos hj, arrV_read _ _ hj]
    · rw [Array.getElem?_eq_none (by omega), Array.getElem?_eq_none (by rw [arrV_size]; omega)]
  generalize cell3 c h0 16 = z at o1 o2 p1 p2 e
  cases z
  dsimp only at o1 o2 p1 p2 e
  subst o1 o2 p1 p2 e
  rfl
/-- int[N][M] and its kin -/
theorem v_mna2 {ty : FieldType} {N M ix ki : Nat} {a b : Nat → Nat} {inv : Nat → Nat → Nat} {ai : vp_A} (to ti o : Nat) (hC : Cx X G own cc nL n mc ms) (d : decode cc pc = .ok (.multianewarray ix 2, 4)) (hcl : Cond.classLink own ix ("[" ++ (FieldType.array ty).toString) ∈ lw_good) (hov : FieldType.array ty ∈ aos) (har : Cond.arrayClass ty ∈ lw_good)
    (ht : (TYS G.2.2.1)[to]? = some (G.2.2.1 to, .array ty)) (ht2 : (TYS G.2.2.1)[ti]? = some (G.2.2.1 ti, ty)) (hra : va_RA (xs X) (G.2.2.1 ti) ty = ((xs X).vm.findClass ("[" ++ ty.toString) = some (G.2.2.1 ti)))
    (hN : N < 1000) (hM : M < 1000) (hcb : componentBytes ty ≤ 8) (hdf : fits ty (defaultValue ty) = true) (hdd : (defaultValue ty).isDefault = true) (h1 : kc + (1 + N) ≤ mc) (h2 : ks + (N + N * M) ≤ ms)
    (hki : ki ≠ 82) (hlk : lf ki = true) (hin : INo ok ki) (hn : ¬ ok 82 o 0) (hn2 : ∀ x, x < N → ¬ ok ki (a x) (b x)) (hinv : ∀ x, x < N → inv (a x) (b x) = x)
    (he : ∀ x, x < N → enck G.2.2.1 ad ki (a x) (b x) (σ ki (a x) (b x)) = .inl (G.2.2.1 ti, ai)) (hz : vp_cell (G.2.2.1 ti) ai = arrV (G.2.2.1 ti) M (fun _ => defaultValue ty))
    (kk : ∀ (ok1 : KF) (ad1 : AD) (σ1 : SG), (∀ k i j, ok1 k i j ↔ ok k i j ∨ (k = 82 ∧ i = o ∧ j = 0) ∨ (∃ x, x < N ∧ k = ki ∧ i = a x ∧ j = b x)) → (∀ k i j, ok k i j → ad1 k i j = ad k i j) → (∀ k i j, ¬ (k = 82 ∧ i = o ∧ j = 0) → σ1 k i j = σ k i j) → σ1 82 o 0 9000 = N → σ1 82 o 0 9001 = to → (∀ x, x < N → σ1 82 o 0 x = ad1 ki (a x) (b x) + 1) →
      V X G (kc + (1 + N)) (ks + (N + N * M)) ok1 ad1 σ1 l (pc + 4) (.ref (ad1 82 o 0) :: st)) : V X G kc ks ok ad σ l pc (iv M :: iv N :: st) := fun H locs ls hR hS hls => by
  intro T hT Xs
  have cN : (nI N).toNatClampNeg = N := nI_clamp (by omega)
  have cM : (nI M).toNatClampNeg = M := nI_clamp (by omega)
  have hMb : M * componentBytes ty ≤ 536870912 := Nat.le_trans (Nat.mul_le_mul (Nat.le_of_lt hM) hcb) (by decide)
  obtain ⟨k1, k2⟩ := hC.hf (mc1 := 1 + N) (ms1 := N + N * M) h1 h2
  obtain ⟨vm₁, cA, comp, hW, hfA, hfC, -, -, X1, step⟩ := Xs.multianewarray2F hC.x hC.ow (hC.ts _ hcl) (hC.ao hov).use (hC.ts _ har) (g := F0 (xm X) pc ls (iv M :: iv N :: st)) rfl (by rw [hC.b]; exact d) (n := nI N) (k := nI M) (rest := st) rfl (nI_pos (by omega)) (nI_pos (by omega)) (by rw [cN]; omega) (by rw [cM]; exact hMb) (by rw [cM]; omega) hdf hdd (by rw [cN]; exact k1) (by rw [cN, cM]; exact k2)
  have ecA : cA = G.2.2.1 to := Option.some.inj (hfA.symm.trans (hC.K.2 to _ ht).2)
  have ecC : comp = G.2.2.1 ti := by
    have h3 := (hC.K.2 ti _ ht2).2
    rw [hra] at h3
    exact Option.some.inj (hfC.symm.trans h3)
  subst ecA ecC
  rw [cN, cM] at X1 step
  obtain ⟨f1, f2, f3, f4⟩ := Jvm.Free.Multi.fill_facts (T.setVm vm₁) (G.2.2.1 to) (G.2.2.1 ti) N M (defaultValue ty) N
  have hsz : (T.setVm vm₁).heap.size = H.size := by rw [← hT]; rfl
  have oq : ∀ q : Nat, q < H.size → (Jvm.Free.Multi.fill (T.setVm vm₁) (G.2.2.1 to) (G.2.2.1 ti) N M (defaultValue ty) N).heap[q]? = H[q]? := fun q hq => by
    rw [Jvm.Free.Multi.fill_old _ _ _ _ _ _ (by rw [hsz]; exact hq), ← hT]; rfl
  have hin' := fun j (hj : j < N) => Jvm.Free.Multi.fill_inner (T.setVm vm₁) (G.2.2.1 to) (G.2.2.1 ti) N M (defaultValue ty) N j hj
  rw [outer_arr] at f2
  rw [hsz] at f1 f2
  obtain ⟨H1, hH1⟩ : ∃ H1, H1 = (Jvm.Free.Multi.fill (T.setVm vm₁) (G.2.2.1 to) (G.2.2.1 ti) N M (defaultValue ty) N).heap := ⟨_, rfl⟩
  rw [← hH1] at f1 f2 oq
  have hin2 : ∀ j, j < N → H1[H.size + 1 + j]? = some (arrV (G.2.2.1 ti) M (fun _ => defaultValue ty)) := fun j hj => by
    have h := hin' j hj
    rw [hsz, ← hH1] at h
    rw [h, ← arrV_new]
    rfl
  obtain ⟨ad1, had1⟩ : ∃ ad1 : AD, ad1 = fun k i j => if k = 82 ∧ i = o ∧ j = 0 then H.size else if k = ki ∧ inv i j < N ∧ a (inv i j) = i ∧ b (inv i j) = j then H.size + 1 + inv i j else ad k i j := ⟨_, rfl⟩
  have a82 : ad1 82 o 0 = H.size := by rw [had1]; exact if_pos ⟨rfl, rfl, rfl⟩
  have aki : ∀ x, x < N → ad1 ki (a x) (b x) = H.size + 1 + x := fun x hx => by
    rw [had1]
    show (if ki = 82 ∧ _ then _ else if ki = ki ∧ _ then _ else _) = _
    rw [if_neg (fun q => hki q.1), if_pos ⟨rfl, by rw [hinv x hx]; exact hx, by rw [hinv x hx], by rw [hinv x hx]⟩, hinv x hx]
  have aold : ∀ k i j, ok k i j → ad1 k i j = ad k i j := fun k i j q => by
    rw [had1]
    show (if _ then _ else if _ then _ else _) = _
    rw [if_neg (fun e => hn (by obtain ⟨rfl, rfl, rfl⟩ := e; exact q)), if_neg (fun e => hn2 _ e.2.1 (by rw [e.2.2.1, e.2.2.2, ← e.1]; exact q))]
  have acls : 23 ≤ ki → ∀ k' i' j', k' ≤ 22 → ad1 k' i' j' = ad k' i' j' := fun h k' i' j' h' => by
    rw [had1]
    show (if _ then _ else if _ then _ else _) = _
    rw [if_neg (fun e => by omega), if_neg (fun e => by omega)]
  obtain ⟨σ1, hσ1⟩ : ∃ σ1 : SG, σ1 = upr σ 82 o 0 (fun x => if x = 9000 then N else if x = 9001 then to else H.size + 1 + x + 1) := ⟨_, rfl⟩
  have s82 : σ1 82 o 0 = fun x => if x = 9000 then N else if x = 9001 then to else H.size + 1 + x + 1 := by rw [hσ1]; exact upr_row _ _ _ _ _
  have soff : ∀ k i j, ¬ (k = 82 ∧ i = o ∧ j = 0) → σ1 k i j = σ k i j := fun k i j h => by rw [hσ1]; exact upr_off _ _ h
  have s82x : ∀ x, x < N → σ1 82 o 0 x = H.size + 1 + x + 1 := fun x hx => by
    rw [s82]
    show (if x = 9000 then _ else if x = 9001 then _ else _) = _
    rw [if_neg (by omega), if_neg (by omega)]
  have hRep : Rep G (fun k i j => ok k i j ∨ (k = 82 ∧ i = o ∧ j = 0) ∨ (∃ x, x < N ∧ k = ki ∧ i = a x ∧ j = b x)) ad1 σ1 H1 := by
    refine hR.grow (hC.hB hS) oq (fun k i j q => ?_) (fun k i j k' i' j' q q' h0 e => ?_)
    · rcases q with q | ⟨rfl, rfl, rfl⟩ | ⟨x, hx, rfl, rfl, rfl⟩
      · refine .inl ⟨q, aold _ _ _ q, ?_⟩
        rw [soff _ _ _ (fun e => hn (by obtain ⟨rfl, rfl, rfl⟩ := e; exact q))]
        exact (hin _ _ _ q).eq acls
      · refine .inr ⟨by rw [a82]; exact Nat.le_refl _, ?_⟩
        show H1[ad1 82 i 0]? = some (vp_cell (G.2.2.1 (σ1 82 i 0 9001)) (σ1 82 i 0 9000, .inr (.inr (.inr (.inr fun x => rf (σ1 82 i 0 x))))))
        rw [a82, f2]
        have e1 : σ1 82 i 0 9001 = to := by rw [s82]; rfl
        have e2 : σ1 82 i 0 9000 = N := by rw [s82]; rfl
        rw [e1, e2]
        show some (arrV (G.2.2.1 to) N _) = some (arrV (G.2.2.1 to) N (fun j => va_rf (rf (σ1 82 i 0 j))))
        congr 1
        exact arrV_congr (fun j hj => by rw [s82x j hj]; rfl)
      · refine .inr ⟨by rw [aki x hx]; omega, ?_⟩
        rw [soff _ _ _ (fun e => hki e.1), enck_lf (ad := ad) k hlk, he x hx]
        show H1[ad1 k (a x) (b x)]? = some (vp_cell _ _)
        rw [aki x hx, hin2 x hx, hz]
    · have no : ∀ k i j, ok k i j → ¬ H.size ≤ ad1 k i j := fun k i j q h => by
        rw [aold _ _ _ q] at h
        exact absurd (hR.lt q) (by omega)
      have h0' : H.size ≤ ad1 k' i' j' := by rw [← e]; exact h0
      rcases q with q | ⟨rfl, rfl, rfl⟩ | ⟨x, hx, rfl, rfl, rfl⟩
      · exact absurd h0 (no _ _ _ q)
      · rcases q' with q' | ⟨rfl, rfl, rfl⟩ | ⟨y, hy, rfl, rfl, rfl⟩
        · exact absurd h0' (no _ _ _ q')
        · exact ⟨rfl, rfl, rfl⟩
        · rw [a82, aki y hy] at e
          omega
      · rcases q' with q' | ⟨rfl, rfl, rfl⟩ | ⟨y, hy, rfl, rfl, rfl⟩
        · exact absurd h0' (no _ _ _ q')
        · rw [a82, aki x hx] at e
          omega
        · rw [aki x hx, aki y hy] at e
          have exy : x = y := by omega
          subst exy
          exact ⟨rfl, rfl, rfl⟩
  obtain ⟨t, b1, b2⟩ := kk _ ad1 σ1 (fun _ _ _ => Iff.rfl) aold soff (by rw [s82]; rfl) (by rw [s82]; rfl) (fun x hx => by rw [s82x x hx, aki x hx]) H1 locs ls hRep (hS.grown (by omega) oq) hls _ hH1.symm (by
    have e1 : kc + (1 + N) = kc + 1 + N := by omega
    have e2 : ks + (N + N * M) = ks + N + N * M := by omega
    rw [e1, e2]
    exact X1)
  refine ⟨t, step t ?_, b2⟩
  rw [a82] at b1
  rw [hT]
  exact b1
/-- int[16][6][64] -/
theorem v_mna3 {ix : Nat} (hC : Cx X G own cc nL n mc ms) (d : decode cc pc = .ok (.multianewarray ix 3, 4)) (hcl : Cond.classLink own ix ("[" ++ (FieldType.array (.array .int)).toString) ∈ lw_good) (hov : FieldType.array (.array .int) ∈ aos) (hov2 : FieldType.array .int ∈ aos) (har : Cond.arrayClass .int ∈ lw_good)
    (h1 : kc + 113 ≤ mc) (h2 : ks + 6256 ≤ ms) (hin : INo ok 48) (hn : ¬ ok 82 4600 0) (hn2 : ∀ x, x < 16 → ¬ ok 82 (4700 + x) 0) (hn3 : ∀ x y, x < 16 → y < 6 → ¬ ok 48 x y) (hz : ∀ x y, x < 16 → y < 6 → σ 48 x y = fun _ => 1)
    (kk : ∀ (ok1 : KF) (ad1 : AD) (σ1 : SG), (∀ k i j, ok1 k i j ↔ ok k i j ∨ (k = 82 ∧ i = 4600 ∧ j = 0) ∨ (∃ x, x < 16 ∧ k = 82 ∧ i = 4700 + x ∧ j = 0) ∨ (k = 48 ∧ i < 16 ∧ j < 6)) → (∀ k i j, ok k i j → ad1 k i j = ad k i j) → (∀ k i j, ¬ (k = 82 ∧ j = 0 ∧ (i = 4600 ∨ (4700 ≤ i ∧ i < 4716))) → σ1 k i j = σ k i j) → σ1 82 4600 0 9000 = 16 → σ1 82 4600 0 9001 = 11 → (∀ x, x < 16 → σ1 82 4600 0 x = ad1 82 (4700 + x) 0 + 1) →
      (∀ x, x < 16 → σ1 82 (4700 + x) 0 9000 = 6 ∧ σ1 82 (4700 + x) 0 9001 = 8 ∧ ∀ y, y < 6 → σ1 82 (4700 + x) 0 y = ad1 48 x y + 1) →
      V X G (kc + 113) (ks + 6256) ok1 ad1 σ1 l (pc + 4) (.ref (ad1 82 4600 0) :: st)) : V X G kc ks ok ad σ l pc (iv 64 :: iv 6 :: iv 16 :: st) := fun H locs ls hR hS hls => by
  intro T hT Xs
  obtain ⟨k1, k2⟩ := hC.hf (mc1 := 113) (ms1 := 6256) h1 h2
  obtain ⟨vm₁, cA, c2, c3, hW, hfA, hfB, hfC, X1, step⟩ := multi3 Xs hC.x hC.ow (hC.ts _ hcl) (hC.ao hov).use (hC.ao hov2).use (hC.ts _ har) (g := F0 (xm X) pc ls (iv 64 :: iv 6 :: iv 16 :: st)) rfl (by rw [hC.b]; exact d) (n := nI 16) (q := nI 6) (k := nI 64) (rest := st) rfl (nI_pos (by omega)) (nI_pos (by omega)) (nI_pos (by omega)) (nI_clamp (by omega)) (nI_clamp (by omega)) (nI_clamp (by omega)) (by decide) rfl rfl k1 k2
  have ecA : cA = G.2.2.1 11 := Option.some.inj (hfA.symm.trans (hC.K.2 11 _ rfl).2)
  have ecB : c2 = G.2.2.1 8 := Option.some.inj (hfB.symm.trans (hC.K.2 8 _ rfl).2)
  have ecC : c3 = G.2.2.1 0 := Option.some.inj (hfC.symm.trans (hC.K.2 0 _ rfl).2)
  subst ecA ecB ecC
  obtain ⟨f1, f2, f3, f4⟩ := fill3_facts (T.setVm vm₁) (G.2.2.1 11) (G.2.2.1 8) (G.2.2.1 0) (defaultValue .int) 16
  have hsz : (T.setVm vm₁).heap.size = H.size := by rw [← hT]; rfl
  have oq : ∀ q : Nat, q < H.size → (fill3 (T.setVm vm₁) (G.2.2.1 11) (G.2.2.1 8) (G.2.2.1 0) (defaultValue .int) 16).heap[q]? = H[q]? := fun q hq => by
    rw [fill3_old _ _ _ _ _ (by rw [hsz]; exact hq), ← hT]; rfl
  have hin' := fun j (hj : j < 16) => fill3_in (T.setVm vm₁) (G.2.2.1 11) (G.2.2.1 8) (G.2.2.1 0) (defaultValue .int) 16 j hj
  rw [cell3_arr] at f2
  rw [hsz] at f1 f2
  obtain ⟨H1, hH1⟩ : ∃ H1, H1 = (fill3 (T.setVm vm₁) (G.2.2.1 11) (G.2.2.1 8) (G.2.2.1 0) (defaultValue .int) 16).heap := ⟨_, rfl⟩
  rw [← hH1] at f1 f2 oq
  have hmid : ∀ j, j < 16 → H1[H.size + 1 + j * 7]? = some (arrV (G.2.2.1 8) 6 (fun y => .ref (H.size + 1 + j * 7 + 1 + y))) := fun j hj => by
    have h := (hin' j hj).1
    rw [outer_arr, hsz, ← hH1] at h
    exact h
  have hinn : ∀ j y, j < 16 → y < 6 → H1[H.size + 1 + j * 7 + 1 + y]? = some (arrV (G.2.2.1 0) 64 (fun _ => .int 0)) := fun j y hj hy => by
    have h := (hin' j hj).2 y hy
    rw [hsz, ← hH1] at h
    rw [h, ← arrV_new]
    rfl
  obtain ⟨ad1, had1⟩ : ∃ ad1 : AD, ad1 = fun k i j => if k = 82 ∧ i = 4600 ∧ j = 0 then H.size else if k = 82 ∧ (4700 ≤ i ∧ i < 4716) ∧ j = 0 then H.size + 1 + (i - 4700) * 7 else if k = 48 ∧ i < 16 ∧ j < 6 then H.size + 1 + i * 7 + 1 + j else ad k i j := ⟨_, rfl⟩
  have a46 : ad1 82 4600 0 = H.size := by rw [had1]; exact if_pos ⟨rfl, rfl, rfl⟩
  have a47 : ∀ x, x < 16 → ad1 82 (4700 + x) 0 = H.size + 1 + x * 7 := fun x hx => by
    rw [had1]
    show (if 82 = 82 ∧ 4700 + x = 4600 ∧ 0 = 0 then _ else if 82 = 82 ∧ (4700 ≤ 4700 + x ∧ 4700 + x < 4716) ∧ 0 = 0 then _ else _) = _
    rw [if_neg (by omega), if_pos (by omega)]
    show H.size + 1 + (4700 + x - 4700) * 7 = _
    rw [Nat.add_sub_cancel_left]
  have a48 : ∀ x y, x < 16 → y < 6 → ad1 48 x y = H.size + 1 + x * 7 + 1 + y := fun x y hx hy => by
    rw [had1]
    show (if 48 = 82 ∧ _ then _ else if 48 = 82 ∧ _ then _ else if 48 = 48 ∧ x < 16 ∧ y < 6 then _ else _) = _
    rw [if_neg (fun e => absurd e.1 (by decide)), if_neg (fun e => absurd e.1 (by decide)), if_pos ⟨rfl, hx, hy⟩]
  have aold : ∀ k i j, ok k i j → ad1 k i j = ad k i j := fun k i j q => by
    rw [had1]
    show (if _ then _ else if _ then _ else if _ then _ else _) = _
    rw [if_neg (fun e => hn (by obtain ⟨rfl, rfl, rfl⟩ := e; exact q)), if_neg (fun e => by
      obtain ⟨rfl, e2, rfl⟩ := e
      exact hn2 (i - 4700) (by omega) (by rw [show 4700 + (i - 4700) = i by omega]; exact q)), if_neg (fun e => by
      obtain ⟨rfl, e2, e3⟩ := e
      exact hn3 _ _ e2 e3 q)]
  have acls : ∀ k' i' j', k' ≤ 22 → ad1 k' i' j' = ad k' i' j' := fun k' i' j' h' => by
    rw [had1]
    show (if _ then _ else if _ then _ else if _ then _ else _) = _
    rw [if_neg (fun e => by omega), if_neg (fun e => by omega), if_neg (fun e => by omega)]
  obtain ⟨σ1, hσ1⟩ : ∃ σ1 : SG, σ1 = fun k i j x => if k = 82 ∧ i = 4600 ∧ j = 0 then (if x = 9000 then 16 else if x = 9001 then 11 else H.size + 1 + x * 7 + 1) else if k = 82 ∧ (4700 ≤ i ∧ i < 4716) ∧ j = 0 then (if x = 9000 then 6 else if x = 9001 then 8 else H.size + 1 + (i - 4700) * 7 + 1 + x + 1) else σ k i j x := ⟨_, rfl⟩
  have s46 : σ1 82 4600 0 = fun x => if x = 9000 then 16 else if x = 9001 then 11 else H.size + 1 + x * 7 + 1 := by
    rw [hσ1]
    funext x
    exact if_pos ⟨rfl, rfl, rfl⟩
  have s47 : ∀ z, z < 16 → σ1 82 (4700 + z) 0 = fun x => if x = 9000 then 6 else if x = 9001 then 8 else H.size + 1 + z * 7 + 1 + x + 1 := fun z hz => by
    rw [hσ1]
    funext x
    show (if 82 = 82 ∧ 4700 + z = 4600 ∧ 0 = 0 then _ else if 82 = 82 ∧ (4700 ≤ 4700 + z ∧ 4700 + z < 4716) ∧ 0 = 0 then _ else _) = _
    rw [if_neg (by omega), if_pos (by omega)]
    show (if x = 9000 then 6 else if x = 9001 then 8 else H.size + 1 + (4700 + z - 4700) * 7 + 1 + x + 1) = _
    rw [Nat.add_sub_cancel_left]
  have soff : ∀ k i j, ¬ (k = 82 ∧ j = 0 ∧ (i = 4600 ∨ (4700 ≤ i ∧ i < 4716))) → σ1 k i j = σ k i j := fun k i j h => by
    rw [hσ1]
    funext x
    show (if _ then _ else if _ then _ else _) = _
    rw [if_neg (fun e => h ⟨e.1, e.2.2, .inl e.2.1⟩), if_neg (fun e => h ⟨e.1, e.2.2, .inr e.2.1⟩)]
  have s46x : ∀ x, x < 16 → σ1 82 4600 0 x = H.size + 1 + x * 7 + 1 := fun x hx => by
    rw [s46]
    show (if x = 9000 then _ else if x = 9001 then _ else _) = _
    rw [if_neg (by omega), if_neg (by omega)]
  have s47x : ∀ z x, z < 16 → x < 6 → σ1 82 (4700 + z) 0 x = H.size + 1 + z * 7 + 1 + x + 1 := fun z x hz hx => by
    rw [s47 z hz]
    show (if x = 9000 then _ else if x = 9001 then _ else _) = _
    rw [if_neg (by omega), if_neg (by omega)]
  have hRep : Rep G (fun k i j => ok k i j ∨ (k = 82 ∧ i = 4600 ∧ j = 0) ∨ (∃ x, x < 16 ∧ k = 82 ∧ i = 4700 + x ∧ j = 0) ∨ (k = 48 ∧ i < 16 ∧ j < 6)) ad1 σ1 H1 := by
    refine hR.grow (hC.hB hS) oq (fun k i j q => ?_) (fun k i j k' i' j' q q' h0 e => ?_)
    · rcases q with q | ⟨rfl, rfl, rfl⟩ | ⟨z, hz1, rfl, rfl, rfl⟩ | ⟨rfl, hx, hy⟩
      · refine .inl ⟨q, aold _ _ _ q, ?_⟩
        rw [soff _ _ _ (fun e => by
          obtain ⟨rfl, rfl, e3⟩ := e
          rcases e3 with rfl | e3
          · exact hn q
          · exact hn2 (i - 4700) (by omega) (by rw [show 4700 + (i - 4700) = i by omega]; exact q))]
        exact (hin _ _ _ q).eq (fun _ => acls)
      · refine .inr ⟨by rw [a46]; exact Nat.le_refl _, ?_⟩
        show H1[ad1 82 4600 0]? = some (vp_cell (G.2.2.1 (σ1 82 4600 0 9001)) (σ1 82 4600 0 9000, .inr (.inr (.inr (.inr fun x => rf (σ1 82 4600 0 x))))))
        rw [a46, f2]
        have e1 : σ1 82 4600 0 9001 = 11 := by rw [s46]; rfl
        have e2 : σ1 82 4600 0 9000 = 16 := by rw [s46]; rfl
        rw [e1, e2]
        show some (arrV (G.2.2.1 11) 16 _) = some (arrV (G.2.2.1 11) 16 (fun j => va_rf (rf (σ1 82 4600 0 j))))
        congr 1
        exact arrV_congr (fun j hj => by rw [s46x j hj]; rfl)
      · refine .inr ⟨by rw [a47 z hz1]; omega, ?_⟩
        show H1[ad1 82 (4700 + z) 0]? = some (vp_cell (G.2.2.1 (σ1 82 (4700 + z) 0 9001)) (σ1 82 (4700 + z) 0 9000, .inr (.inr (.inr (.inr fun x => rf (σ1 82 (4700 + z) 0 x))))))
        rw [a47 z hz1, hmid z hz1]
        have e1 : σ1 82 (4700 + z) 0 9001 = 8 := by rw [s47 z hz1]; rfl
        have e2 : σ1 82 (4700 + z) 0 9000 = 6 := by rw [s47 z hz1]; rfl
        rw [e1, e2]
        show some (arrV (G.2.2.1 8) 6 _) = some (arrV (G.2.2.1 8) 6 (fun j => va_rf (rf (σ1 82 (4700 + z) 0 j))))
        congr 1
        exact arrV_congr (fun j hj => by rw [s47x z j hz1 hj]; rfl)
      · refine .inr ⟨by rw [a48 i j hx hy]; omega, ?_⟩
        rw [soff _ _ _ (fun e => absurd e.1 (by decide)), hz i j hx hy]
        show H1[ad1 48 i j]? = some (vp_cell (G.2.2.1 0) (64, .inl fun _ => dm 1))
        rw [a48 i j hx hy, hinn i j hx hy]
        rfl
    · have no : ∀ k i j, ok k i j → ¬ H.size ≤ ad1 k i j := fun k i j q h => by
        rw [aold _ _ _ q] at h
        exact absurd (hR.lt q) (by omega)
      have h0' : H.size ≤ ad1 k' i' j' := by rw [← e]; exact h0
      rcases q with q | ⟨rfl, rfl, rfl⟩ | ⟨z, hz1, rfl, rfl, rfl⟩ | ⟨rfl, hx, hy⟩
      · exact absurd h0 (no _ _ _ q)
      · rcases q' with q' | ⟨rfl, rfl, rfl⟩ | ⟨z', hz', rfl, rfl, rfl⟩ | ⟨rfl, hx', hy'⟩
        · exact absurd h0' (no _ _ _ q')
        · exact ⟨rfl, rfl, rfl⟩
        · rw [a46, a47 z' hz'] at e
          omega
        · rw [a46, a48 _ _ hx' hy'] at e
          omega
      · rcases q' with q' | ⟨rfl, rfl, rfl⟩ | ⟨z', hz', rfl, rfl, rfl⟩ | ⟨rfl, hx', hy'⟩
        · exact absurd h0' (no _ _ _ q')
        · rw [a46, a47 z hz1] at e
          omega
        · rw [a47 z hz1, a47 z' hz'] at e
          have exy : z = z' := by omega
          subst exy
          exact ⟨rfl, rfl, rfl⟩
        · rw [a47 z hz1, a48 _ _ hx' hy'] at e
          omega
      · rcases q' with q' | ⟨rfl, rfl, rfl⟩ | ⟨z', hz', rfl, rfl, rfl⟩ | ⟨rfl, hx', hy'⟩
        · exact absurd h0' (no _ _ _ q')
        · rw [a46, a48 _ _ hx hy] at e
          omega
        · rw [a48 _ _ hx hy, a47 z' hz'] at e
          omega
        · rw [a48 _ _ hx hy, a48 _ _ hx' hy'] at e
          exact ⟨rfl, by omega, by omega⟩
  obtain ⟨t, b1, b2⟩ := kk _ ad1 σ1 (fun _ _ _ => Iff.rfl) aold soff (by rw [s46]; rfl) (by rw [s46]; rfl) (fun x hx => by rw [s46x x hx, a47 x hx]) (fun x hx => ⟨by rw [s47 x hx]; rfl, by rw [s47 x hx]; rfl, fun y hy => by rw [s47x x y hx hy, a48 x y hx hy]⟩) H1 locs ls hRep (hS.grown (by omega) oq) hls _ hH1.symm X1
  refine ⟨t, step t ?_, b2⟩
  rw [a46] at b1
  rw [hT]
  exact b1
end NEWC

