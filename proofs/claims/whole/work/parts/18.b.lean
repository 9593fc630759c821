/-! ===== clone, casts, class objects, arraycopy of references ===== -/
theorem cl_in {w : Cond} (i : Nat) (h : lw_tbl[i]? = some w) (g : goodWord w = true) : w ∈ lw_good := gd_at i h g
abbrev cloneN (ad : String) : MethodName := ⟨ad, "clone", "()Ljava/lang/Object;"⟩
abbrev getCN : MethodName := ⟨"java/lang/Object", "getClass", "()Ljava/lang/Class;"⟩
theorem wc_1 : Cond.methodLink "java/util/Arrays" 316 (cloneN "[I") ∈ lw_good := gd_at 698 (by decide +kernel) (by decide +kernel)
theorem wc_2 : Cond.sameMethod "[I" "java/lang/Object" "clone" "()Ljava/lang/Object;" ∈ lw_good := gd_at 699 (by decide +kernel) (by decide +kernel)
theorem wc_3 : Cond.native (cloneN "java/lang/Object") ∈ lw_good := gd_at 700 (by decide +kernel) (by decide +kernel)
theorem wc_4 : Cond.instanceMethod (cloneN "java/lang/Object") ∈ lw_good := gd_at 701 (by decide +kernel) (by decide +kernel)
theorem wc_5 : Cond.selects "[I" (cloneN "[I") (cloneN "java/lang/Object") ∈ lw_good := gd_at 702 (by decide +kernel) (by decide +kernel)
theorem wc_6 : Cond.castable "[I" "java/lang/Cloneable" ∈ lw_ng := ng_at 703 (by decide +kernel) (by decide +kernel)
theorem wc_7 : Cond.classLink "java/util/Arrays" 317 "[I" ∈ lw_good := gd_at 704 (by decide +kernel) (by decide +kernel)
theorem wg_1 : Cond.methodLink "java/util/Arrays" 86 getCN ∈ lw_good := gd_at 1285 (by decide +kernel) (by decide +kernel)
theorem wg_2 : Cond.instanceMethod getCN ∈ lw_good := gd_at 1286 (by decide +kernel) (by decide +kernel)
theorem wg_3 : Cond.native getCN ∈ lw_good := gd_at 1304 (by decide +kernel) (by decide +kernel)
theorem wg_4 : Cond.selects "[Ljava/lang/Object;" getCN getCN ∈ lw_good := gd_at 1423 (by decide +kernel) (by decide +kernel)
theorem wg_5 : Cond.declares getCN ∈ lw_ng := ng_at 1424 (by decide +kernel) (by decide +kernel)
theorem wg_6 : Cond.classLink "java/util/Arrays" 110 "[Ljava/lang/Object;" ∈ lw_good := gd_at 1308 (by decide +kernel) (by decide +kernel)
theorem wg_7 : Cond.classLink "java/util/Arrays" 2 "java/lang/Object" ∈ lw_good := gd_at 1310 (by decide +kernel) (by decide +kernel)
theorem wg_8 : Cond.castable "[I" "java/lang/Object" ∈ lw_ng := ng_at 1426 (by decide +kernel) (by decide +kernel)
theorem wg_9 : Cond.classLink "java/util/ArrayList" 7 "java/lang/Object" ∈ lw_good := gd_at 1312 (by decide +kernel) (by decide +kernel)
theorem ao_O : FieldType.object "java/lang/Object" ∈ aos := by decide +kernel
section ALLOB
variable {X : XT} {G : GT} {own : String} {cc : ByteArray} {nL n mc ms : Nat} {kc ks : Nat} {ok : KF} {ad : AD} {σ σ1 : SG} {l : List (Nat × Value)} {pc : Nat} {st : List Value}
theorem Cx.mi (hC : Cx X G own cc nL n mc ms) : va_Mi "[Ljava/lang/Object;" (G.2.2.2 1) (xs X) := hC.2.2.1.2.1.2.2.2.2.2.2.1
theorem Cx.fw (hC : Cx X G own cc nL n mc ms) : ∀ q ∈ fws, va_Fw RJx35411 q.1 q.2 (xs X) := hC.2.2.1.2.1.2.2.2.2.2.2.2
theorem Cx.e0 (hC : Cx X G own cc nL n mc ms) : (∃ ce : Cell, (xs X).heap[G.2.2.2 0]? = some ce ∧ ce.cls = G.2.2.1 12 ∧ (∀ k, ce.vm ≠ .statics k) ∧ ce.slots.size = 0) ∧ ¬ AB G (G.2.2.2 0) := hC.2.2.1.2.1.2.2.2.2.2.1
theorem Cx.nmI (hC : Cx X G own cc nL n mc ms) : (xs X).vm.findClass "[I" = some (G.2.2.1 0) := (hC.K.2 0 _ rfl).2
theorem Cx.nmO (hC : Cx X G own cc nL n mc ms) : (xs X).vm.findClass "[Ljava/lang/Object;" = some (G.2.2.1 12) := va_nmO (hC.K.2 12 _ rfl).2 rfl
/-- an int array cloned -/
theorem v_clone {k i j N : Nat} {f : Nat → Int32} {a0 : vp_A} (k0 i0 j0 : Nat) (hC : Cx X G "java/util/Arrays" cc nL n mc ms) (d : decode cc pc = .ok (.invokevirtual 316, 3)) (hk : ok k i j) (he : enck G.2.2.1 ad k i j (σ k i j) = .inl (G.2.2.1 0, N, .inl f))
    (h1 : kc + 1 ≤ mc) (h2 : ks + N ≤ ms) (hn : ¬ ok k0 i0 j0) (hd : ∀ a k' i' j', ok k' i' j' → ∀ s, enck G.2.2.1 (adA ad k0 i0 j0 a) k' i' j' s = enck G.2.2.1 ad k' i' j' s) (ho : ∀ k' i' j', ¬ (k' = k0 ∧ i' = i0 ∧ j' = j0) → σ1 k' i' j' = σ k' i' j') (he1 : ∀ a, enck G.2.2.1 (adA ad k0 i0 j0 a) k0 i0 j0 (σ1 k0 i0 j0) = .inl (G.2.2.1 0, a0)) (hz : vp_cell (G.2.2.1 0) a0 = vp_cell (G.2.2.1 0) (N, .inl f)) (hst : (st.map fun v => v.category).sum ≤ 8)
    (kk : ∀ a, V X G (kc + 1) (ks + N) (okA ok k0 i0 j0) (adA ad k0 i0 j0 a) σ1 l (pc + 3) (.ref a :: st)) : V X G kc ks ok ad σ l pc (.ref (ad k i j) :: st) := fun H locs ls hR hS hls => by
  obtain ⟨r1, r2, -, -⟩ := hC.2.1
  obtain ⟨c0, t0', f1, f2, f3⟩ := Cond.castable_spec (va_Nw.use (A := xa X) rfl (hC.nw wc_6))
  cases hC.nmI.symm.trans f1
  intro T hT Xs
  have hc0 : H[ad k i j]? = some (vp_cell (G.2.2.1 0) (N, .inl f)) := hR.one hk he 0 _ rfl
  have hcellT : T.heap[ad k i j]? = some (vp_cell (G.2.2.1 0) (N, .inl f)) := by rw [hT]; exact hc0
  have hsz : (vp_cell (G.2.2.1 0) (N, .inl f)).slots.size = N := arrV_size _ _ _
  obtain ⟨-, kA, hkA, comp, hkind⟩ := State.isArrayOf_alike Xs.warmed.alike ((hC.K.2 0 _ rfl).1 0 (fun _ => .null))
  obtain ⟨-, kS, hkS, compS, hkindS⟩ := (hC.K.2 0 _ rfl).1 0 (fun _ => .null)
  obtain ⟨vm', X', stp⟩ := Xs.cloneArray hC.x hC.ow (hC.ts _ wc_1) (hC.ts _ wc_2) (hC.ts _ wc_3) (hC.ts _ wc_4) (hC.ts _ wc_5) (a := ad k i j) (cell := vp_cell (G.2.2.1 0) (N, .inl f)) hcellT (fun k h => by cases h) (fun h => by cases h) hC.nmI f2 f3
    (fun i v hv => by
      have hk' : T.vm.classes[G.2.2.1 0]? = some kA := hkA
      have hv2 : (arrV (G.2.2.1 0) N (fun j => Value.int (f j))).slots[i]? = some v := hv
      have hfit : fits FieldType.int v = true := by
        by_cases hi : i < N
        · rw [arrV_read _ _ hi] at hv2
          cases hv2
          rfl
        · rw [Array.getElem?_eq_none (by rw [arrV_size]; omega)] at hv2
          cases hv2
      rw [show (vp_cell (G.2.2.1 0) (N, .inl f)).cls = G.2.2.1 0 from rfl]
      simpa [State.fitsSlot, State.slotType?, hk', hkind] using hfit)
    (g := F0 (xm X) pc ls (.ref (ad k i j) :: st)) rfl (by show ls.size = _; exact hls.1) rfl (by rw [hC.b]; exact d) (by omega) (by show 2 * 0 + _ + 14 ≤ _; omega) (hC.hf (mc1 := 1) (ms1 := N) h1 h2).1 (by rw [hsz]; exact (hC.hf (mc1 := 1) (ms1 := N) h1 h2).2) (hloader := Vm.clonesLoader_of_array hkS hkindS)
  have hcellE : ({ cls := (vp_cell (G.2.2.1 0) (N, .inl f)).cls, slots := (vp_cell (G.2.2.1 0) (N, .inl f)).slots } : Cell) = vp_cell (G.2.2.1 0) (N, .inl f) := rfl
  rw [hcellE, hsz] at X'
  generalize hH1 : H.push (vp_cell (G.2.2.1 0) (N, .inl f)) = H1
  have z1 : H1.size = H.size + 1 := by rw [← hH1, Array.size_push]
  have e1 : H1[H.size]? = some (vp_cell (G.2.2.1 0) (N, .inl f)) := by rw [← hH1, Array.getElem?_push_size]
  have o1 : ∀ q : Nat, q < H.size → H1[q]? = H[q]? := fun q hq => by rw [← hH1, Array.getElem?_push, if_neg (Nat.ne_of_lt hq)]
  obtain ⟨t, b1, b2⟩ := kk H.size H1 locs ls (hR.push hn (hd H.size) (hC.hB hS) o1 (by rw [he1]; show H1[H.size]? = some (vp_cell _ _); rw [hz]; exact e1) ho) (hS.grown (by omega) o1) hls ((T.setVm vm').pushCell (vp_cell (G.2.2.1 0) (N, .inl f))) (by rw [← hH1, ← hT]; rfl) X'
  refine ⟨t, stp t ?_, b2⟩
  rw [hcellE, hT]
  exact b1
theorem v_castA {k i j ix t0 : Nat} {nm : String} {x : vp_A} (hC : Cx X G own cc nL n mc ms) (d : decode cc pc = .ok (.checkcast ix, 3)) (hcl : Cond.classLink own ix nm ∈ lw_good) (hk : ok k i j) (he : enck G.2.2.1 ad k i j (σ k i j) = .inl (G.2.2.1 t0, x)) (hnm : (xs X).vm.findClass nm = some (G.2.2.1 t0))
    (kk : V X G kc ks ok ad σ l (pc + 3) (.ref (ad k i j) :: st)) : V X G kc ks ok ad σ l pc (.ref (ad k i j) :: st) := fun H locs ls hR hS hls =>
  va_castA hC.x hC.b hC.ow (hC.ts _ hcl) (hR.one hk he) 0 rfl hnm d (kk H locs ls hR hS hls)
theorem v_ldcM {ix : Nat} (hC : Cx X G own cc nL n mc ms) (d : decode cc pc = .ok (.ldc ix, 2)) (hcl : Cond.classLink own ix "[Ljava/lang/Object;" ∈ lw_good)
    (kk : V X G kc ks ok ad σ l (pc + 2) (.ref (G.2.2.2 1) :: st)) : V X G kc ks ok ad σ l pc st := fun H locs ls hR hS hls =>
  va_ldcM hC.x hC.b hC.ow (hC.ts _ hcl) hC.mi d (kk H locs ls hR hS hls)
theorem v_getC {k i j ix : Nat} {x : vp_A} (hC : Cx X G own cc nL n mc ms) (d : decode cc pc = .ok (.invokevirtual ix, 3)) (hl : Cond.methodLink own ix getCN ∈ lw_good) (hk : ok k i j) (he : enck G.2.2.1 ad k i j (σ k i j) = .inl (G.2.2.1 12, x)) (hst : (st.map fun v => v.category).sum ≤ 8)
    (kk : V X G kc ks ok ad σ l (pc + 3) (.ref (G.2.2.2 1) :: st)) : V X G kc ks ok ad σ l pc (.ref (ad k i j) :: st) := fun H locs ls hR hS hls => by
  obtain ⟨r1, r2, -, -⟩ := hC.2.1
  have hc0 : H[ad k i j]? = some (vp_cell (G.2.2.1 12) x) := hR.one hk he 0 _ rfl
  refine va_getC hC.x hC.b (by show _ = ls.size; exact hls.1.symm) hC.ow (hC.ts _ hl) (hC.ng wg_5) (hC.ts _ wg_4) (hC.ts _ wg_2) (hC.ts _ wg_3) hC.mi ⟨_, hc0, ?_, ?_⟩ (by omega) (by omega) d (kk H locs ls hR hS hls)
  · obtain ⟨n, f | f | f | f | f⟩ := x <;> rfl
  · have : (vp_cell (G.2.2.1 12) x).cls = G.2.2.1 12 := by obtain ⟨n, f | f | f | f | f⟩ := x <;> rfl
    rw [this]
    exact hC.nmO
/-- getClass of the shared empty array -/
theorem v_getC0 {ix : Nat} (hC : Cx X G own cc nL n mc ms) (d : decode cc pc = .ok (.invokevirtual ix, 3)) (hl : Cond.methodLink own ix getCN ∈ lw_good)  (hst : (st.map fun v => v.category).sum ≤ 8)
    (kk : V X G kc ks ok ad σ l (pc + 3) (.ref (G.2.2.2 1) :: st)) : V X G kc ks ok ad σ l pc (.ref (G.2.2.2 0) :: st) := fun H locs ls hR hS hls => by
  obtain ⟨r1, r2, -, -⟩ := hC.2.1
  have g6 := hC.e0
  obtain ⟨⟨ce, e1, e2, e3, e4⟩, g7⟩ := g6
  have hc0 : H[G.2.2.2 0]? = some ce := by rw [hS.2.1 _ (Array.getElem?_eq_some_iff.mp e1).1 g7]; exact e1
  have e5 : ce.vm.isStatics = false := by
    cases h : ce.vm with
    | statics k => exact absurd h (e3 k)
    | _ => rfl
  refine va_getC hC.x hC.b (by show _ = ls.size; exact hls.1.symm) hC.ow (hC.ts _ hl) (hC.ng wg_5) (hC.ts _ wg_4) (hC.ts _ wg_2) (hC.ts _ wg_3) hC.mi ⟨_, hc0, e5, by rw [e2]; exact hC.nmO⟩ (by omega) (by omega) d (kk H locs ls hR hS hls)
end ALLOB
