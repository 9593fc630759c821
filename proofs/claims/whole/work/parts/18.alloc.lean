theorem oi_1 : Cond.instanceMethod objectInit ∈ lw_good := by decide +kernel
theorem oi_2 : Cond.code objectInit ⟨#[0xb1]⟩ 1 none ∈ lw_good := by decide +kernel
theorem ac_nat : Cond.native arraycopyName ∈ lw_good := by decide +kernel
theorem ac_st : Cond.static arraycopyName ∈ lw_good := by decide +kernel
theorem ac_ini : Cond.initialized "java/lang/System" ∈ lw_good := by decide +kernel
section ALLOC
variable {X : XT} {G : GT} {own : String} {cc : ByteArray} {nL n mc ms : Nat} {kc ks : Nat} {ok : KF} {ad : AD} {σ σ1 : SG} {l : List (Nat × Value)} {pc : Nat} {st : List Value}
theorem v_objInit {ix a : Nat} (hC : Cx X G own cc nL n mc ms) (d : decode cc pc = .ok (.invokespecial ix, 3)) (hl : Cond.methodLink own ix objectInit ∈ lw_good) (hst : (st.map fun v => v.category).sum ≤ 8) (k : V X G kc ks ok ad σ l (pc + 3) st) : V X G kc ks ok ad σ l pc (.ref a :: st) := fun H locs ls hR hS hls => by
  obtain ⟨r1, r2, -, -⟩ := hC.2.1
  exact W.objInit hC.x hC.b hC.ow (hC.ts _ hl) (hC.ts _ oi_1) (hC.ts _ oi_2) rfl (by show ls.size = _; exact hls.1) rfl d (by omega) (by show 2 * 0 + _ + 12 ≤ _; omega) (k H locs ls hR hS hls)
theorem va_S.grown {A : Nat → Prop} {H0 H H1 : Heap} {locs : List Loc} (h : va_S A H0 H locs) (z : H.size ≤ H1.size) (o : ∀ q, q < H.size → H1[q]? = H[q]?) : va_S A H0 H1 locs :=
  ⟨Nat.le_trans h.1 z, fun q h1 h2 => (o q (Nat.lt_of_lt_of_le h1 h.1)).trans (h.2.1 q h1 h2), h.2.2⟩
theorem v_new {C : String} {T : u_T} {N ci ix : Nat} {fs : List Value} (k0 i0 j0 : Nat) (hC : Cx X G own cc nL n mc ms) (d : decode cc pc = .ok (.new ix, 3)) (hcl : Cond.classLink own ix C ∈ lw_good) (hinst : Cond.instantiable C N ∈ lw_good) (hini : Cond.initialized C ∈ lw_good) (hin : ∀ w ∈ u_ws C T N, w ∈ lw_good) (ty0 : Nat → FieldType) (hty : ∀ k, k < N → parseFieldDescriptor (T k).2.2.1 = some (ty0 k)) (hc : CL[ci]? = some (C, T, N)) (hfs : ∀ j, j < N → defaultValue (ty0 j) = vp_V fs j)
    (h1 : kc + 1 ≤ mc) (h2 : ks + N ≤ ms) (hn : ¬ ok k0 i0 j0) (hd : ∀ a k' i' j', ok k' i' j' → ∀ s, enck G.2.2.1 (adA ad k0 i0 j0 a) k' i' j' s = enck G.2.2.1 ad k' i' j' s) (ho : ∀ k' i' j', ¬ (k' = k0 ∧ i' = i0 ∧ j' = j0) → σ1 k' i' j' = σ k' i' j') (he : ∀ a, enck G.2.2.1 (adA ad k0 i0 j0 a) k0 i0 j0 (σ1 k0 i0 j0) = .inr (ci, fs))
    (kk : ∀ a, V X G (kc + 1) (ks + N) (okA ok k0 i0 j0) (adA ad k0 i0 j0 a) σ1 l (pc + 3) (.ref a :: st)) : V X G kc ks ok ad σ l pc st := fun H locs ls hR hS hls => by
  refine W.newc hC.x hC.b hC.ow (hC.ts _ hcl) (hC.ts _ hinst) (hC.ts _ hini) rfl d (hC.hf (mc1 := 1) (ms1 := N) h1 h2).1 (hC.hf (mc1 := 1) (ms1 := N) h1 h2).2 (fun cC kC f1 f2 f3 f4 => ?_)
  obtain ⟨hSl, hfc, kC', hkC', hkind⟩ := hC.K.1 ci _ hc
  have hcC : cC = G.1.1 ci := Option.some.inj (f1.symm.trans hfc)
  subst hcC
  generalize hH1 : H.push ({ cls := G.1.1 ci, slots := kC.instanceTypes.map defaultValue, vm := .none } : Cell) = H1
  have z1 : H1.size = H.size + 1 := by rw [← hH1, Array.size_push]
  have e1 : H1[H.size]? = some (blank (G.1.1 ci) kC) := by rw [← hH1, Array.getElem?_push_size]; rfl
  have o1 : ∀ q : Nat, q < H.size → H1[q]? = H[q]? := fun q hq => by rw [← hH1, Array.getElem?_push, if_neg (Nat.ne_of_lt hq)]
  refine kk H.size H1 locs ls (hR.push hn (hd H.size) (hC.hB hS) o1 ?_ ho) (hS.grown (by omega) o1) hls
  rw [he]
  exact ⟨_, hc, (u_born ty0 hC.ts hin ⟨hSl, hfc, kC', hkC', hkind⟩ f2 e1 hty).to hfs⟩
theorem v_newa {atype : ArrayType} {ty : FieldType} {N : Nat} {a0 : vp_A} (t0 k0 i0 j0 : Nat) (hC : Cx X G own cc nL n mc ms) (d : decode cc pc = .ok (.newarray atype, 2)) (hty : newarray.typeOf atype = ty) (hw : Cond.arrayClass ty ∈ lw_good) (ht : (TYS G.2.2.1)[t0]? = some (G.2.2.1 t0, ty)) (hra : va_RA (xs X) (G.2.2.1 t0) ty = ((xs X).vm.findClass ("[" ++ ty.toString) = some (G.2.2.1 t0))) (hN : N < 2 ^ 31) (hb : N * componentBytes ty ≤ 536870912)
    (h1 : kc + 1 ≤ mc) (h2 : ks + N ≤ ms) (hn : ¬ ok k0 i0 j0) (hd : ∀ a k' i' j', ok k' i' j' → ∀ s, enck G.2.2.1 (adA ad k0 i0 j0 a) k' i' j' s = enck G.2.2.1 ad k' i' j' s) (ho : ∀ k' i' j', ¬ (k' = k0 ∧ i' = i0 ∧ j' = j0) → σ1 k' i' j' = σ k' i' j') (he : ∀ a, enck G.2.2.1 (adA ad k0 i0 j0 a) k0 i0 j0 (σ1 k0 i0 j0) = .inl (G.2.2.1 t0, a0)) (hz : vp_cell (G.2.2.1 t0) a0 = arrV (G.2.2.1 t0) N (fun _ => defaultValue ty))
    (kk : ∀ a, V X G (kc + 1) (ks + N) (okA ok k0 i0 j0) (adA ad k0 i0 j0 a) σ1 l (pc + 2) (.ref a :: st)) : V X G kc ks ok ad σ l pc (iv N :: st) := fun H locs ls hR hS hls => by
  subst hty
  refine va_newaK hC.x hC.b (hC.ts _ hw) rfl d rfl (nI_pos hN) (nI_clamp hN) hb (hC.hf (mc1 := 1) (ms1 := N) h1 h2).1 (hC.hf (mc1 := 1) (ms1 := N) h1 h2).2 rfl fun H1 cA e1 z1 o1 hAr hNm => ?_
  have hcA : cA = G.2.2.1 t0 := by
    have h3 := (hC.K.2 t0 _ ht).2
    rw [hra] at h3
    exact Option.some.inj (hNm.symm.trans h3)
  subst hcA
  refine kk H.size H1 locs ls (hR.push hn (hd H.size) (hC.hB hS) o1 ?_ ho) (hS.grown (by omega) o1) hls
  rw [he]
  show H1[H.size]? = some (vp_cell _ _)
  rw [hz]
  exact e1
theorem v_anew {C : String} {N ix : Nat} {a0 : vp_A} (t0 k0 i0 j0 : Nat) (hC : Cx X G own cc nL n mc ms) (d : decode cc pc = .ok (.anewarray ix, 3)) (hcl : Cond.classLink own ix C ∈ lw_good) (hov : FieldType.object C ∈ aos) (ht : (TYS G.2.2.1)[t0]? = some (G.2.2.1 t0, .object C)) (hN : N < 2 ^ 31) (hb : N * 4 ≤ 536870912)
    (h1 : kc + 1 ≤ mc) (h2 : ks + N ≤ ms) (hn : ¬ ok k0 i0 j0) (hd : ∀ a k' i' j', ok k' i' j' → ∀ s, enck G.2.2.1 (adA ad k0 i0 j0 a) k' i' j' s = enck G.2.2.1 ad k' i' j' s) (ho : ∀ k' i' j', ¬ (k' = k0 ∧ i' = i0 ∧ j' = j0) → σ1 k' i' j' = σ k' i' j') (he : ∀ a, enck G.2.2.1 (adA ad k0 i0 j0 a) k0 i0 j0 (σ1 k0 i0 j0) = .inl (G.2.2.1 t0, a0)) (hz : vp_cell (G.2.2.1 t0) a0 = arrV (G.2.2.1 t0) N (fun _ => .null))
    (kk : ∀ a, V X G (kc + 1) (ks + N) (okA ok k0 i0 j0) (adA ad k0 i0 j0 a) σ1 l (pc + 3) (.ref a :: st)) : V X G kc ks ok ad σ l pc (iv N :: st) := fun H locs ls hR hS hls => by
  have hc := nI_clamp hN
  refine W.anew hC.x hC.b hC.ow (hC.ts _ hcl) (hC.ao hov).use rfl d rfl (nI_pos hN) (by rw [hc]; exact hb) (hC.hf (mc1 := 1) (ms1 := N) h1 h2).1 (by rw [hc]; exact (hC.hf (mc1 := 1) (ms1 := N) h1 h2).2) fun cA kA comp f1 f2 f3 f4 => ?_
  rw [hc]
  generalize hH1 : H.push ({ cls := cA, slots := Array.replicate N .null, vm := .none } : Cell) = H1
  have z1 : H1.size = H.size + 1 := by rw [← hH1, Array.size_push]
  have e1 : H1[H.size]? = some (arrV cA N (fun _ => .null)) := by rw [← hH1, Array.getElem?_push_size, ← arrV_new]
  have o1 : ∀ q : Nat, q < H.size → H1[q]? = H[q]? := fun q hq => by rw [← hH1, Array.getElem?_push, if_neg (Nat.ne_of_lt hq)]
  have hcA : cA = G.2.2.1 t0 := by
    obtain ⟨-, -, -, -, -, h3⟩ := (hC.K.2 t0 _ ht).2
    exact Option.some.inj (f1.symm.trans h3)
  subst hcA
  refine kk H.size H1 locs ls (hR.push hn (hd H.size) (hC.hB hS) o1 ?_ ho) (hS.grown (by omega) o1) hls
  rw [he]
  show H1[H.size]? = some (vp_cell _ _)
  rw [hz]
  exact e1
/-- System.arraycopy between int arrays, from the starts -/
theorem v_copyi {k i j k2 i2 j2 N N2 m ix : Nat} {f g f1 : Nat → Int32} (hC : Cx X G own cc nL n mc ms) (d : decode cc pc = .ok (.invokestatic ix, 3)) (hlk : Cond.methodLink own ix arraycopyName ∈ lw_good) (hk : ok k i j) (hk2 : ok k2 i2 j2) (hne : ¬ (k2 = k ∧ i2 = i ∧ j2 = j)) (he : enck G.2.2.1 ad k i j (σ k i j) = .inl (G.2.2.1 0, N, .inl f)) (he2 : enck G.2.2.1 ad k2 i2 j2 (σ k2 i2 j2) = .inl (G.2.2.1 0, N2, .inl g)) (hm1 : m ≤ N) (hm2 : m ≤ N2) (hm : m < 2 ^ 31)
    (ho : ∀ k' i' j', ¬ (k' = k2 ∧ i' = i2 ∧ j' = j2) → σ1 k' i' j' = σ k' i' j') (he1 : enck G.2.2.1 ad k2 i2 j2 (σ1 k2 i2 j2) = .inl (G.2.2.1 0, N2, .inl f1)) (hf : ∀ x, f1 x = if x < m then f x else g x) (hst : (st.map fun v => v.category).sum ≤ 8)
    (kk : V X G kc ks ok ad σ1 l (pc + 3) st) : V X G kc ks ok ad σ l pc (iv m :: iv 0 :: .ref (ad k2 i2 j2) :: iv 0 :: .ref (ad k i j) :: st) := fun H locs ls hR hS hls => by
  intro T hT Xs
  obtain ⟨r1, r2, -, -⟩ := hC.2.1
  have hc0 : H[ad k i j]? = some (vp_cell (G.2.2.1 0) (N, .inl f)) := hR.one hk he 0 _ rfl
  have hc1 : H[ad k2 i2 j2]? = some (vp_cell (G.2.2.1 0) (N2, .inl g)) := hR.one hk2 he2 0 _ rfl
  obtain ⟨-, k0, hk0, cm0, hkk0⟩ := (hC.K.2 0 _ rfl).1 N (fun j => .int (f j))
  obtain ⟨-, k1, hk1, cm1, hkk1⟩ := (hC.K.2 0 _ rfl).1 N2 (fun j => .int (g j))
  have c0 : (nI 0).toNatClampNeg = 0 := nI_clamp (by decide)
  have cm : (nI m).toNatClampNeg = m := nI_clamp hm
  have t0 : (nI 0).toInt = 0 := nI_toInt (n := 0) (by decide)
  have tm : (nI m).toInt = (m : Int) := nI_toInt hm
  obtain ⟨vm', X', step⟩ := Xs.arraycopy hC.x hC.ow (hC.ts _ hlk) (hC.ts _ ac_nat) (hC.ts _ ac_st) (hC.ts _ ac_ini) (src := ad k i j) (dst := ad k2 i2 j2) (cs := vp_cell (G.2.2.1 0) (N, .inl f)) (cd := vp_cell (G.2.2.1 0) (N2, .inl g)) (srcPos := nI 0) (destPos := nI 0) (n := nI m) (by rw [hT]; exact hc0) (by rw [hT]; exact hc1)
    (fun _ h => by cases h) (fun _ h => by cases h) (fun h => by cases h) (fun h => by cases h) hk0 hk1 hkk0 hkk1 (by simp [refKind]) (nI_pos (by decide)) (nI_pos (by decide)) (nI_pos hm)
    (by rw [t0, tm]; show ¬ _ > ((arrV (G.2.2.1 0) N (fun j => .int (f j))).slots.size : Int); rw [arrV_size]; omega)
    (by rw [t0, tm]; show ¬ _ > ((arrV (G.2.2.1 0) N2 (fun j => .int (g j))).slots.size : Int); rw [arrV_size]; omega)
    (fun vm₁ _ i hi => by
      rw [cm] at hi
      have e : (vp_cell (G.2.2.1 0) (N, .inl f)).slots.getD ((nI 0).toNatClampNeg + i) .null = .int (f i) := by
        show (arrV (G.2.2.1 0) N (fun j => .int (f j))).slots.getD _ _ = _
        rw [c0, Array.getD_eq_getD_getElem?, arrV_read _ _ (by omega), Nat.zero_add]
        rfl
      refine ⟨?_, ?_⟩
      · rw [e]
        rfl
      · rw [e]
        exact trivial)
    (g := F0 (xm X) pc ls (iv m :: iv 0 :: .ref (ad k2 i2 j2) :: iv 0 :: .ref (ad k i j) :: st)) rfl (by show ls.size = _; exact hls.1) (rest := st) rfl (by rw [hC.b]; exact d) (by omega) (by
      have hw : nativeFrameWords "java/lang/System" "arraycopy" 5 ≤ 40 := by decide
      show 2 * 0 + _ + _ ≤ _
      omega)
  have e1 : copied (vp_cell (G.2.2.1 0) (N, .inl f)) (vp_cell (G.2.2.1 0) (N2, .inl g)) (nI 0) (nI 0) (nI m) = vp_cell (G.2.2.1 0) (N2, .inl f1) := by
    refine (va_copied (fun z => .int z) (G.2.2.1 0) (G.2.2.1 0) f g (by rw [c0, cm]; omega)).trans ?_
    show arrV (G.2.2.1 0) N2 (fun j => Value.int (va_cpy f g (nI 0).toNatClampNeg (nI 0).toNatClampNeg (nI m).toNatClampNeg j)) = arrV (G.2.2.1 0) N2 (fun j => .int (f1 j))
    congr 1
    funext x
    rw [hf x]
    simp only [va_cpy, c0, cm]
    by_cases h : x < m
    · rw [if_pos (by omega), if_pos h]
      simp
    · rw [if_neg (by omega), if_neg h]
  rw [e1] at X' step
  have hl : ad k2 i2 j2 < H.size := hR.lt hk2
  have hheap : ((T.setVm vm').setCell (ad k2 i2 j2) (vp_cell (G.2.2.1 0) (N2, .inl f1))).heap = H.setIfInBounds (ad k2 i2 j2) (vp_cell (G.2.2.1 0) (N2, .inl f1)) := by rw [← hT]; rfl
  have oq : ∀ q : Nat, q ≠ ad k2 i2 j2 → (H.setIfInBounds (ad k2 i2 j2) (vp_cell (G.2.2.1 0) (N2, .inl f1)))[q]? = H[q]? := fun q hq => by simp [Array.getElem?_setIfInBounds, Ne.symm hq]
  obtain ⟨t, a1, b1⟩ := kk _ _ ls (hR.set hk2 (by rw [he1]; show (H.setIfInBounds (ad k2 i2 j2) _)[ad k2 i2 j2]? = some _; simp [Array.getElem?_setIfInBounds, hl]) oq ho) ⟨by simp; exact hS.1, fun q g1 g2 => by
      rw [oq q (fun e => g2 (by rw [e]; exact hR.ge hk2))]
      exact hS.2.1 q g1 g2, fun q hq => by
      rcases List.mem_append.mp hq with h | h
      · exact hS.2.2 q h
      · obtain ⟨z, -, hz⟩ := List.mem_map.mp h
        rw [← hz]
        exact hR.ge hk2⟩ hls _ hheap X'
  exact ⟨t, step t a1, b1⟩
end ALLOC
