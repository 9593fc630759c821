section ALLOC3
variable {X : XT} {G : GT} {own : String} {cc : ByteArray} {nL n mc ms : Nat} {kc ks : Nat} {ok : KF} {ad : AD} {σ σ1 : SG} {l : List (Nat × Value)} {pc : Nat} {st : List Value}
/-- System.arraycopy between arrays of objects, from the starts; what goes over are int arrays -/
theorem v_copyq {k i j k2 i2 j2 N N2 m ix : Nat} {f g f1 : Nat → Option Nat} (hC : Cx X G own cc nL n mc ms) (d : decode cc pc = .ok (.invokestatic ix, 3)) (hlk : Cond.methodLink own ix arraycopyName ∈ lw_good) (hk : ok k i j) (hk2 : ok k2 i2 j2) (hne : ¬ (k2 = k ∧ i2 = i ∧ j2 = j)) (he : enck G.2.2.1 ad k i j (σ k i j) = .inl (G.2.2.1 12, N, .inr (.inr (.inr (.inr f))))) (he2 : enck G.2.2.1 ad k2 i2 j2 (σ k2 i2 j2) = .inl (G.2.2.1 12, N2, .inr (.inr (.inr (.inr g))))) (hm1 : m ≤ N) (hm2 : m ≤ N2) (hm : m < 2 ^ 31)
    (hel : ∀ x, x < m → ∀ y, f x = some y → ∃ k3 i3 j3 a3, ok k3 i3 j3 ∧ y = ad k3 i3 j3 ∧ enck G.2.2.1 ad k3 i3 j3 (σ k3 i3 j3) = .inl (G.2.2.1 0, a3))
    (ho : ∀ k' i' j', ¬ (k' = k2 ∧ i' = i2 ∧ j' = j2) → σ1 k' i' j' = σ k' i' j') (he1 : enck G.2.2.1 ad k2 i2 j2 (σ1 k2 i2 j2) = .inl (G.2.2.1 12, N2, .inr (.inr (.inr (.inr f1))))) (hf : ∀ x, f1 x = if x < m then f x else g x) (hst : (st.map fun v => v.category).sum ≤ 8)
    (kk : V X G kc ks ok ad σ1 l (pc + 3) st) : V X G kc ks ok ad σ l pc (iv m :: iv 0 :: .ref (ad k2 i2 j2) :: iv 0 :: .ref (ad k i j) :: st) := fun H locs ls hR hS hls => by
  intro T hT Xs
  obtain ⟨r1, r2, -, -⟩ := hC.2.1
  have hc0 : H[ad k i j]? = some (vp_cell (G.2.2.1 12) (N, .inr (.inr (.inr (.inr f))))) := hR.one hk he 0 _ rfl
  have hc1 : H[ad k2 i2 j2]? = some (vp_cell (G.2.2.1 12) (N2, .inr (.inr (.inr (.inr g))))) := hR.one hk2 he2 0 _ rfl
  obtain ⟨-, k0, hk0, cm0, hkk0⟩ := (hC.K.2 12 _ rfl).1 N (fun j => va_rf (f j))
  obtain ⟨-, k1, hk1, cm1, hkk1⟩ := (hC.K.2 12 _ rfl).1 N2 (fun j => va_rf (g j))
  obtain ⟨c0', t0', q1, q2, q3⟩ := Cond.castable_spec (va_Nw.use (A := xa X) rfl (hC.nw wg_8))
  cases hC.nmI.symm.trans q1
  have c0 : (nI 0).toNatClampNeg = 0 := nI_clamp (by decide)
  have cm : (nI m).toNatClampNeg = m := nI_clamp hm
  have t0 : (nI 0).toInt = 0 := nI_toInt (n := 0) (by decide)
  have tm : (nI m).toInt = (m : Int) := nI_toInt hm
  obtain ⟨vm', X', step⟩ := Xs.arraycopy hC.x hC.ow (hC.ts _ hlk) (hC.ts _ ac_nat) (hC.ts _ ac_st) (hC.ts _ ac_ini) (src := ad k i j) (dst := ad k2 i2 j2) (cs := vp_cell (G.2.2.1 12) (N, .inr (.inr (.inr (.inr f))))) (cd := vp_cell (G.2.2.1 12) (N2, .inr (.inr (.inr (.inr g))))) (srcPos := nI 0) (destPos := nI 0) (n := nI m) (by rw [hT]; exact hc0) (by rw [hT]; exact hc1)
    (fun _ h => by cases h) (fun _ h => by cases h) (fun h => by cases h) (fun h => by cases h) hk0 hk1 hkk0 hkk1 rfl (nI_pos (by decide)) (nI_pos (by decide)) (nI_pos hm)
    (by rw [t0, tm]; show ¬ _ > ((arrV (G.2.2.1 12) N (fun j => va_rf (f j))).slots.size : Int); rw [arrV_size]; omega)
    (by rw [t0, tm]; show ¬ _ > ((arrV (G.2.2.1 12) N2 (fun j => va_rf (g j))).slots.size : Int); rw [arrV_size]; omega)
    (fun vm₁ hal i hi => by
      rw [cm] at hi
      have e : (vp_cell (G.2.2.1 12) (N, .inr (.inr (.inr (.inr f))))).slots.getD ((nI 0).toNatClampNeg + i) .null = va_rf (f i) := by
        show (arrV (G.2.2.1 12) N (fun j => va_rf (f j))).slots.getD _ _ = _
        rw [c0, Array.getD_eq_getD_getElem?, arrV_read _ _ (by omega), Nat.zero_add]
        rfl
      rw [e]
      cases hy : f i with
      | none => exact ⟨rfl, trivial⟩
      | some y =>
        obtain ⟨k3, i3, j3, a3, g0, g1, g2⟩ := hel i hi y hy
        subst g1
        have hcv : H[ad k3 i3 j3]? = some (vp_cell (G.2.2.1 0) a3) := hR.one g0 g2 0 _ rfl
        have hcl : (vp_cell (G.2.2.1 0) a3).cls = G.2.2.1 0 := by obtain ⟨n, f | f | f | f | f⟩ := a3 <;> rfl
        have hvm : (vp_cell (G.2.2.1 0) a3).vm = .none := by obtain ⟨n, f | f | f | f | f⟩ := a3 <;> rfl
        obtain ⟨kA, comp, r1, r2, r3, -⟩ := (hC.K.2 12 _ rfl).2
        cases hk1.symm.trans r1
        cases hkk1.symm.trans r2
        obtain ⟨kC, hkC, -⟩ := Vm.findClass_spec hC.nmI
        obtain ⟨kE, hkE, -⟩ := Vm.findClass_spec r3
        obtain ⟨kC', hkC', -⟩ := hal.2.2 _ _ hkC
        obtain ⟨kE', hkE', -⟩ := hal.2.2 _ _ hkE
        refine ⟨rfl, _, (show T.heap[ad k3 i3 j3]? = some _ by rw [hT]; exact hcv), (fun q h => by rw [hvm] at h; cases h), ⟨kC', by rw [hcl]; exact hkC'⟩, ?_, ?_⟩
        · exact ⟨kE', hkE'⟩
        · show vm₁.assignable _ _ = true
          rw [hal.assignable, hcl]
          cases r3.symm.trans q2
          exact q3)
    (g := F0 (xm X) pc ls (iv m :: iv 0 :: .ref (ad k2 i2 j2) :: iv 0 :: .ref (ad k i j) :: st)) rfl (by show ls.size = _; exact hls.1) (rest := st) rfl (by rw [hC.b]; exact d) (by omega) (by
      have hw : nativeFrameWords "java/lang/System" "arraycopy" 5 ≤ 40 := by decide
      show 2 * 0 + _ + _ ≤ _
      omega)
  have e1 : copied (vp_cell (G.2.2.1 12) (N, .inr (.inr (.inr (.inr f))))) (vp_cell (G.2.2.1 12) (N2, .inr (.inr (.inr (.inr g))))) (nI 0) (nI 0) (nI m) = vp_cell (G.2.2.1 12) (N2, .inr (.inr (.inr (.inr f1)))) := by
    rw [vp_cell_q, vp_cell_q, vp_cell_q]
    refine (va_copied (fun z => va_rf z) (G.2.2.1 12) (G.2.2.1 12) f g (by rw [c0, cm]; omega)).trans ?_
    congr 1
    funext x
    rw [hf x]
    simp only [va_cpy, c0, cm]
    by_cases h : x < m
    · rw [if_pos (by omega), if_pos h]
      simp
    · rw [if_neg (by omega), if_neg h]
  rw [e1] at X' step
  have hl : ad k2 i2 j2 < H.size := hR.lt hk2
  have hheap : ((T.setVm vm').setCell (ad k2 i2 j2) (vp_cell (G.2.2.1 12) (N2, .inr (.inr (.inr (.inr f1)))))).heap = H.setIfInBounds (ad k2 i2 j2) (vp_cell (G.2.2.1 12) (N2, .inr (.inr (.inr (.inr f1))))) := by rw [← hT]; rfl
  have oq : ∀ q : Nat, q ≠ ad k2 i2 j2 → (H.setIfInBounds (ad k2 i2 j2) (vp_cell (G.2.2.1 12) (N2, .inr (.inr (.inr (.inr f1))))))[q]? = H[q]? := fun q hq => by simp [Array.getElem?_setIfInBounds, Ne.symm hq]
  obtain ⟨t, a1, b1⟩ := kk _ _ ls (hR.set hk2 (by rw [he1]; show (H.setIfInBounds (ad k2 i2 j2) _)[ad k2 i2 j2]? = some _; simp [Array.getElem?_setIfInBounds, hl]) oq ho) ⟨by simp; exact hS.1, fun q g1 g2 => by
      rw [oq q (fun e => g2 (by rw [e]; exact hR.ge hk2))]
      exact hS.2.1 q g1 g2, fun q hq => by
      rcases List.mem_append.mp hq with h | h
      · exact hS.2.2 q h
      · obtain ⟨z, -, hz⟩ := List.mem_map.mp h
        rw [← hz]
        exact hR.ge hk2⟩ hls _ hheap X'
  exact ⟨t, step t a1, b1⟩
end ALLOC3
