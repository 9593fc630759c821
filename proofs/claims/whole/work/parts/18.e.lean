theorem wm_1 : Cond.methodLink "java/util/Arrays" 304 Lib.Math.min.name ∈ lw_good := gd_at 705 (by decide +kernel) (by decide +kernel)
theorem wm_2 : Cond.static Lib.Math.min.name ∈ lw_good := gd_at 706 (by decide +kernel) (by decide +kernel)
theorem wm_3 : Cond.code Lib.Math.min.name Lib.Math.min.code 2 (some .int) ∈ lw_good := gd_at 707 (by decide +kernel) (by decide +kernel)
theorem wm_4 : Cond.methodLink "jdk/internal/util/ArraysSupport" 194 Lib.Math.max.name ∈ lw_good := gd_at 1275 (by decide +kernel) (by decide +kernel)
theorem wm_5 : Cond.static Lib.Math.max.name ∈ lw_good := gd_at 1276 (by decide +kernel) (by decide +kernel)
theorem wm_6 : Cond.code Lib.Math.max.name Lib.Math.max.code 2 (some .int) ∈ lw_good := gd_at 1277 (by decide +kernel) (by decide +kernel)
theorem wm_7 : Cond.methodLink "java/util/ArrayList" 79 Lib.Math.max.name ∈ lw_good := gd_at 1311 (by decide +kernel) (by decide +kernel)
theorem wm_0 : Cond.initialized "java/lang/Math" ∈ lw_good := by decide +kernel
section MINMAX
variable {X : XT} {G : GT} {own : String} {cc : ByteArray} {nL n mc ms : Nat} {kc ks : Nat} {ok : KF} {ad : AD} {σ : SG} {l : List (Nat × Value)} {pc ix a b : Nat} {st : List Value}
theorem v_min (hC : Cx X G own cc nL n mc ms) (d : decode cc pc = .ok (.invokestatic ix, 3)) (hl : Cond.methodLink own ix Lib.Math.min.name ∈ lw_good) (ha : a < 2 ^ 31) (hb : b < 2 ^ 31) (hst : (st.map fun v => v.category).sum ≤ 8) (h1 : kc ≤ mc) (h2 : ks ≤ ms) (k : V X G kc ks ok ad σ l (pc + 3) (iv (min a b) :: st)) : V X G kc ks ok ad σ l pc (iv b :: iv a :: st) := fun H locs ls hR hS hls => by
  obtain ⟨r1, r2, r3, r4⟩ := hC.2.1
  refine va_mmin hC.x hC.b (by show _ = ls.size; exact hls.1.symm) hC.ow (hC.ts _ hl) (hC.ts _ wm_2) (hC.ts _ wm_0) (hC.ts _ wm_3) (by omega) (by omega) (by rw [r3]; exact h1) (by rw [r4]; exact h2) d ?_
  have e : (if nI b < nI a then nI b else nI a) = nI (min a b) := by
    by_cases h : b < a
    · rw [if_pos ((nI_ltI hb ha).mpr h), Nat.min_eq_right (by omega)]
    · rw [if_neg (fun q => h ((nI_ltI hb ha).mp q)), Nat.min_eq_left (by omega)]
  rw [e]
  exact k H locs ls hR hS hls
theorem v_max (hC : Cx X G own cc nL n mc ms) (d : decode cc pc = .ok (.invokestatic ix, 3)) (hl : Cond.methodLink own ix Lib.Math.max.name ∈ lw_good) (ha : a < 2 ^ 31) (hb : b < 2 ^ 31) (hst : (st.map fun v => v.category).sum ≤ 8) (h1 : kc ≤ mc) (h2 : ks ≤ ms) (k : V X G kc ks ok ad σ l (pc + 3) (iv (max a b) :: st)) : V X G kc ks ok ad σ l pc (iv b :: iv a :: st) := fun H locs ls hR hS hls => by
  obtain ⟨r1, r2, r3, r4⟩ := hC.2.1
  refine va_mmax hC.x hC.b (by show _ = ls.size; exact hls.1.symm) hC.ow (hC.ts _ hl) (hC.ts _ wm_5) (hC.ts _ wm_0) (hC.ts _ wm_6) (by omega) (by omega) (by rw [r3]; exact h1) (by rw [r4]; exact h2) d ?_
  have e : (if nI a < nI b then nI b else nI a) = nI (max a b) := by
    by_cases h : a < b
    · rw [if_pos ((nI_ltI ha hb).mpr h), Nat.max_eq_right (by omega)]
    · rw [if_neg (fun q => h ((nI_ltI ha hb).mp q)), Nat.max_eq_left (by omega)]
  rw [e]
  exact k H locs ls hR hS hls
theorem v_alenN {k i j N : Nat} {c : ClassId} {a : (Nat → Int32) ⊕ (Nat → Int64) ⊕ (Nat → UInt32) ⊕ (Nat → UInt64) ⊕ (Nat → Option Nat)} (t0 : Nat) {ty : FieldType} (ht : (TYS G.2.2.1)[t0]? = some (c, ty)) (hC : Cx X G own cc nL n mc ms) (d : decode cc pc = .ok (.arraylength, 1)) (hk : ok k i j) (he : enck G.2.2.1 ad k i j (σ k i j) = .inl (c, N, a)) (kk : V X G kc ks ok ad σ l (pc + 1) (iv N :: st)) : V X G kc ks ok ad σ l pc (.ref (ad k i j) :: st) := v_alen t0 ht hC d hk he kk
end MINMAX
theorem pn_1 : plainName "java/util/ArrayList" = true := by decide +kernel
theorem pn_2 : plainName "java/util/ArrayList$Itr" = true := by decide +kernel
theorem pn_3 : plainName "java/util/Arrays" = true := by decide +kernel
theorem pn_4 : plainName "java/util/AbstractList" = true := by decide +kernel
theorem pn_5 : plainName "java/util/AbstractCollection" = true := by decide +kernel
theorem pn_6 : plainName "jdk/internal/util/ArraysSupport" = true := by decide +kernel
