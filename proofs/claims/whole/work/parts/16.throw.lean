/-! ===== throws of the class's own ===== -/
abbrev xnm : List String := ["java/lang/RuntimeException", "java/lang/Exception"]
def TW (E : String) (ik ic : Nat) : Prop := Cond.classLink "Branchyard" ik E ∈ lw_good ∧ Cond.initialized E ∈ lw_good ∧ (∀ w ∈ vx_atS "Branchyard" ic E xnm, w ∈ lw_good ∨ w ∈ lw_ng) ∧ (∀ w ∈ Cond.classLink "Branchyard" ik E :: Cond.initialized E :: vx_atS "Branchyard" ic E xnm, vx_ot w = true) ∧ Bundle.fit E = true
theorem tw_IOB : TW "java/lang/IndexOutOfBoundsException" 268 272 := ⟨by decide +kernel, by decide +kernel, by decide +kernel, by decide +kernel, by decide +kernel⟩
theorem tw_IAE : TW "java/lang/IllegalArgumentException" 63 67 := ⟨by decide +kernel, by decide +kernel, by decide +kernel, by decide +kernel, by decide +kernel⟩
theorem tw_ISE : TW "java/lang/IllegalStateException" 74 78 := ⟨by decide +kernel, by decide +kernel, by decide +kernel, by decide +kernel, by decide +kernel⟩
theorem tw_UOE : TW "java/lang/UnsupportedOperationException" 151 155 := ⟨by decide +kernel, by decide +kernel, by decide +kernel, by decide +kernel, by decide +kernel⟩
theorem tw_ARE : TW "java/lang/ArithmeticException" 261 265 := ⟨by decide +kernel, by decide +kernel, by decide +kernel, by decide +kernel, by decide +kernel⟩
section THROW
variable {X : XT} {G : GT} {nm : String} {cc : ByteArray} {nL n mc ms : Nat} {kc ks : Nat} {ok : KF} {ad : AD} {σ : SG} {l : List (Nat × Value)} {pc : Nat} {rest : List Value} {Pv : Option Value → MT → Prop} {Px : String → MT → Prop} {r : Option FieldType} {E text : String} {ik is ic : Nat}
theorem v_thr (hC : Cx X G "Branchyard" cc nL n mc ms) (hM : Mx X G nm r Pv Px mc ms) (tw : TW E ik ic) (hs : ("Branchyard", is, text) ∈ strs) (hP : Px E (ok, ad, σ)) (hk : kc + 1 ≤ mc) (hs2 : ks + 6 ≤ ms) (hrest : (rest.map fun v => v.category).sum ≤ 8)
    (d0 : decode cc pc = .ok (.new ik, 3)) (d3 : decode cc (pc + 3) = .ok (.dup, 1)) (d4 : decode cc (pc + 4) = .ok (.ldc is, 2)) (d6 : decode cc (pc + 6) = .ok (.invokespecial ic, 3)) (d9 : decode cc (pc + 9) = .ok (.athrow, 1)) : V X G kc ks ok ad σ l pc rest := fun H locs ls hR hS hl => by
  obtain ⟨a, hstr⟩ := hC.2.2.1.2.1.2.1 _ hs
  obtain ⟨r1, r2, r3, r4⟩ := hC.2.1
  rw [hM.Q]
  refine vx_throwS (names := xnm) (text := text) (sa := a) hC.x hC.b hC.2.2.2.2 hC.ow tw.2.2.2.2 (by decide +kernel) (hC.ts _ tw.1) (hC.ts _ tw.2.1) hstr (fun w hw => (tw.2.2.1 w hw).elim (hC.ts w) hC.ng) tw.2.2.2.1 hC.2.2.1.2.1.2.2.1 hC.2.2.1.2.1.2.2.2.1 hS hl.1 d0 d3 d4 d6 d9 (fun z hz => (hM.2.2.1 z hz).elim) (by show 2 + 3 < _; omega) (by show _ + (13 * (2 + 1) + 43) ≤ _; omega) (by rw [r3]; exact hk) (by rw [r4]; exact hs2) hC.locks
    (fun t ht hsz hkp => ⟨⟨(ok, ad, σ), hP, ⟨fun k i j q => ⟨(hR.1 k i j q).1.kept (hkp _ (hR.lt q)), (hR.1 k i j q).2⟩, hR.2⟩⟩, Nat.le_trans hS.1 hsz, fun q h1 h2 => by rw [hkp q (Nat.lt_of_lt_of_le h1 hS.1)]; exact hS.2.1 q h1 h2⟩) hS.2.2 hk hs2
theorem v_thrW (hC : Cx X G "Branchyard" cc nL n mc ms) (hM : Mx X G nm r Pv Px mc ms) (tw : TW E ik ic) (hs : ("Branchyard", is, text) ∈ strs) (hP : Px E (ok, ad, σ)) (hk : kc + 1 ≤ mc) (hs2 : ks + 6 ≤ ms) (hrest : (rest.map fun v => v.category).sum ≤ 8)
    (d0 : decode cc pc = .ok (.new ik, 3)) (d3 : decode cc (pc + 3) = .ok (.dup, 1)) (d4 : decode cc (pc + 4) = .ok (.ldc_w is, 3)) (d6 : decode cc (pc + 7) = .ok (.invokespecial ic, 3)) (d9 : decode cc (pc + 10) = .ok (.athrow, 1)) : V X G kc ks ok ad σ l pc rest := fun H locs ls hR hS hl => by
  obtain ⟨a, hstr⟩ := hC.2.2.1.2.1.2.1 _ hs
  obtain ⟨r1, r2, r3, r4⟩ := hC.2.1
  rw [hM.Q]
  refine vx_throwSW (names := xnm) (text := text) (sa := a) hC.x hC.b hC.2.2.2.2 hC.ow tw.2.2.2.2 (by decide +kernel) (hC.ts _ tw.1) (hC.ts _ tw.2.1) hstr (fun w hw => (tw.2.2.1 w hw).elim (hC.ts w) hC.ng) tw.2.2.2.1 hC.2.2.1.2.1.2.2.1 hC.2.2.1.2.1.2.2.2.1 hS hl.1 d0 d3 d4 d6 d9 (fun z hz => (hM.2.2.1 z hz).elim) (by show 2 + 3 < _; omega) (by show _ + (13 * (2 + 1) + 43) ≤ _; omega) (by rw [r3]; exact hk) (by rw [r4]; exact hs2) hC.locks
    (fun t ht hsz hkp => ⟨⟨(ok, ad, σ), hP, ⟨fun k i j q => ⟨(hR.1 k i j q).1.kept (hkp _ (hR.lt q)), (hR.1 k i j q).2⟩, hR.2⟩⟩, Nat.le_trans hS.1 hsz, fun q h1 h2 => by rw [hkp q (Nat.lt_of_lt_of_le h1 hS.1)]; exact hS.2.1 q h1 h2⟩) hS.2.2 hk hs2
end THROW
