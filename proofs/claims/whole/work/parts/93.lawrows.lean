/-! ===== methods that catch, and calls of them ===== -/
def exs : List String := [eIOB, eIAE, eISE, eUOE, eARE, eNSE]
def ncs : List (String × String) := (exs.flatMap fun a => exs.map fun b => (a, b)).filter fun q => !(q.1 == q.2)
def NC (U : State) : Prop := ∀ q ∈ ncs, va_Nc q.1 q.2 U
theorem nc_at {U : State} (h : NC U) {a b : String} (hq : (a, b) ∈ ncs := by decide +kernel) : va_Nc a b U := h (a, b) hq
def CtN (l : Launch) (G : GT) (n : Nat) (y : MethodName) (cc : ByteArray) (nL : Nat) (ret : Option FieldType) (hh : List (Nat × Nat × Nat × Nat)) (av : List Value) (ok : KF) (ad : AD) (σ : SG) (Pv : Option Value → MT → Prop) (mc ms : Nat) : Prop :=
  vx_Met l y (Cond.codeWith y cc nL ret hh :: lw_good) (rmL n mc ms) (va_Pc av (fun U => PreU G ok ad σ U ∧ NC U)) (QcM G Pv) (XcM G NX) mc ms (AB G)
def MxN (X : XT) (G : GT) (ret : Option FieldType) (hh : List (Nat × Nat × Nat × Nat)) (Pv : Option Value → MT → Prop) (mc ms : Nat) : Prop :=
  (xk X).sig.returnType = ret ∧ (xc X).exceptionTable.toList = tableOf hh ∧ xQ X = vx_MQ (xb X) (QcM G Pv) (XcM G NX) (xa X) (xs X) mc ms (AB G)
theorem CtN.mk {l : Launch} {G : GT} {n : Nat} {y : MethodName} {cc : ByteArray} {nL : Nat} {ret : Option FieldType} {hh : List (Nat × Nat × Nat × Nat)} {av : List Value} {ok : KF} {ad : AD} {σ : SG} {Pv : Option Value → MT → Prop} {mc ms : Nat}
    (hy : plainName y.cls = true) (hl0 : l.stackTraces = false) (hsz : (lg_sl av).length ≤ nL)
    (body : ∀ X : XT, xl X = l → Cx X G y.cls cc nL n mc ms → NC (xs X) → MxN X G ret hh Pv mc ms → V X G 0 0 ok ad σ (lv_args 0 av) 0 []) : CtN l G n y cc nL ret hh av ok ad σ Pv mc ms := by
  refine vx_ofWH hy rfl ?_
  intro p e s m args below meth c s₁ B hml hv
  obtain ⟨rfl, ⟨hR, hE⟩, hN⟩ := hv
  have hpre := atoms_spec (ws := Cond.codeWith y cc nL ret hh :: lw_good) B.pre
  have hX := body (p, l, e, rmL n mc ms, s, m, av.toArray, below, meth, c, vx_MQ below (QcM G Pv) (XcM G NX) av.toArray s mc ms (AB G)) rfl
    ⟨⟨B.exec, B.bytes, hml, findClass_of_methodNamed B.named, fun w h => hpre w (List.mem_cons_of_mem _ h)⟩, ⟨Nat.le_refl _, Nat.le_refl _, rfl, rfl⟩, hE, B.notSynchronized, hl0⟩ hN
    ⟨B.returns, vx_table (x := y) B (hpre _ List.mem_cons_self), rfl⟩
  have hl := lv_entry av hsz
  rw [lg_entry_eq]
  exact hX s.heap [] _ hR va_S.rf (by show lv_has _ c.maxLocals _; rw [hml]; exact hl)
theorem pcN_blind {av : List Value} {G : GT} {ok : KF} {ad : AD} {σ : SG} : FrameBlind (va_Pc av (fun U => PreU G ok ad σ U ∧ NC U)) := fun a U g mk h =>
  ⟨h.1, (pc_blind a U g mk ⟨h.1, h.2.1⟩).2, fun q hq => va_Nc.moved (Vm.Alike.refl U.vm) (h.2.2 q hq)⟩
def LkSW (own : String) (ix : Nat) (y : MethodName) (bytes : ByteArray) (nL1 : Nat) (ret : Option FieldType) (hh : List (Nat × Nat × Nat × Nat)) (np : Nat) : Prop :=
  (Cond.codeWith y bytes nL1 ret hh ∈ lw_good ∧ Cond.methodLink own ix y ∈ lw_good ∧ Cond.static y ∈ lw_good ∧ Cond.initialized y.cls ∈ lw_good) ∧ LkY y np
section LAWR
variable {X : XT} {G : GT} {own nm : String} {cc : ByteArray} {nL n mc ms : Nat} {kc ks : Nat} {ok : KF} {ad : AD} {σ : SG} {l : List (Nat × Value)} {pc : Nat} {st st0 rest As : List Value}
variable {y : MethodName} {bytes : ByteArray} {nL1 n1 mc1 ms1 ix : Nat} {ret : Option FieldType} {Pv : Option Value → MT → Prop} {hh : List (Nat × Nat × Nat × Nat)}
theorem v_iretN {x : Int32} (hC : Cx X G own cc nL n mc ms) (hM : MxN X G (some .int) hh Pv mc ms) (d : decode cc pc = .ok (.ireturn, 1)) (hk : kc ≤ mc) (hs : ks ≤ ms) (hP : Pv (some (.int x)) (ok, ad, σ)) : V X G kc ks ok ad σ l pc [.int x] := fun H locs ls hR hS hl => by
  rw [hM.2.2]
  exact W.widen hk hs (vx_ret (W.iret hC.x hC.b hM.1 (fun t ht hW => ⟨⟨_, (ok, ad, σ), rfl, hP, by rw [ht]; exact hR⟩, hS.F ht⟩) hS.2.2 d hC.locks))
/-- caught by a row of this method's table -/
theorem v_catch {E name : String} (hC : Cx X G own cc nL n mc ms) (pre : List ExceptionTableEntry) (x : ExceptionTableEntry) (suf : List ExceptionTableEntry) (hsplit : (xc X).exceptionTable.toList = pre ++ x :: suf)
    (hpass : ∀ z ∈ pre, z.catchType ≠ 0 ∧ ∃ nm : String, Cond.classLink own z.catchType nm ∈ lw_good ∧ va_Nc E nm (xs X)) (hx : covers x pc = true) (h0 : x.catchType ≠ 0)
    (hlink : Cond.classLink own x.catchType name ∈ lw_good) (hcast : Cond.castable E name ∈ lw_ng) (k : ∀ q, V X G kc ks ok ad σ l x.handlerPc [.ref q]) : VX X G kc ks ok ad σ l pc E st := fun H locs ls q ce hR hS hl hq hv hcl =>
  vx_catch hC.ow pre x suf hsplit (fun z hz => .inr (by obtain ⟨a, nm, b, c⟩ := hpass z hz; exact ⟨a, nm, hC.ts _ b, c⟩)) hx h0 (hC.ts _ hlink) (hC.ng hcast) hq hv hcl (k q H locs ls hR hS hl)
theorem v_callSN {np : Nat} (hC : Cx X G own cc nL n mc ms) (hN : NC (xs X)) (lk : LkSW own ix y bytes nL1 ret hh np) (d : decode cc pc = .ok (.invokestatic ix, 3)) (hM : CtN (xl X) G n1 y bytes nL1 ret hh As ok ad σ Pv mc1 ms1) (hn : n1 < n) (hnL : nL1 ≤ 40)
    (hst : st0 = As.reverse ++ rest) (hnp : As.length = np) (hW : (rest.map fun v => v.category).sum ≤ 8) (h1 : kc + mc1 ≤ mc) (h2 : ks + ms1 ≤ ms)
    (kk : ∀ v μ, Pv v μ → V X G (kc + mc1) (ks + ms1) μ.1 μ.2.1 μ.2.2 l (pc + 3) (v.toList ++ rest)) : V X G kc ks ok ad σ l pc st0 := by
  subst hst
  obtain ⟨⟨k1, k2, k3, k4⟩, k5⟩ := lk
  have gi : GoodIn lw_good (va_wsS own ix y (Cond.codeWith y bytes nL1 ret hh :: lw_good)) := fun w hw => by
    rcases List.mem_append.mp hw with q | q
    · simp only [List.mem_cons, List.not_mem_nil, or_false] at q
      rcases q with rfl | rfl | rfl
      · exact ⟨k2, good_of_word (gd_ok k2)⟩
      · exact ⟨k3, good_of_word (gd_ok k3)⟩
      · exact ⟨k4, good_of_word (gd_ok k4)⟩
    · exact gd_good k1 w q
  have cw := vx_cwSW (R := xR X) (args := xa X) (rm := rmL n1 mc1 ms1) (mc := mc1) (ms := ms1) np hC.ts gi rfl rfl rfl k5 (hC.rm hn hnL)
  refine v_run (Px := NX) (a := As.toArray) (fun H locs ls hR hS hl => ?_) kk (fun _ _ h => h.elim)
  exact vx_runSX (As := As) (rest := rest) hC.fix hM cw ⟨pcN_blind, fun U hU hW => ⟨rfl, ⟨by rw [hU]; exact hR, by rw [hU]; exact hC.env hS hW⟩, fun q hq => va_Nc.moved hW.alike (hN q hq)⟩⟩ rfl hnp (by show ls.size = nL; rw [hl.1, hC.ml]) rfl (lv_room hW) d (hC.hf h1 h2)
end LAWR
/-- a long as a number -/
def wN (z : Int64) : Nat := z.toUInt64.toNat
theorem lN_wN (z : Int64) : lN (wN z) = z := by
  unfold wN lN
  first
  | exact Int64.ofNat_toNat_toUInt64 z
  | (apply Int64.toBitVec_inj.mp; simp)
  | simp
  | (apply Int64.toBitVec_inj.mp; apply BitVec.eq_of_toNat_eq; simp)
def wI (n : Nat) : Nat := wN (nI n).toInt64
def wB (n : Nat) : Nat := if nI n = 0 then 0 else 1
/-- what a catching call says: a code, or nothing and the answer written down -/
def WrP (wf : Nat → Nat) (cd : String → Nat) (Pv : Option Value → MT → Prop) (Px : String → MT → Prop) : Option Value → MT → Prop := fun v μ => (∃ E, Px E μ ∧ v = some (iv (cd E))) ∨ ∃ n μ0, Pv (some (iv n)) μ0 ∧ v = some (iv 0) ∧ μ = (μ0.1, μ0.2.1, up μ0.2.2 60 0 0 0 (wf n))
