/-! ===== contracts over the picture ===== -/
def PreU (G : GT) (ok : KF) (ad : AD) (σ : SG) (U : State) : Prop := Rep G ok ad σ U.heap ∧ Env0 G U U.heap
def QcM (G : GT) (Pv : Option Value → MT → Prop) : Array Value → State → Outcome → State → Prop := fun _ st oc t => (∃ (v : Option Value) (μ : MT), oc = .returned v ∧ Pv v μ ∧ Rep G μ.1 μ.2.1 μ.2.2 t.heap) ∧ va_F (AB G) st t
def XcM (G : GT) (Px : String → MT → Prop) : String → State → State → Prop := fun E st t => (∃ μ : MT, Px E μ ∧ Rep G μ.1 μ.2.1 μ.2.2 t.heap) ∧ va_F (AB G) st t
def Ct (l : Launch) (G : GT) (n : Nat) (y : MethodName) (cc : ByteArray) (nL : Nat) (ret : Option FieldType) (av : List Value) (ok : KF) (ad : AD) (σ : SG) (Pv : Option Value → MT → Prop) (Px : String → MT → Prop) (mc ms : Nat) : Prop :=
  vx_Met l y (Cond.code y cc nL ret :: lw_good) (rmL n mc ms) (va_Pc av (PreU G ok ad σ)) (QcM G Pv) (XcM G Px) mc ms (AB G)
/-- what a method's body owes -/
def Mx (X : XT) (G : GT) (nm : String) (ret : Option FieldType) (Pv : Option Value → MT → Prop) (Px : String → MT → Prop) (mc ms : Nat) : Prop :=
  (xk X).sig.returnType = ret ∧ (xk X).name = nm ∧ (∀ z ∈ (xc X).exceptionTable.toList, False) ∧ xQ X = vx_MQ (xb X) (QcM G Pv) (XcM G Px) (xa X) (xs X) mc ms (AB G)
theorem Ct.mk {l : Launch} {G : GT} {n : Nat} {y : MethodName} {cc : ByteArray} {nL : Nat} {ret : Option FieldType} {av : List Value} {ok : KF} {ad : AD} {σ : SG} {Pv : Option Value → MT → Prop} {Px : String → MT → Prop} {mc ms : Nat}
    (hy : plainName y.cls = true) (hl0 : l.stackTraces = false) (hsz : (lg_sl av).length ≤ nL)
    (body : ∀ X : XT, xl X = l → Cx X G y.cls cc nL n mc ms → Mx X G y.name ret Pv Px mc ms → V X G 0 0 ok ad σ (lv_args 0 av) 0 []) : Ct l G n y cc nL ret av ok ad σ Pv Px mc ms := by
  refine vx_ofW hy rfl ?_
  intro p e s m args below meth c s₁ B hml hex hv
  obtain ⟨rfl, hR, hE⟩ := hv
  have hpre := atoms_spec (ws := Cond.code y cc nL ret :: lw_good) B.pre
  have hX := body (p, l, e, rmL n mc ms, s, m, av.toArray, below, meth, c, vx_MQ below (QcM G Pv) (XcM G Px) av.toArray s mc ms (AB G)) rfl
    ⟨⟨B.exec, B.bytes, hml, findClass_of_methodNamed B.named, fun w h => hpre w (List.mem_cons_of_mem _ h)⟩, ⟨Nat.le_refl _, Nat.le_refl _, rfl, rfl⟩, hE, B.notSynchronized, hl0⟩
    ⟨B.returns, (name_of_methodNamed B.named B.method).1, hex, rfl⟩
  have hl := lv_entry av hsz
  rw [lg_entry_eq]
  exact hX s.heap [] _ hR va_S.rf (by show lv_has _ c.maxLocals _; rw [hml]; exact hl)
section RETS
variable {X : XT} {G : GT} {own nm : String} {cc : ByteArray} {nL n mc ms : Nat} {kc ks : Nat} {ok : KF} {ad : AD} {σ : SG} {l : List (Nat × Value)} {pc : Nat} {Pv : Option Value → MT → Prop} {Px : String → MT → Prop}
theorem Mx.ret {r : Option FieldType} (h : Mx X G nm r Pv Px mc ms) : (xk X).sig.returnType = r := h.1
theorem Mx.Q {r : Option FieldType} (h : Mx X G nm r Pv Px mc ms) : xQ X = vx_MQ (xb X) (QcM G Pv) (XcM G Px) (xa X) (xs X) mc ms (AB G) := h.2.2.2
theorem v_iret {x : Int32} (hC : Cx X G own cc nL n mc ms) (hM : Mx X G nm (some .int) Pv Px mc ms) (d : decode cc pc = .ok (.ireturn, 1)) (hk : kc ≤ mc) (hs : ks ≤ ms) (hP : Pv (some (.int x)) (ok, ad, σ)) : V X G kc ks ok ad σ l pc [.int x] := fun H locs ls hR hS hl => by
  rw [hM.Q]
  exact W.widen hk hs (vx_ret (W.iret hC.x hC.b hM.ret (fun t ht hW => ⟨⟨_, (ok, ad, σ), rfl, hP, by rw [ht]; exact hR⟩, hS.F ht⟩) hS.2.2 d hC.locks))
theorem v_zret {x : Int32} {ty : FieldType} (hC : Cx X G own cc nL n mc ms) (hM : Mx X G nm (some ty) Pv Px mc ms) (d : decode cc pc = .ok (.ireturn, 1)) (hn : narrow ty (.int x) = .int x) (hk : kc ≤ mc) (hs : ks ≤ ms) (hP : Pv (some (.int x)) (ok, ad, σ)) : V X G kc ks ok ad σ l pc [.int x] := fun H locs ls hR hS hl => by
  rw [hM.Q]
  exact W.widen hk hs (vx_ret (W.zret hC.x hC.b hM.ret hn (fun t ht hW => ⟨⟨_, (ok, ad, σ), rfl, hP, by rw [ht]; exact hR⟩, hS.F ht⟩) hS.2.2 d hC.locks))
theorem v_vret (hC : Cx X G own cc nL n mc ms) (hM : Mx X G nm none Pv Px mc ms) (d : decode cc pc = .ok (.return_, 1)) (hk : kc ≤ mc) (hs : ks ≤ ms) (hP : Pv none (ok, ad, σ)) : V X G kc ks ok ad σ l pc [] := fun H locs ls hR hS hl => by
  rw [hM.Q]
  exact W.widen hk hs (vx_ret (W.vret hC.x hC.b hM.ret (fun t ht hW => ⟨⟨_, (ok, ad, σ), rfl, hP, by rw [ht]; exact hR⟩, hS.F ht⟩) hS.2.2 d hC.locks))
theorem v_lret {x : Int64} (hC : Cx X G own cc nL n mc ms) (hM : Mx X G nm (some .long) Pv Px mc ms) (d : decode cc pc = .ok (.lreturn, 1)) (hk : kc ≤ mc) (hs : ks ≤ ms) (hP : Pv (some (.long x)) (ok, ad, σ)) : V X G kc ks ok ad σ l pc [.long x] := fun H locs ls hR hS hl => by
  rw [hM.Q]
  exact W.widen hk hs (vx_ret (W.lret hC.x hC.b hM.ret (fun t ht hW => ⟨⟨_, (ok, ad, σ), rfl, hP, by rw [ht]; exact hR⟩, hS.F ht⟩) hS.2.2 d hC.locks))
theorem v_fret {x : UInt32} (hC : Cx X G own cc nL n mc ms) (hM : Mx X G nm (some .float) Pv Px mc ms) (d : decode cc pc = .ok (.freturn, 1)) (hk : kc ≤ mc) (hs : ks ≤ ms) (hP : Pv (some (.float x)) (ok, ad, σ)) : V X G kc ks ok ad σ l pc [.float x] := fun H locs ls hR hS hl => by
  rw [hM.Q]
  exact W.widen hk hs (vx_ret (W.fret hC.x hC.b hM.ret (fun t ht hW => ⟨⟨_, (ok, ad, σ), rfl, hP, by rw [ht]; exact hR⟩, hS.F ht⟩) hS.2.2 d hC.locks))
theorem v_dret {x : UInt64} (hC : Cx X G own cc nL n mc ms) (hM : Mx X G nm (some .double) Pv Px mc ms) (d : decode cc pc = .ok (.dreturn, 1)) (hk : kc ≤ mc) (hs : ks ≤ ms) (hP : Pv (some (.double x)) (ok, ad, σ)) : V X G kc ks ok ad σ l pc [.double x] := fun H locs ls hR hS hl => by
  rw [hM.Q]
  exact W.widen hk hs (vx_ret (W.dret hC.x hC.b hM.ret (fun t ht hW => ⟨⟨_, (ok, ad, σ), rfl, hP, by rw [ht]; exact hR⟩, hS.F ht⟩) hS.2.2 d hC.locks))
theorem v_aret {v : Value} {rt : FieldType} (hC : Cx X G own cc nL n mc ms) (hM : Mx X G nm (some rt) Pv Px mc ms) (d : decode cc pc = .ok (.areturn, 1)) (hrt : (∃ n, rt = .object n) ∨ ∃ t, rt = .array t) (hv : v = .null ∨ ∃ a, v = .ref a) (hk : kc ≤ mc) (hs : ks ≤ ms) (hP : Pv (some v) (ok, ad, σ)) : V X G kc ks ok ad σ l pc [v] := fun H locs ls hR hS hl => by
  rw [hM.Q]
  exact W.widen hk hs (vx_ret (W.aret hC.x hC.b hM.ret hrt hv (fun t ht hW => ⟨⟨_, (ok, ad, σ), rfl, hP, by rw [ht]; exact hR⟩, hS.F ht⟩) hS.2.2 d hC.locks))
/-- a thing thrown leaves the method -/
theorem v_out {r : Option FieldType} {E : String} {st : List Value} (hC : Cx X G own cc nL n mc ms) (hM : Mx X G nm r Pv Px mc ms) (hk : kc ≤ mc) (hs : ks ≤ ms) (hP : Px E (ok, ad, σ)) : VX X G kc ks ok ad σ l pc E st := fun H locs ls q ce hR hS hl hq hv hcl => by
  rw [hM.Q]
  exact vx_out (fun z hz => (hM.2.2.1 z hz).elim) hC.locks hq hv hcl (fun t ht hW => ⟨⟨(ok, ad, σ), hP, by rw [ht]; exact hR⟩, hS.F ht⟩) hS.2.2 hk hs
end RETS
/-! ===== calls ===== -/
theorem pc_blind {av : List Value} {G : GT} {ok : KF} {ad : AD} {σ : SG} : FrameBlind (va_Pc av (PreU G ok ad σ)) := fun a U g mk h => by
  obtain ⟨h1, h2, h3, h4, h5⟩ := h
  refine ⟨h1, h2, va_K.moved (u := U) (U := U.calling g mk a) (Vm.Alike.refl U.vm) h3, ?_, h5⟩
  obtain ⟨g1, g2, g3, g4, g5, g6, g7, g8⟩ := h4
  exact ⟨⟨fun w hw => va_Nw.same (u := U) (U := U.calling g mk a) (ng_tables (List.mem_filter.mp hw).2) rfl (g1.1 w hw), fun t ht => AOt.moved (u := U) (U := U.calling g mk a) (Vm.Alike.refl U.vm) (g1.2 t ht)⟩, fun q hq => by
    obtain ⟨b, hb⟩ := g2 q hq
    exact ⟨b, vk_R.same (u := U) (U := U.calling g mk a) rfl hb⟩, vx_Zq.moved (u := U) (U := U.calling g mk a) (Vm.Alike.refl U.vm) g3, vx_Zq.moved (u := U) (U := U.calling g mk a) (Vm.Alike.refl U.vm) g4, va_Z.moved (u := U) (U := U.calling g mk a) (Vm.Alike.refl U.vm) g5, g6, va_Mi.moved (u := U) (U := U.calling g mk a) (Vm.Alike.refl U.vm) g7, fun q hq => va_Fw.moved (u := U) (U := U.calling g mk a) (fws_ne q hq) (Vm.Alike.refl U.vm) (g8 q hq)⟩
section CALLS
variable {X : XT} {G : GT} {own nm : String} {cc : ByteArray} {nL n mc ms : Nat} {kc ks : Nat} {ok : KF} {ad : AD} {σ : SG} {l : List (Nat × Value)} {pc : Nat} {st0 rest As : List Value}
variable {y : MethodName} {bytes : ByteArray} {nL1 n1 mc1 ms1 ix : Nat} {ret : Option FieldType} {Pv : Option Value → MT → Prop} {Px : String → MT → Prop}
theorem v_run {a : Array Value} (hr : ∀ (H : Heap) (locs : List Loc) (ls : Array Slot), Rep G ok ad σ H → va_S (AB G) (xs X).heap H locs → lv_has ls (xc X).maxLocals l → vx_Run (xp X) (xl X) (xe X) (xR X) (xs X) (xm X) (xa X) (xb X) (xk X) (xc X) H locs kc ks mc1 ms1 (F0 (xm X) pc ls st0) rest (QcM G Pv a) (XcM G Px) (AB G))
    (kk : ∀ v μ, Pv v μ → V X G (kc + mc1) (ks + ms1) μ.1 μ.2.1 μ.2.2 l (pc + 3) (v.toList ++ rest)) (kx : ∀ E μ, Px E μ → VX X G (kc + mc1) (ks + ms1) μ.1 μ.2.1 μ.2.2 l pc E rest) : V X G kc ks ok ad σ l pc st0 := fun H locs ls hR hS hl => by
  intro T hT Xs
  rcases hr H locs ls hR hS hl T hT Xs with ⟨v, st₀, t, T', L, h0, X', hL, e1, e2, ⟨⟨v', μ, hv, hp, hrep⟩, hF⟩, st⟩ | ⟨q, st₀, t, T', L, E, ce, h0, X', hL, e1, e2, ⟨⟨μ, hp, hrep⟩, hF⟩, hce, hcv, hcl, st⟩
  · cases hv
    obtain ⟨k1, k2, k3⟩ := vx_keep h0 e1 hS (fun _ _ h => h) (fun _ h => h) hL hF
    obtain ⟨t2, a1, b1⟩ := kk v μ hp T'.heap (locs ++ L) ls (by rw [e1]; exact hrep) k3 hl T' rfl X'
    exact ⟨t2, st t2 a1, b1⟩
  · obtain ⟨k1, k2, k3⟩ := vx_keep h0 e1 hS (fun _ _ h => h) (fun _ h => h) hL hF
    obtain ⟨t2, a1, b1⟩ := kx E μ hp T'.heap (locs ++ L) ls q ce (by rw [e1]; exact hrep) k3 hl (by rw [e1]; exact hce) hcv hcl T' rfl X'
    exact ⟨t2, st.trans a1, b1⟩
/-- the words of a call -/
def LkY (y : MethodName) (np : Nat) : Prop := y.cls ≠ "java/lang/invoke/MethodHandle" ∧ y.cls ≠ "java/lang/invoke/VarHandle" ∧ (parseMethodDescriptor y.desc).map (fun d => d.parameters.length) = some np
def LkV (own : String) (ix : Nat) (y : MethodName) (bytes : ByteArray) (nL1 : Nat) (ret : Option FieldType) (np : Nat) : Prop :=
  (Cond.code y bytes nL1 ret ∈ lw_good ∧ Cond.methodLink own ix y ∈ lw_good ∧ Cond.instanceMethod y ∈ lw_good ∧ Cond.selects y.cls y y ∈ lw_good ∧ Cond.initialized y.cls ∈ lw_good) ∧ LkY y np
def LkVN (own : String) (ix : Nat) (y : MethodName) (host : String) (bytes : ByteArray) (nL1 : Nat) (ret : Option FieldType) (np : Nat) : Prop :=
  (Cond.code y bytes nL1 ret ∈ lw_good ∧ Cond.methodLinkNest own ix y host ∈ lw_ng ∧ Cond.instanceMethod y ∈ lw_good ∧ Cond.selects y.cls y y ∈ lw_good ∧ Cond.initialized y.cls ∈ lw_good) ∧ LkY y np
def LkS (own : String) (ix : Nat) (y : MethodName) (bytes : ByteArray) (nL1 : Nat) (ret : Option FieldType) (np : Nat) : Prop :=
  (Cond.code y bytes nL1 ret ∈ lw_good ∧ Cond.methodLink own ix y ∈ lw_good ∧ Cond.static y ∈ lw_good ∧ Cond.initialized y.cls ∈ lw_good) ∧ LkY y np
def LkI (own : String) (ix : Nat) (y : MethodName) (bytes : ByteArray) (nL1 : Nat) (np : Nat) : Prop :=
  (Cond.code y bytes nL1 none ∈ lw_good ∧ Cond.methodLink own ix y ∈ lw_good ∧ Cond.instanceMethod y ∈ lw_good ∧ Cond.initialized y.cls ∈ lw_good ∧ y.name = "<init>") ∧ LkY y np
def LkIN (own : String) (ix : Nat) (y : MethodName) (host : String) (bytes : ByteArray) (nL1 : Nat) (np : Nat) : Prop :=
  (Cond.code y bytes nL1 none ∈ lw_good ∧ Cond.methodLinkNest own ix y host ∈ lw_ng ∧ Cond.instanceMethod y ∈ lw_good ∧ Cond.initialized y.cls ∈ lw_good ∧ y.name = "<init>") ∧ LkY y np
theorem Cx.fix (hC : Cx X G own cc nL n mc ms) : CallFix (xp X) (xm X) (xc X) cc nL (xs X) (xa X) lw_good own := ⟨hC.x, hC.b, hC.ml, hC.ow, hC.ts⟩
theorem Cx.pre (hC : Cx X G own cc nL n mc ms) {H : Heap} {locs : List Loc} (hR : Rep G ok ad σ H) (hS : va_S (AB G) (xs X).heap H locs) {av : List Value} : PreS (xs X) H (va_Pc av (PreU G ok ad σ)) av :=
  ⟨pc_blind, fun U hU hW => ⟨rfl, by rw [hU]; exact hR, by rw [hU]; exact hC.env hS hW⟩⟩
theorem Cx.rm (hC : Cx X G own cc nL n mc ms) (hn : n1 < n) (hnL : nL1 ≤ 40) : (rmL n1 mc1 ms1).frames + 1 ≤ (xR X).frames ∧ 8 + (nL1 + 11) + (rmL n1 mc1 ms1).locals ≤ (xR X).locals := by
  obtain ⟨h1, h2, -, -⟩ := hC.2.1
  exact ⟨by show 10 * n1 + 10 + 1 ≤ _; omega, by show 8 + (nL1 + 11) + (120 * n1 + 150) ≤ _; omega⟩
theorem Cx.cb {np : Nat} (hC : Cx X G own cc nL n mc ms) (hn : n1 < n) (hnL : nL1 ≤ 40) (h1 : Cond.code y bytes nL1 ret ∈ lw_good) (h2 : Cond.methodLink own ix y ∈ lw_good) (h3 : Cond.initialized y.cls ∈ lw_good) (h4 : LkY y np) : CallB (xR X) (xs X) (xa X) own ix y bytes nL1 ret (Cond.code y bytes nL1 ret :: lw_good) (rmL n1 mc1 ms1) mc1 ms1 np :=
  callB_of np hC.ts (gd_good h1) rfl rfl rfl (hC.ts _ h3) (hC.ts _ h2) h4 (hC.rm hn hnL)
theorem Cx.cn {np : Nat} {host : String} (hC : Cx X G own cc nL n mc ms) (hn : n1 < n) (hnL : nL1 ≤ 40) (h1 : Cond.code y bytes nL1 ret ∈ lw_good) (h2 : Cond.methodLinkNest own ix y host ∈ lw_ng) (h3 : Cond.initialized y.cls ∈ lw_good) (h4 : LkY y np) : va_CN (xR X) (xs X) (xa X) own ix y host bytes nL1 ret (Cond.code y bytes nL1 ret :: lw_good) (rmL n1 mc1 ms1) mc1 ms1 np :=
  va_cnB np hC.ts (gd_good h1) rfl rfl rfl (hC.nw h2) (hC.ts _ h3) h4 (hC.rm hn hnL)
theorem Cx.rec (hC : Cx X G own cc nL n mc ms) {k i j ci b : Nat} {fs : List Value} {r : vw_C} (hk : ok k i j) (he : enck G.2.2.1 ad k i j (σ k i j) = .inr (ci, fs)) (hc : CL[ci]? = some r) (hb : b = ad k i j) {H : Heap} (hR : Rep G ok ad σ H) : ∃ cell : Cell, H[b]? = some cell ∧ cell.vm.isStatics = false ∧ (xs X).vm.findClass r.1 = some cell.cls := by
  subst hb
  exact va_recv hC.K (hR.one hk he) (q0 := 0) (ci := ci) (fs := fs) hc rfl
theorem Cx.hf (hC : Cx X G own cc nL n mc ms) (h1 : kc + mc1 ≤ mc) (h2 : ks + ms1 ≤ ms) : kc + mc1 ≤ (xR X).cells ∧ ks + ms1 ≤ (xR X).slots := by
  rw [hC.2.1.2.2.1, hC.2.1.2.2.2]
  exact ⟨h1, h2⟩
theorem v_callV {np k i j ci : Nat} {fs : List Value} {T : u_T} {N : Nat} (hC : Cx X G own cc nL n mc ms) (lk : LkV own ix y bytes nL1 ret np) (d : decode cc pc = .ok (.invokevirtual ix, 3)) (hM : Ct (xl X) G n1 y bytes nL1 ret (.ref (ad k i j) :: As) ok ad σ Pv Px mc1 ms1) (hn : n1 < n) (hnL : nL1 ≤ 40) (hk : ok k i j) (he : enck G.2.2.1 ad k i j (σ k i j) = .inr (ci, fs)) (hc : CL[ci]? = some (y.cls, T, N))
    (hst : st0 = As.reverse ++ .ref (ad k i j) :: rest) (hnp : As.length = np) (hW : (rest.map fun v => v.category).sum ≤ 8) (h1 : kc + mc1 ≤ mc) (h2 : ks + ms1 ≤ ms)
    (kk : ∀ v μ, Pv v μ → V X G (kc + mc1) (ks + ms1) μ.1 μ.2.1 μ.2.2 l (pc + 3) (v.toList ++ rest)) (kx : ∀ E μ, Px E μ → VX X G (kc + mc1) (ks + ms1) μ.1 μ.2.1 μ.2.2 l pc E rest) : V X G kc ks ok ad σ l pc st0 := by
  subst hst
  refine v_run (a := (Value.ref (ad k i j) :: As).toArray) (fun H locs ls hR hS hl => ?_) kk kx
  exact vx_runV (C := y.cls) (b := ad k i j) (As := As) (rest := rest) hC.fix hM ⟨hC.cb hn hnL lk.1.1 lk.1.2.1 lk.1.2.2.2.2 lk.2, hC.ts _ lk.1.2.2.1, hC.ts _ lk.1.2.2.2.1⟩ ⟨pc_blind, hC.rec hk he hc rfl hR, (hC.pre hR hS).2⟩ rfl hnp (by show ls.size = nL; rw [hl.1, hC.ml]) rfl (lv_room hW) d (hC.hf h1 h2)
theorem v_callVN {np k i j ci : Nat} {host : String} {fs : List Value} {T : u_T} {N : Nat} (hC : Cx X G own cc nL n mc ms) (lk : LkVN own ix y host bytes nL1 ret np) (d : decode cc pc = .ok (.invokevirtual ix, 3)) (hM : Ct (xl X) G n1 y bytes nL1 ret (.ref (ad k i j) :: As) ok ad σ Pv Px mc1 ms1) (hn : n1 < n) (hnL : nL1 ≤ 40) (hk : ok k i j) (he : enck G.2.2.1 ad k i j (σ k i j) = .inr (ci, fs)) (hc : CL[ci]? = some (y.cls, T, N))
    (hst : st0 = As.reverse ++ .ref (ad k i j) :: rest) (hnp : As.length = np) (hW : (rest.map fun v => v.category).sum ≤ 8) (h1 : kc + mc1 ≤ mc) (h2 : ks + ms1 ≤ ms)
    (kk : ∀ v μ, Pv v μ → V X G (kc + mc1) (ks + ms1) μ.1 μ.2.1 μ.2.2 l (pc + 3) (v.toList ++ rest)) (kx : ∀ E μ, Px E μ → VX X G (kc + mc1) (ks + ms1) μ.1 μ.2.1 μ.2.2 l pc E rest) : V X G kc ks ok ad σ l pc st0 := by
  subst hst
  refine v_run (a := (Value.ref (ad k i j) :: As).toArray) (fun H locs ls hR hS hl => ?_) kk kx
  exact vx_runVN (C := y.cls) (b := ad k i j) (As := As) (rest := rest) hC.fix hM ⟨hC.cn hn hnL lk.1.1 lk.1.2.1 lk.1.2.2.2.2 lk.2, hC.ts _ lk.1.2.2.1, hC.ts _ lk.1.2.2.2.1⟩ ⟨pc_blind, hC.rec hk he hc rfl hR, (hC.pre hR hS).2⟩ rfl hnp (by show ls.size = nL; rw [hl.1, hC.ml]) rfl (lv_room hW) d (hC.hf h1 h2)
theorem v_callS {np : Nat} (hC : Cx X G own cc nL n mc ms) (lk : LkS own ix y bytes nL1 ret np) (d : decode cc pc = .ok (.invokestatic ix, 3)) (hM : Ct (xl X) G n1 y bytes nL1 ret As ok ad σ Pv Px mc1 ms1) (hn : n1 < n) (hnL : nL1 ≤ 40)
    (hst : st0 = As.reverse ++ rest) (hnp : As.length = np) (hW : (rest.map fun v => v.category).sum ≤ 8) (h1 : kc + mc1 ≤ mc) (h2 : ks + ms1 ≤ ms)
    (kk : ∀ v μ, Pv v μ → V X G (kc + mc1) (ks + ms1) μ.1 μ.2.1 μ.2.2 l (pc + 3) (v.toList ++ rest)) (kx : ∀ E μ, Px E μ → VX X G (kc + mc1) (ks + ms1) μ.1 μ.2.1 μ.2.2 l pc E rest) : V X G kc ks ok ad σ l pc st0 := by
  subst hst
  refine v_run (a := As.toArray) (fun H locs ls hR hS hl => ?_) kk kx
  exact vx_runS (As := As) (rest := rest) hC.fix hM ⟨hC.cb hn hnL lk.1.1 lk.1.2.1 lk.1.2.2.2 lk.2, hC.ts _ lk.1.2.2.1⟩ (hC.pre hR hS) rfl hnp (by show ls.size = nL; rw [hl.1, hC.ml]) rfl (lv_room hW) d (hC.hf h1 h2)
theorem v_callI {np b : Nat} (hC : Cx X G own cc nL n mc ms) (lk : LkI own ix y bytes nL1 np) (d : decode cc pc = .ok (.invokespecial ix, 3)) (hM : Ct (xl X) G n1 y bytes nL1 none (.ref b :: As) ok ad σ Pv Px mc1 ms1) (hn : n1 < n) (hnL : nL1 ≤ 40)
    (hst : st0 = As.reverse ++ .ref b :: rest) (hnp : As.length = np) (hW : (rest.map fun v => v.category).sum ≤ 8) (h1 : kc + mc1 ≤ mc) (h2 : ks + ms1 ≤ ms)
    (kk : ∀ v μ, Pv v μ → V X G (kc + mc1) (ks + ms1) μ.1 μ.2.1 μ.2.2 l (pc + 3) (v.toList ++ rest)) (kx : ∀ E μ, Px E μ → VX X G (kc + mc1) (ks + ms1) μ.1 μ.2.1 μ.2.2 l pc E rest) : V X G kc ks ok ad σ l pc st0 := by
  subst hst
  refine v_run (a := (Value.ref b :: As).toArray) (fun H locs ls hR hS hl => ?_) kk kx
  exact vx_runI (b := b) (As := As) (rest := rest) hC.fix hM ⟨hC.cb hn hnL lk.1.1 lk.1.2.1 lk.1.2.2.2.1 lk.2, lk.1.2.2.2.2, hC.ts _ lk.1.2.2.1⟩ (hC.pre hR hS) rfl hnp (by show ls.size = nL; rw [hl.1, hC.ml]) rfl (lv_room hW) d (hC.hf h1 h2)
theorem v_callIN {np b : Nat} {host : String} (hC : Cx X G own cc nL n mc ms) (lk : LkIN own ix y host bytes nL1 np) (d : decode cc pc = .ok (.invokespecial ix, 3)) (hM : Ct (xl X) G n1 y bytes nL1 none (.ref b :: As) ok ad σ Pv Px mc1 ms1) (hn : n1 < n) (hnL : nL1 ≤ 40)
    (hst : st0 = As.reverse ++ .ref b :: rest) (hnp : As.length = np) (hW : (rest.map fun v => v.category).sum ≤ 8) (h1 : kc + mc1 ≤ mc) (h2 : ks + ms1 ≤ ms)
    (kk : ∀ v μ, Pv v μ → V X G (kc + mc1) (ks + ms1) μ.1 μ.2.1 μ.2.2 l (pc + 3) (v.toList ++ rest)) (kx : ∀ E μ, Px E μ → VX X G (kc + mc1) (ks + ms1) μ.1 μ.2.1 μ.2.2 l pc E rest) : V X G kc ks ok ad σ l pc st0 := by
  subst hst
  refine v_run (a := (Value.ref b :: As).toArray) (fun H locs ls hR hS hl => ?_) kk kx
  exact vx_runIN (b := b) (As := As) (rest := rest) hC.fix hM ⟨hC.cn hn hnL lk.1.1 lk.1.2.1 lk.1.2.2.2.1 lk.2, lk.1.2.2.2.2, hC.ts _ lk.1.2.2.1⟩ (hC.pre hR hS) rfl hnp (by show ls.size = nL; rw [hl.1, hC.ml]) rfl (lv_room hW) d (hC.hf h1 h2)
end CALLS
