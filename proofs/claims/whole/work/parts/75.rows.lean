/-! ===== rows for the list of cells ===== -/
theorem fl_39 : Cond.fieldLink "java/util/ArrayList" 39 "java/util/ArrayList" "DEFAULTCAPACITY_EMPTY_ELEMENTDATA" "[Ljava/lang/Object;" ∈ lw_good := gd_at 946 (by decide +kernel) (by decide +kernel)
theorem cl_174 : Cond.classLink "BranchyardModel" 174 "[I" ∈ lw_good := gd_at 1255 (by decide +kernel) (by decide +kernel)
theorem wf_Jx35411_25 : Cond.fieldLink "java/util/ArrayList$Itr" 25 "java/util/ArrayList$Itr" "cursor" "I" ∈ lw_good := gd_at 1208 (by decide +kernel) (by decide +kernel)
theorem wf_Jx35411_37 : Cond.fieldLink "java/util/ArrayList$Itr" 37 "java/util/ArrayList" "elementData" "[Ljava/lang/Object;" ∈ lw_good := gd_at 949 (by decide +kernel) (by decide +kernel)
theorem wf_Jx35411_28 : Cond.fieldLinkNest "java/util/ArrayList$Itr" 28 "java/util/ArrayList" "size" "I" "java/util/ArrayList" ∈ lw_ng := ng_at 950 (by decide +kernel) (by decide +kernel)
theorem lk_Jx35411_31 : LkV "java/util/ArrayList$Itr" 31 yJx35411_checkForComodification_da8c8 cJx35411_checkForComodification_da8c8 1 none 0 := ⟨⟨gd_at 1243 (by decide +kernel) (by decide +kernel), gd_at 1240 (by decide +kernel) (by decide +kernel), gd_at 1241 (by decide +kernel) (by decide +kernel), gd_at 1242 (by decide +kernel) (by decide +kernel), by decide +kernel⟩, by decide +kernel, by decide +kernel, by decide +kernel⟩
section R75
variable {X : XT} {G : GT} {own nm : String} {cc : ByteArray} {nL n mc ms : Nat} {kc ks : Nat} {ok : KF} {ad : AD} {σ σ1 : SG} {l : List (Nat × Value)} {pc : Nat} {st st0 rest As : List Value}
variable {y : MethodName} {bytes : ByteArray} {nL1 n1 mc1 ms1 ix : Nat} {ret : Option FieldType} {Pv : Option Value → MT → Prop} {Px : String → MT → Prop}
theorem v_gets39 (hC : Cx X G "java/util/ArrayList" cc nL n mc ms) (d : decode cc pc = .ok (.getstatic 39, 3)) (k : V X G kc ks ok ad σ l (pc + 3) (.ref (G.2.2.2 0) :: st)) : V X G kc ks ok ad σ l pc st := fun H locs ls hR hS hl =>
  va_gets hC.x hC.b hC.2.2.1.2.1.2.2.2.2.1 hS hC.ow (hC.ts _ fl_39) (fun _ h => h) d (k H locs ls hR hS hl)
theorem v_alen0 (hC : Cx X G own cc nL n mc ms) (d : decode cc pc = .ok (.arraylength, 1)) (k : V X G kc ks ok ad σ l (pc + 1) (iv 0 :: st)) : V X G kc ks ok ad σ l pc (.ref (G.2.2.2 0) :: st) := fun H locs ls hR hS hl => by
  have g6 := hC.e0
  obtain ⟨⟨ce, e1, e2, e3, e4⟩, g7⟩ := g6
  have hc0 : H[G.2.2.2 0]? = some ce := by rw [hS.2.1 _ (Array.getElem?_eq_some_iff.mp e1).1 g7]; exact e1
  exact W.alen (n := nI 0) (ty := .object "java/lang/Object") hC.x hC.b hc0 ⟨e3, by rw [e2]; exact ((hC.K.2 12 _ rfl).1 0 (fun _ => .null)).2⟩ (by rw [e4]; rfl) rfl rfl d (k H locs ls hR hS hl)
/-- fewer keys -/
theorem v_less {ok' : KF} (h : ∀ k i j, ok' k i j → ok k i j) (k : V X G kc ks ok' ad σ l pc st) : V X G kc ks ok ad σ l pc st := fun H locs ls hR hS hl => k H locs ls (hR.weak h) hS hl
/-- a cell is forgotten -/
theorem v_forget {k0 i0 j0 a : Nat} (hn : ¬ ok k0 i0 j0) (hd : dynk k0) (ho : ∀ k i j, ok k i j → σ1 k i j = σ k i j) (k : V X G kc ks ok ad σ l pc st) : V X G kc ks (okA ok k0 i0 j0) (adA ad k0 i0 j0 a) σ1 l pc st := fun H locs ls hR hS hl => by
  have key : ∀ k i j, ok k i j → ¬ (k = k0 ∧ i = i0 ∧ j = j0) := fun k i j q e => hn (by obtain ⟨rfl, rfl, rfl⟩ := e; exact q)
  refine k H locs ls ⟨fun k' i' j' q => ?_, fun k' i' j' k2 i2 j2 q q2 e => ?_⟩ hS hl
  · have h1 := hR.1 k' i' j' (.inl q)
    rw [adA_off ad a (key _ _ _ q), enck_dyn hd, ho _ _ _ q] at h1
    exact h1
  · exact hR.2 k' i' j' k2 i2 j2 (.inl q) (.inl q2) (by rw [adA_off ad a (key _ _ _ q), adA_off ad a (key _ _ _ q2)]; exact e)
/-! ===== a call by an interface ===== -/
theorem v_run5 {a : Array Value} (hr : ∀ (H : Heap) (locs : List Loc) (ls : Array Slot), Rep G ok ad σ H → va_S (AB G) (xs X).heap H locs → lv_has ls (xc X).maxLocals l → vx_Run5 (xp X) (xl X) (xe X) (xR X) (xs X) (xm X) (xa X) (xb X) (xk X) (xc X) H locs kc ks mc1 ms1 (F0 (xm X) pc ls st0) rest (QcM G Pv a) (XcM G Px) (AB G))
    (kk : ∀ v μ, Pv v μ → V X G (kc + mc1) (ks + ms1) μ.1 μ.2.1 μ.2.2 l (pc + 5) (v.toList ++ rest)) (kx : ∀ E μ, Px E μ → VX X G (kc + mc1) (ks + ms1) μ.1 μ.2.1 μ.2.2 l pc E rest) : V X G kc ks ok ad σ l pc st0 := fun H locs ls hR hS hl => by
  intro T hT Xs
  rcases hr H locs ls hR hS hl T hT Xs with ⟨v, st₀, t, T', L, h0, X', hL, e1, e2, ⟨⟨v', μ, hv, hp, hrep⟩, hF⟩, st⟩ | ⟨q, st₀, t, T', L, E, ce, h0, X', hL, e1, e2, ⟨⟨μ, hp, hrep⟩, hF⟩, hce, hcv, hcl, st⟩
  · cases hv
    obtain ⟨k1, k2, k3⟩ := vx_keep h0 e1 hS (fun _ _ h => h) (fun _ h => h) hL hF
    obtain ⟨t2, a1, b1⟩ := kk v μ hp T'.heap (locs ++ L) ls (by rw [e1]; exact hrep) k3 hl T' rfl X'
    exact ⟨t2, st t2 a1, b1⟩
  · obtain ⟨k1, k2, k3⟩ := vx_keep h0 e1 hS (fun _ _ h => h) (fun _ h => h) hL hF
    obtain ⟨t2, a1, b1⟩ := kx E μ hp T'.heap (locs ++ L) ls q ce (by rw [e1]; exact hrep) k3 hl (by rw [e1]; exact hce) hcv hcl T' rfl X'
    exact ⟨t2, st.trans a1, b1⟩
/-- the words of a call by an interface -/
def LkF (own : String) (ix : Nat) (x y : MethodName) (bytes : ByteArray) (nL1 : Nat) (ret : Option FieldType) (np : Nat) : Prop :=
  (Cond.code y bytes nL1 ret ∈ lw_good ∧ Cond.methodLink own ix x ∈ lw_good ∧ Cond.instanceMethod y ∈ lw_good ∧ Cond.selects RJx35411 x y ∈ lw_good ∧ Cond.initialized y.cls ∈ lw_good) ∧ (x, y) ∈ fws ∧ LkY x np
theorem v_callF {np cnt : Nat} {x : MethodName} (hC : Cx X G own cc nL n mc ms) (lk : LkF own ix x y bytes nL1 ret np) (d : decode cc pc = .ok (.invokeinterface ix cnt, 5)) (hM : Ct (xl X) G n1 y bytes nL1 ret (.ref (ad 59 0 0) :: As) ok ad σ Pv Px mc1 ms1) (hn : n1 < n) (hnL : nL1 ≤ 40) (hk : ok 59 0 0)
    (hst : st0 = As.reverse ++ .ref (ad 59 0 0) :: rest) (hnp : As.length = np) (hW : (rest.map fun v => v.category).sum ≤ 8) (h1 : kc + mc1 ≤ mc) (h2 : ks + ms1 ≤ ms)
    (kk : ∀ v μ, Pv v μ → V X G (kc + mc1) (ks + ms1) μ.1 μ.2.1 μ.2.2 l (pc + 5) (v.toList ++ rest)) (kx : ∀ E μ, Px E μ → VX X G (kc + mc1) (ks + ms1) μ.1 μ.2.1 μ.2.2 l pc E rest) : V X G kc ks ok ad σ l pc st0 := by
  subst hst
  obtain ⟨⟨k1, k2, k3, k4, k5⟩, k6, k7⟩ := lk
  have gi : GoodIn lw_good (va_wsF own ix RJx35411 x y (Cond.code y bytes nL1 ret :: lw_good)) := fun w hw => by
    rcases List.mem_append.mp hw with q | q
    · simp only [List.mem_cons, List.not_mem_nil, or_false] at q
      rcases q with rfl | rfl | rfl | rfl
      · exact ⟨k2, good_of_word (gd_ok k2)⟩
      · exact ⟨k4, good_of_word (gd_ok k4)⟩
      · exact ⟨k3, good_of_word (gd_ok k3)⟩
      · exact ⟨k5, good_of_word (gd_ok k5)⟩
    · exact gd_good k1 w q
  have cw : va_CI (xR X) (xs X) (xa X) own RJx35411 ix x y bytes nL1 ret (Cond.code y bytes nL1 ret :: lw_good) (rmL n1 mc1 ms1) mc1 ms1 np := va_cwF np hC.ts gi rfl rfl rfl (hC.fw _ k6) k7 (hC.rm hn hnL)
  refine v_run5 (a := (Value.ref (ad 59 0 0) :: As).toArray) (fun H locs ls hR hS hl => ?_) kk kx
  exact vx_runF (C := RJx35411) (b := ad 59 0 0) (As := As) (rest := rest) (hC.K.1 8 _ rfl).2 hC.fix hM cw ⟨pc_blind, hC.rec hk rfl rfl rfl hR, (hC.pre hR hS).2⟩ rfl hnp (by show ls.size = nL; rw [hl.1, hC.ml]) rfl (lv_room hW) d (hC.hf h1 h2)
theorem v_callF_r0 {np cnt : Nat} {x : MethodName} {v : Value} {ok1 : KF} {ad1 : AD} (hC : Cx X G own cc nL n mc ms) (lk : LkF own ix x y bytes nL1 ret np) (d : decode cc pc = .ok (.invokeinterface ix cnt, 5)) (hM : Ct (xl X) G n1 y bytes nL1 ret (.ref (ad 59 0 0) :: As) ok ad σ (Rt (some v) ok1 ad1 σ1) NX 0 0) (hn : n1 < n) (hnL : nL1 ≤ 40) (hk : ok 59 0 0)
    (hst : st0 = As.reverse ++ .ref (ad 59 0 0) :: rest) (hnp : As.length = np) (hW : (rest.map fun v => v.category).sum ≤ 8) (h1 : kc ≤ mc) (h2 : ks ≤ ms) (kk : V X G kc ks ok1 ad1 σ1 l (pc + 5) (v :: rest)) : V X G kc ks ok ad σ l pc st0 :=
  v_callF hC lk d hM hn hnL hk hst hnp hW h1 h2 (fun w μ h => by obtain ⟨rfl, rfl⟩ := h; exact kk) (fun _ _ h => h.elim)
theorem gf_Jx35411_25 (hC : Cx X G "java/util/ArrayList$Itr" cc nL n mc ms) (d : decode cc pc = .ok (.getfield 25, 3)) (hk : ok 59 0 0) (k : V X G kc ks ok ad σ l (pc + 3) (iv (σ 59 0 0 0) :: st)) : V X G kc ks ok ad σ l pc (.ref (ad 59 0 0) :: st) := v_get (C := RJx35411) (T := TJx35411) (N := 4) (ci := 8) hC d hk rfl rfl gin_Jx35411 0 (by decide) (hC.ts _ wf_Jx35411_25) (fun _ h => h) rfl k
theorem pf_Jx35411_25 {v : Nat} (hC : Cx X G "java/util/ArrayList$Itr" cc nL n mc ms) (d : decode cc pc = .ok (.putfield 25, 3)) (hk : ok 59 0 0) (k : V X G kc ks ok ad (up σ 59 0 0 0 v) l (pc + 3) st) : V X G kc ks ok ad σ l pc (iv v :: .ref (ad 59 0 0) :: st) := v_put (C := RJx35411) (T := TJx35411) (N := 4) (ci := 8) (ty := .int) hC d hk rfl rfl gin_Jx35411 tyJx35411 tyJx35411_ok nmJx35411 0 (by decide) (hC.ts _ wf_Jx35411_25) (fun _ h => h) rfl (by decide +kernel) rfl rfl (Nat.le_of_ble_eq_true rfl) up_ne (by rw [up_row]; rfl) k
theorem gf_Jx35411_22 (hC : Cx X G "java/util/ArrayList$Itr" cc nL n mc ms) (d : decode cc pc = .ok (.getfield 22, 3)) (hk : ok 59 0 0) (k : V X G kc ks ok ad σ l (pc + 3) (iv (σ 59 0 0 2) :: st)) : V X G kc ks ok ad σ l pc (.ref (ad 59 0 0) :: st) := v_get (C := RJx35411) (T := TJx35411) (N := 4) (ci := 8) hC d hk rfl rfl gin_Jx35411 2 (by decide) (hC.ts _ wf_Jx35411_22) (fun _ h => h) rfl k
theorem gf_Jx35411_28 (hC : Cx X G "java/util/ArrayList$Itr" cc nL n mc ms) (d : decode cc pc = .ok (.getfield 28, 3)) (hO : OKM ok) (k : V X G kc ks ok ad σ l (pc + 3) (iv (σ 54 0 0 2) :: st)) : V X G kc ks ok ad σ l pc (.ref (ad 54 0 0) :: st) := v_getN (C := RJx4a65c) (T := TJx4a65c) (N := 3) (ci := 7) hC d hO.k54 rfl rfl gin_Jx4a65c 2 (by decide) (hC.ng wf_Jx35411_28) (fun _ h => h) rfl k
theorem gf_Jx35411_37 (hC : Cx X G "java/util/ArrayList$Itr" cc nL n mc ms) (d : decode cc pc = .ok (.getfield 37, 3)) (hO : OKM ok) (k : V X G kc ks ok ad σ l (pc + 3) (va_rf (rf (σ 54 0 0 1)) :: st)) : V X G kc ks ok ad σ l pc (.ref (ad 54 0 0) :: st) := v_get (C := RJx4a65c) (T := TJx4a65c) (N := 3) (ci := 7) hC d hO.k54 rfl rfl gin_Jx4a65c 1 (by decide) (hC.ts _ wf_Jx35411_37) (fun _ h => h) rfl k
end R75
theorem lkf_164 : LkF "BranchyardModel" 164 ⟨"java/util/Iterator", "hasNext", "()Z"⟩ yJx35411_hasNext_aae02 cJx35411_hasNext_aae02 1 (some .boolean) 0 := ⟨⟨by decide +kernel, by decide +kernel, by decide +kernel, by decide +kernel, by decide +kernel⟩, by decide +kernel, by decide +kernel, by decide +kernel, by decide +kernel⟩
theorem lkf_170 : LkF "BranchyardModel" 170 ⟨"java/util/Iterator", "next", "()Ljava/lang/Object;"⟩ yJx35411_next_0502b cJx35411_next_0502b 3 (some (.object "java/lang/Object")) 0 := ⟨⟨by decide +kernel, by decide +kernel, by decide +kernel, by decide +kernel, by decide +kernel⟩, by decide +kernel, by decide +kernel, by decide +kernel, by decide +kernel⟩
theorem cn_200 : Cond.constant "jdk/internal/util/ArraysSupport" 200 (2147483639 : Int32) ∈ lw_good := gd_at 1278 (by decide +kernel) (by decide +kernel)
theorem v_ldcI {X : XT} {G : GT} {own : String} {cc : ByteArray} {nL n mc ms : Nat} {kc ks : Nat} {ok : KF} {ad : AD} {σ : SG} {l : List (Nat × Value)} {pc ix : Nat} {st : List Value} {v : Int32} (hC : Cx X G own cc nL n mc ms) (d : decode cc pc = .ok (.ldc ix, 2)) (hw : Cond.constant own ix v ∈ lw_good) (k : V X G kc ks ok ad σ l (pc + 2) (.int v :: st)) : V X G kc ks ok ad σ l pc st := fun H locs ls hR hS hl => lv_ldc hC.x hC.b hC.ow (hC.ts _ hw) d (k H locs ls hR hS hl)
theorem shr_0 : ∀ a, a < 71 → ∀ b, b < 71 → nI (71 * a + b) >>> (nI 1 &&& 31) = nI ((71 * a + b) / 2) := by decide +kernel
theorem shr_1 (e : Nat) (h : e < 5000) : nI e >>> (nI 1 &&& 31) = nI (e / 2) := by
  have := shr_0 (e / 71) (by omega) (e % 71) (by omega)
  rw [Nat.div_add_mod] at this
  exact this
/-- an array of ints may lie in a row of objects -/
theorem any_I {X : XT} {G : GT} {own : String} {cc : ByteArray} {nL n mc ms : Nat} {ok : KF} {ad : AD} {σ : SG} {k i j : Nat} {a : vp_A} (hC : Cx X G own cc nL n mc ms) (hk : ok k i j) (he : enck G.2.2.1 ad k i j (σ k i j) = .inl (G.2.2.1 0, a)) : ∀ H : Heap, Rep G ok ad σ H → va_Any "java/lang/Object" (xs X) H (ad k i j) := fun H hR => by
  obtain ⟨c0', t0', q1, q2, q3⟩ := Cond.castable_spec (va_Nw.use (A := xa X) rfl (hC.nw wg_8))
  cases hC.nmI.symm.trans q1
  have hcv : H[ad k i j]? = some (vp_cell (G.2.2.1 0) a) := hR.one hk he 0 _ rfl
  have hcl : (vp_cell (G.2.2.1 0) a).cls = G.2.2.1 0 := by obtain ⟨n, f | f | f | f | f⟩ := a <;> rfl
  have hvm : (vp_cell (G.2.2.1 0) a).vm = .none := by obtain ⟨n, f | f | f | f | f⟩ := a <;> rfl
  obtain ⟨kC, hkC, -⟩ := Vm.findClass_spec hC.nmI
  exact ⟨_, hcv, by rw [hvm]; rfl, ⟨kC, by rw [hcl]; exact hkC⟩, fun comp h => by
    cases q2.symm.trans h
    rw [hcl]
    exact q3⟩
/-! ===== keys and slots that the model's builds may change ===== -/
def kM (k x : Nat) : Bool := k == 54 || k == 55 || k == 56 || (k == 30 && (x == 5 || x == 6))
def mxS (σ τ : SG) : SG := fun k i j x => bif kM k x then τ k i j x else σ k i j x
def dM (k : Nat) : Bool := k == 55 || k == 56
def mxA (ad na : AD) : AD := fun k i j => bif dM k then na k i j else ad k i j
def mxK (ok nk : KF) : KF := fun k i j => bif dM k then nk k i j else ok k i j
theorem mxA_mxA (ad na nb : AD) : mxA (mxA ad na) nb = mxA ad nb := by
  funext k i j
  simp only [mxA]
  cases dM k <;> rfl
theorem mxK_mxK (ok nk nl : KF) : mxK (mxK ok nk) nl = mxK ok nl := by
  funext k i j
  simp only [mxK]
  cases dM k <;> rfl
theorem mxS_mxS (σ τ τ' : SG) : mxS (mxS σ τ) τ' = mxS σ τ' := by
  funext k i j x
  simp only [mxS]
  cases kM k x <;> rfl
theorem mxA_id (ad : AD) : mxA ad ad = ad := by
  funext k i j
  simp only [mxA]
  cases dM k <;> rfl
theorem mxK_id (ok : KF) : mxK ok ok = ok := by
  funext k i j
  simp only [mxK]
  cases dM k <;> rfl
theorem mxS_id (σ : SG) : mxS σ σ = σ := by
  funext k i j x
  simp only [mxS]
  cases kM k x <;> rfl
theorem mxA_of {ad ad' : AD} (h : ∀ k i j, dM k = false → ad' k i j = ad k i j) : ad' = mxA ad ad' := by
  funext k i j
  simp only [mxA]
  cases e : dM k with
  | true => rfl
  | false => exact h k i j e
theorem mxK_of {ok ok' : KF} (h : ∀ k i j, dM k = false → (ok' k i j ↔ ok k i j)) : ok' = mxK ok ok' := by
  funext k i j
  simp only [mxK]
  cases e : dM k with
  | true => rfl
  | false => exact propext (h k i j e)
theorem mxS_of {σ σ' : SG} (h : ∀ k i j x, kM k x = false → σ' k i j x = σ k i j x) : σ' = mxS σ σ' := by
  funext k i j x
  simp only [mxS]
  cases e : kM k x with
  | true => rfl
  | false => exact h k i j x e
theorem dM_cases {k : Nat} (e : dM k = true) : k = 55 ∨ k = 56 := by
  simp only [dM, Bool.or_eq_true, beq_iff_eq] at e
  exact e
theorem OKM.mx {ok nk : KF} (h : OKM ok) : OKM (mxK ok nk) := fun k i j hk => by
  have e : dM k = false := by
    cases e : dM k with
    | false => rfl
    | true => rcases dM_cases e with rfl | rfl <;> cases hk
  show bif dM k then _ else _
  rw [e]
  exact h k i j hk
theorem OKC.mx {ok nk : KF} (h : OKC ok) : OKC (mxK ok nk) := fun k i j hk => by
  have e : dM k = false := by
    cases e : dM k with
    | false => rfl
    | true => rcases dM_cases e with rfl | rfl <;> cases hk
  show bif dM k then _ else _
  rw [e]
  exact h k i j hk
/-- the list of cells stands for K; its room is e -/
def cel (σ : SG) (c : Nat) : List Nat := (List.range (σ 56 c 0 30)).map (σ 56 c 0)
def Arr (G : GT) (ok : KF) (ad : AD) (σ : SG) (K : List (List Nat)) (e : Nat) : Prop := σ 54 0 0 2 = K.length ∧ ((e = 0 ∧ K = [] ∧ σ 54 0 0 1 = G.2.2.2 0 + 1) ∨ (10 ≤ e ∧ ok 55 e 0 ∧ σ 54 0 0 1 = ad 55 e 0 + 1 ∧ σ 55 e 0 9000 = e ∧ K.length ≤ e ∧ ∃ L : Nat → Nat, ∀ t, t < K.length → ok 56 (L t) 0 ∧ σ 55 e 0 t = ad 56 (L t) 0 + 1 ∧ cel σ (L t) = K.getD t [] ∧ σ 56 (L t) 0 30 ≤ 26))
def KM (ok : KF) (m e : Nat) : Prop := (∀ k i j, ok k i j → k < 80 ∧ k ≠ 59) ∧ (∀ i j, ok 55 i j → j = 0 ∧ i ≤ e) ∧ ∀ i j, ok 56 i j → j = 0 ∧ i < m
/-- the room behind one more cell -/
def capS (n e : Nat) : Nat := if n = e then (if e = 0 then 10 else e + e / 2) else e
def capN : Nat → Nat → Nat → Nat
  | 0, _, e => e
  | r + 1, n, e => capN r (n + 1) (capS n e)
theorem capS_le (n e : Nat) : e ≤ capS n e := by
  unfold capS
  split
  · split <;> omega
  · exact Nat.le_refl _
theorem capN_le : ∀ r n e, e ≤ capN r n e
  | 0, _, e => Nat.le_refl e
  | r + 1, n, e => Nat.le_trans (capS_le n e) (capN_le r (n + 1) (capS n e))
theorem capN_add : ∀ r s n e, capN (r + s) n e = capN s (n + r) (capN r n e)
  | 0, s, n, e => by rw [Nat.zero_add]; rfl
  | r + 1, s, n, e => by
    rw [show r + 1 + s = (r + s) + 1 by omega]
    show capN (r + s) (n + 1) (capS n e) = capN s (n + (r + 1)) (capN r (n + 1) (capS n e))
    rw [capN_add r s (n + 1) (capS n e), show n + 1 + r = n + (r + 1) by omega]
theorem capS_max {n e : Nat} (h : e ≤ 4700) (hn : n ≤ 3072) : capS n e ≤ 4700 := by
  unfold capS
  split
  · split <;> omega
  · exact h
theorem capN_max : ∀ r n e, e ≤ 4700 → n + r ≤ 3073 → capN r n e ≤ 4700
  | 0, _, _, h, _ => h
  | r + 1, n, e, h, hn => capN_max r (n + 1) (capS n e) (capS_max h (by omega)) (by omega)
