/-! ===== the start: what the statement gives ===== -/
theorem st_ncs : ∀ q ∈ ncs, Cond.not (Cond.castable q.1 q.2) ∈ flatC (Jvm.Cond.and given_1 narrow_1) := by decide +kernel
section START
variable {s : State} {A : Array Value}
theorem st_cls (hts : ∀ w ∈ lw_good, w.before A s = true) : ∃ D : va_G, ∀ c q, CL[c]? = some q → u_Kn s q.1 q.2.1 q.2.2 (D.1 c) (D.2 c) := by
  obtain ⟨c0, i0, h0⟩ := u_known (C := RX5) (T := TX5) (N := 12) hts gin_X5 (hts _ (show Cond.instantiable "Branchyard" 12 ∈ lw_good from gd_at 99 (by decide +kernel) (by decide +kernel)))
  obtain ⟨c1, i1, h1⟩ := u_known (C := RX1) (T := TX1) (N := 9) hts gin_X1 (hts _ (show Cond.instantiable "Branchyard$Change" 9 ∈ lw_good from gd_at 183 (by decide +kernel) (by decide +kernel)))
  obtain ⟨c2, i2, h2⟩ := u_known (C := RX2) (T := TX2) (N := 2) hts gin_X2 (hts _ (show Cond.instantiable "Branchyard$Order" 2 ∈ lw_good from gd_at 109 (by decide +kernel) (by decide +kernel)))
  obtain ⟨c3, i3, h3⟩ := u_known (C := RX3) (T := TX3) (N := 4) hts gin_X3 (hts _ (show Cond.instantiable "Branchyard$Test" 4 ∈ lw_good from gd_at 134 (by decide +kernel) (by decide +kernel)))
  obtain ⟨c4, i4, h4⟩ := u_known (C := RX4) (T := TX4) (N := 7) hts gin_X4 (hts _ (show Cond.instantiable "Branchyard$Works" 7 ∈ lw_good from gd_at 125 (by decide +kernel) (by decide +kernel)))
  obtain ⟨c5, i5, h5⟩ := u_known (C := RX0) (T := TX0) (N := 3) hts gin_X0 (hts _ (show Cond.instantiable "Branchyard$Cell" 3 ∈ lw_good from gd_at 692 (by decide +kernel) (by decide +kernel)))
  obtain ⟨c6, i6, h6⟩ := u_known (C := RX6) (T := TX6) (N := 26) hts gin_X6 (hts _ (show Cond.instantiable "BranchyardModel" 26 ∈ lw_good from gd_at 922 (by decide +kernel) (by decide +kernel)))
  obtain ⟨c7, i7, h7⟩ := u_known (C := RJx4a65c) (T := TJx4a65c) (N := 3) hts gin_Jx4a65c (hts _ (show Cond.instantiable "java/util/ArrayList" 3 ∈ lw_good from gd_at 935 (by decide +kernel) (by decide +kernel)))
  obtain ⟨c8, i8, h8⟩ := u_known (C := RJx35411) (T := TJx35411) (N := 4) hts gin_Jx35411 (hts _ (show Cond.instantiable "java/util/ArrayList$Itr" 4 ∈ lw_good from gd_at 1203 (by decide +kernel) (by decide +kernel)))
  refine ⟨(fun c => match c with | 0 => c0 | 1 => c1 | 2 => c2 | 3 => c3 | 4 => c4 | 5 => c5 | 6 => c6 | 7 => c7 | _ => c8, fun c => match c with | 0 => i0 | 1 => i1 | 2 => i2 | 3 => i3 | 4 => i4 | 5 => i5 | 6 => i6 | 7 => i7 | _ => i8), fun c q hq => ?_⟩
  match c, hq with
  | 0, hq => cases hq; exact h0
  | 1, hq => cases hq; exact h1
  | 2, hq => cases hq; exact h2
  | 3, hq => cases hq; exact h3
  | 4, hq => cases hq; exact h4
  | 5, hq => cases hq; exact h5
  | 6, hq => cases hq; exact h6
  | 7, hq => cases hq; exact h7
  | 8, hq => cases hq; exact h8
  | n + 9, hq => cases hq
theorem st_p {ty : FieldType} (h : (Cond.arrayClass ty).before A s = true) : ∃ c, ArrOfT s c ty ∧ s.vm.findClass ("[" ++ ty.toString) = some c := by
  obtain ⟨c, k, comp, h1, h2, h3⟩ := Cond.arrayClass_spec h
  exact ⟨c, fun n z => ⟨fun x q => (by cases q), k, h2, comp, h3⟩, h1⟩
theorem st_o {C : String} (h : AOt (.object C) s) : ∃ c, ArrOfT s c (.object C) ∧ va_RA s c (.object C) := by
  obtain ⟨comp, c, k, h1, -, h2, h3, h4⟩ := Cond.arrayOver_spec (h.use (A := #[]))
  exact ⟨c, fun n z => ⟨fun x q => (by cases q), k, h2, comp, h3⟩, k, comp, h2, h3, h1, h4⟩
theorem st_a {t : FieldType} (h : AOt (.array t) s) : ∃ c, ArrOfT s c (.array t) ∧ va_RA s c (.array t) := by
  obtain ⟨comp, c, k, h1, h2, h3, h4⟩ := Cond.arrayOver_specA (h.use (A := #[]))
  exact ⟨c, fun n z => ⟨fun x q => (by cases q), k, h2, comp, h3⟩, h4⟩
theorem st_arr (hts : ∀ w ∈ lw_good, w.before A s = true) (hao : ∀ t ∈ aos, AOt t s) : ∃ cA : Nat → ClassId, ∀ (k : Nat) (q : ClassId × FieldType), (TYS cA)[k]? = some q → ArrOfT s q.1 q.2 ∧ va_RA s q.1 q.2 := by
  obtain ⟨a0, h0⟩ := st_p (hts _ ar_I)
  obtain ⟨a1, h1⟩ := st_p (hts _ ar_Z)
  obtain ⟨a2, h2⟩ := st_p (hts _ ar_C)
  obtain ⟨a3, h3⟩ := st_p (hts _ ar_J)
  obtain ⟨a4, h4⟩ := st_p (hts _ ar_D)
  obtain ⟨a5, h5⟩ := st_o (hao _ ao_X1)
  obtain ⟨a6, h6⟩ := st_o (hao _ ao_X3)
  obtain ⟨a7, h7⟩ := st_o (hao _ ao_X0)
  obtain ⟨a8, h8⟩ := st_a (hao _ ao_II)
  obtain ⟨a9, h9⟩ := st_a (hao _ ao_ZZ)
  obtain ⟨a10, h10⟩ := st_a (hao _ ao_CC)
  obtain ⟨a11, h11⟩ := st_a (hao _ ao_III)
  obtain ⟨a12, h12⟩ := st_o (hao _ ao_O)
  refine ⟨fun c => match c with | 0 => a0 | 1 => a1 | 2 => a2 | 3 => a3 | 4 => a4 | 5 => a5 | 6 => a6 | 7 => a7 | 8 => a8 | 9 => a9 | 10 => a10 | 11 => a11 | _ => a12, fun k q hq => ?_⟩
  match k, hq with
  | 0, hq => cases hq; exact h0
  | 1, hq => cases hq; exact h1
  | 2, hq => cases hq; exact h2
  | 3, hq => cases hq; exact h3
  | 4, hq => cases hq; exact h4
  | 5, hq => cases hq; exact h5
  | 6, hq => cases hq; exact h6
  | 7, hq => cases hq; exact h7
  | 8, hq => cases hq; exact h8
  | 9, hq => cases hq; exact h9
  | 10, hq => cases hq; exact h10
  | 11, hq => cases hq; exact h11
  | 12, hq => cases hq; exact h12
  | n + 13, hq => cases hq
theorem st_aos (hts : ∀ w ∈ lw_tbl, w.before A s = true) : ∀ t ∈ aos, AOt t s := fun t ht => by
  obtain ⟨w, hw, he⟩ := List.mem_filterMap.mp ht
  cases w with
  | arrayOver t' =>
    cases he
    exact AOt.of (hts _ hw)
  | _ => cases he
theorem st_strs (hts : ∀ w ∈ lw_tbl, w.before A s = true) (hc : ∀ q ∈ strs, ∃ c, s.vm.findClass q.1 = some c) : ∀ q ∈ strs, ∃ a, vk_R q.1 q.2.1 q.2.2 a s := fun q hq => by
  obtain ⟨c, hcq⟩ := hc q hq
  obtain ⟨w, hw, he⟩ := List.mem_filterMap.mp hq
  cases w with
  | stringRef a k t =>
    cases he
    obtain ⟨-, -, -, ad, -, -, -, -, -, hev⟩ := Cond.stringRef_spec hcq (hts _ hw)
    exact ⟨ad, vk_R.of (hts _ hw) hev⟩
  | _ => cases he
theorem st_len0 {first : State} {o : Option Outcome} {idx : List Nat} {t : Term} {a : Addr} {cell : Cell} (ht : t.eval A first o idx s = some (.ref a)) (hc : s.heap[a]? = some cell) (h : (Term.length t).eval A first o idx s = some (.int 0)) : s.arrayAt? a = some cell ∧ cell.slots.size = 0 := by
  simp only [Term.eval, Option.bind_eq_bind, ht, Option.bind_some] at h
  obtain ⟨cell', hcell, h⟩ := Option.bind_eq_some_iff.mp h
  have e : cell' = cell := by
    obtain ⟨h1, -⟩ := State.arrayAt?_spec hcell
    exact Option.some.inj (h1.symm.trans hc)
  subst e
  refine ⟨hcell, ?_⟩
  by_cases hn : cell'.slots.size < 2147483648
  · rw [if_pos hn] at h
    have h2 : nI cell'.slots.size = nI 0 := by
      injection (Option.some.inj h)
    have h3 := congrArg Int32.toNatClampNeg h2
    rw [nI_clamp (by omega), nI_clamp (by omega)] at h3
    exact h3
  · rw [if_neg hn] at h
    cases h
end START

/-! THE CLAIM OUT OF ONE WALK OF THE LAW'S BODY. Your part is whole_start (and what it stands on); all else here is the same for every law, but numbers. -/
def R_law : String := "BranchyardLaw"
def lw_P (b : Addr) (xs : List Int32) (args : Array Value) (s : State) : Prop := args = #[.ref b] ∧ s.IntsAt b xs ∧ xs.length ≤ 3072 ∧ (Jvm.Cond.and given_1 narrow_1).before args s = true
/-- what a walk over the start with the record d0 says of its end, said of the start itself -/
theorem lw_closed {s t : State} {o : Outcome} {d0 : Drawn} {L : List Loc} {k n : Nat} (hd0 : s.drawn.sameBut d0 lw_cs) (hv : ∃ v, o = .returned v) (hW : (s.setDrawn d0).WarmedH t.vm) (hs : (s.setDrawn d0).sameButNew ({ t with vm := s.vm } : State) L k n) : State.butDraws s t lw_cs (fun t1 => Framed s o t1 L k n) := by
  have h2 : t.drawn = d0 := congrArg State.drawn hs.1
  refine ⟨⟨hv, hW, State.sameButNew.setDrawn hs s.drawn⟩, ?_, by decide⟩
  rw [h2]
  exact hd0
def lw_Q (_ : Array Value) (s : State) (o : Outcome) (t : State) : Prop := o = .returned (some (.int 1)) ∧ State.butDraws s t lw_cs (fun t1 => Framed s o t1 [] 603072 7219306)
def lw_Z (below : List Frame) (a : Array Value) (s : State) : State → Prop := fun t => ∃ o, t.status = .running ∧ Ended t below o ∧ lw_Q a s o t
/-- the law's own end, with 1 on the stack, nothing written that was there before, its room as the claim has it; d0: the record of draws at this point (at the entry s.drawn: begin with 'refine W.base ?_' and 'have hd0 := Drawn.sameBut.refl s.drawn lw_cs') -/
theorem lw_ret {p : Program} {l : Launch} {e : Env} {s : State} {m : MethodId} {below : List Frame} {meth : Method} {c : Code} {b : Nat} {d0 : Drawn} (hd0 : s.drawn.sameBut d0 lw_cs) (hx : p.tables.exec = Jvm.exec) (hb : c.code = code) (hr : meth.sig.returnType = ret) (hlocks : meth.locks = false) {pc : Nat} {H : Heap} {ls : Array Slot} (hdg : decode code pc = .ok (.ireturn, 1)) : W p l e room_1 (s.setDrawn d0) m #[Value.ref b] below meth c H [] 603072 7219306 (lw_Z below #[Value.ref b] s) (F0 m pc ls [.int 1]) := by
  intro T hT X
  obtain ⟨fs, hret, hrun, hended, hW, hframe⟩ := X.leave (v := some (.int 1)) (hlocks := hlocks) (fun h => by rw [hr] at h; cases h)
  have hmeth' : T.vm.method? m = some meth := X.method'
  refine ⟨T.setFrames fs, ?_, .returned (some (.int 1)), hrun, hended, rfl, lw_closed hd0 ⟨_, rfl⟩ hW hframe⟩
  jvm_step X.here [X.here.top, hx, hb, hdg, hmeth', hr, ret, narrow_b1]
  (try refine ⟨rfl, ?_⟩); (try refine ⟨rfl, ?_⟩)
  first | (intro acts; rw [hret _ acts rfl rfl rfl]) | rw [hret _ _ rfl rfl rfl]
  exact Steps.refl _
/-- what holds at the law's entry: the machine, the code, the tables' words (any of lw_tbl by 'hts w (by decide +kernel)'), the script of L ints xs at the cell b, what the Statement gives of the start (any of its parts by flat_of_before) -/
def lw_At (p : Program) (s : State) (m : MethodId) (meth : Method) (c : Code) (b L : Nat) (xs : Nat → Int32) : Prop :=
  p.tables.exec = Jvm.exec ∧ c.code = code ∧ meth.sig.returnType = ret ∧ c.maxLocals = 9 ∧ s.vm.findClass R_law = some m.cls ∧ (∀ w ∈ lw_tbl, w.before #[Value.ref b] s = true) ∧ va_X b L xs s s.heap ∧ b < s.heap.size ∧ meth.locks = false ∧ (Jvm.Cond.and given_1 narrow_1).before #[Value.ref b] s = true ∧ ∀ z ∈ c.exceptionTable.toList, False

theorem st_post {below : List Frame} {a : Array Value} {s t : State} {G : GT} (hG : G.2.1 = s.heap.size) (h : vx_MQ below (QcM G (fun v _ => v = some (iv 1))) (XcM G NX) a s 603072 7219306 (AB G) t) : lw_Z below a s t := by
  obtain ⟨o, h1, h2, h3⟩ := h
  rcases h3 with ⟨⟨⟨v, μ, rfl, rfl, -⟩, -⟩, L, ⟨hret, hW, hsame⟩, hfree⟩ | ⟨q, rfl, hT⟩
  · refine ⟨_, h1, h2, rfl, ?_⟩
    have h4 : s.sameButNew ({ t with vm := s.vm } : State) [] 603072 7219306 := State.sameButNew.drop_fresh (L := []) (J := L) hsame (fun x hx => by
      have := hfree x hx
      show s.heap.size ≤ x.base
      rw [← hG]
      exact this)
    exact lw_closed (d0 := s.drawn) (Drawn.sameBut.refl s.drawn lw_cs) ⟨_, rfl⟩ hW h4
  · obtain ⟨E, ce, L, ⟨⟨μ, hx, -⟩, -⟩, -⟩ := hT
    exact hx.elim
set_option maxHeartbeats 4000000 in
theorem whole_start {p : Program} {e : Env} {s : State} {m : MethodId} {below : List Frame} {meth : Method} {c : Code} (l : Launch) (hflags : l.flags = flags0) {b L : Nat} {xs : Nat → Int32} (hL : L ≤ 3072) (C0 : lw_At p s m meth c b L xs) : W p l e room_1 s m #[Value.ref b] below meth c s.heap [] 0 0 (lw_Z below #[Value.ref b] s) (entryFrame m ([Value.ref b] : List Value).toArray 9) := by
  obtain ⟨hx, hb, hr, hml, hown, hts, hX, hbl, hlk, hg, hexc⟩ := C0
  have hfl := flat_of_before _ hg
  have htg : ∀ w ∈ lw_good, w.before #[Value.ref b] s = true := fun w h => hts w (List.mem_filter.mp h).1
  obtain ⟨D, hD⟩ := st_cls htg
  have hao := st_aos hts
  obtain ⟨cA, hcA⟩ := st_arr htg hao
  obtain ⟨mi, hmi⟩ := va_Mi.of (hfl (.isRef (.mirror "[Ljava/lang/Object;")) (by decide +kernel))
  obtain ⟨a0, c0, ce, k0, hev, hfc, hce, hk0, hst0, hcl0, -⟩ := Cond.exactly_spec (hfl (.exactly (.static "java/util/ArrayList" "DEFAULTCAPACITY_EMPTY_ELEMENTDATA" "[Ljava/lang/Object;") "[Ljava/lang/Object;") (by decide +kernel))
  have hlen : (Cond.eq (.length (.static "java/util/ArrayList" "DEFAULTCAPACITY_EMPTY_ELEMENTDATA" "[Ljava/lang/Object;")) (.int 0)).before #[Value.ref b] s = true := hfl _ (by decide +kernel)
  have hsz : ce.slots.size = 0 := by
    unfold Cond.before Cond.holds at hlen
    simp only [Cond.value, beq_iff_eq] at hlen
    cases hq : (Term.length (.static "java/util/ArrayList" "DEFAULTCAPACITY_EMPTY_ELEMENTDATA" "[Ljava/lang/Object;")).eval #[Value.ref b] s none [] s with
    | none => rw [hq] at hlen; cases hlen
    | some v =>
      rw [hq] at hlen
      have e0 : v = .int 0 := by
        cases v <;> simp [Term.eval] at hlen ⊢ <;> exact hlen
      subst e0
      exact (st_len0 hev hce hq).2
  have hst1 : ∀ k, ce.vm ≠ .statics k := fun k q => by
    rw [q] at hst0
    cases hst0
  have hcl : ce.cls = cA 12 := by
    obtain ⟨-, -, -, -, -, h4⟩ := (hcA 12 _ rfl).2
    rw [hcl0]
    exact Option.some.inj (hfc.symm.trans h4)
  have hB : ∀ a : Nat, a < s.heap.size → ¬ s.heap.size ≤ a := fun a h1 h2 => by omega
  obtain ⟨G, hG⟩ : ∃ G : GT, G = (D, s.heap.size, cA, fun k => if k = 0 then a0 else mi) := ⟨_, rfl⟩
  have hGB : G.2.1 = s.heap.size := by rw [hG]
  have ha0 : a0 < s.heap.size := (Array.getElem?_eq_some_iff.mp hce).1
  have hnA : ∀ a : Nat, a < s.heap.size → ¬ AB G a := fun a h1 h2 => by
    have : G.2.1 ≤ a := h2
    omega
  have hEnv : Env0 G s s.heap := by
    refine ⟨?_, ⟨⟨fun w hw => va_Nw.of (ng_tables (List.mem_filter.mp hw).2) (hts w (List.mem_filter.mp hw).1), hao⟩, st_strs hts (fun q hq => ?_), vx_Zqof (hts _ (List.mem_of_getElem? (i := 317) (by decide +kernel))) (htg _ (gd_at 79 (by decide +kernel) (by decide +kernel))) (hfl _ (by decide +kernel)) hnA, vx_Zqof (hts _ (List.mem_of_getElem? (i := 319) (by decide +kernel))) (htg _ (gd_at 79 (by decide +kernel) (by decide +kernel))) (hfl _ (by decide +kernel)) hnA, ?_, ⟨?_, ?_⟩, ?_, fun q hq => ?_⟩, by rw [hGB]; exact Nat.le_refl _⟩
    · rw [hG]
      exact ⟨hD, hcA⟩
    · have h5 : ∀ q ∈ strs, q.1 = "Branchyard" := by decide +kernel
      rw [h5 q hq]
      obtain ⟨-, h6, -⟩ := hD 0 _ rfl
      exact ⟨_, h6⟩
    · have e0 : G.2.2.2 0 = a0 := by rw [hG]; rfl
      rw [e0]
      exact va_Zof (hts _ (List.mem_of_getElem? (i := 947) (by decide +kernel))) (htg _ (gd_at 78 (by decide +kernel) (by decide +kernel))) hev hnA
    · have e0 : G.2.2.2 0 = a0 := by rw [hG]; rfl
      have e1 : G.2.2.1 12 = cA 12 := by rw [hG]
      rw [e0, e1]
      exact ⟨ce, hce, hcl, hst1, hsz⟩
    · have e0 : G.2.2.2 0 = a0 := by rw [hG]; rfl
      rw [e0]
      exact hnA a0 ha0
    · have e0 : G.2.2.2 1 = mi := by rw [hG]; rfl
      rw [e0]
      exact hmi
    · have hq2 : q = (⟨"java/util/Iterator", "hasNext", "()Z"⟩, yJx35411_hasNext_aae02) ∨ q = (⟨"java/util/Iterator", "next", "()Ljava/lang/Object;"⟩, yJx35411_next_0502b) := by simpa [fws] using hq
      rcases hq2 with rfl | rfl
      · exact va_Fw.of (A := #[Value.ref b]) (hts _ (by decide +kernel)) (hts _ (by decide +kernel)) (hts _ (by decide +kernel)) (hts _ (by decide +kernel)) (hts _ (by decide +kernel))
      · exact va_Fw.of (A := #[Value.ref b]) (hts _ (by decide +kernel)) (hts _ (by decide +kernel)) (hts _ (by decide +kernel)) (hts _ (by decide +kernel)) (hts _ (by decide +kernel))
  have hNC : NC s := fun q hq => va_Nc.of (hfl _ (st_ncs q hq))
  have hl0 : l.stackTraces = false := by
    unfold Launch.stackTraces
    rw [hflags]
    decide
  have hC : Cx (p, l, e, room_1, s, m, #[Value.ref b], below, meth, c, vx_MQ below (QcM G (fun v _ => v = some (iv 1))) (XcM G NX) #[Value.ref b] s 603072 7219306 (AB G)) G "BranchyardLaw" cL_law 9 16 603072 7219306 :=
    ⟨⟨hx, hb, hml, hown, htg⟩, ⟨Nat.le_of_ble_eq_true rfl, Nat.le_of_ble_eq_true rfl, rfl, rfl⟩, hEnv, hlk, hl0⟩
  have hV := law_walk (X := (p, l, e, room_1, s, m, #[Value.ref b], below, meth, c, vx_MQ below (QcM G (fun v _ => v = some (iv 1))) (XcM G NX) #[Value.ref b] s 603072 7219306 (AB G))) (G := G) (nm := meth.name) (Pv := fun v _ => v = some (iv 1)) (Px := NX) (mc := 603072) (ms := 7219306) (p := b) (N := L) (sc := xs) (ad := fun _ _ _ => 0) hl0 hC hNC ⟨hX, hnA b hbl⟩ hL ⟨hr, rfl, hexc, rfl⟩ (fun _ => rfl) (by decide) (by decide)
  have hl := lv_entry [Value.ref b] (n := 9) (Nat.le_of_ble_eq_true rfl)
  rw [lg_entry_eq]
  have hW := hV s.heap [] _ ⟨fun _ _ _ h => h.elim, fun _ _ _ _ _ _ h => h.elim⟩ va_S.rf (by show lv_has _ c.maxLocals _; rw [hml]; exact hl)
  intro T hT XX
  obtain ⟨t, b1, b2⟩ := hW T hT XX
  exact ⟨t, b1, st_post hGB b2⟩

set_option maxHeartbeats 4000000 in
theorem lw_walk (l : Launch) (hflags : l.flags = flags0) (b : Addr) (xs : List Int32) : MetFree l x (headSpec (Jvm.Cond.code x code maxLocals ret :: tables_1) room_1) (lw_P b xs) (fun _ _ _ _ _ => True) lw_Q := by
  refine MetFree.of_bodyS (code := code) (maxLocals := maxLocals) (ret := ret) (by decide) ?_ ?_
  · intro args s m h hn
    obtain ⟨meth, c, h1, h2, h3, h4, h5, h6, -, -⟩ := Cond.code_spec hn (atoms_spec (ws := Jvm.Cond.code x code maxLocals ret :: tables_1) h _ List.mem_cons_self)
    exact ⟨meth, c, h1, h2, h3, h4, h5, h6⟩
  · intro p e s m args below meth c s₁ B hml0 hP _
    obtain ⟨rfl, hx, hbd, hgv⟩ := hP
    obtain ⟨scr, harrAt, hlist, hof, hsmall⟩ := hx
    obtain ⟨hcb, hkn, -, -⟩ := State.arrayAt?_spec harrAt
    have hown : s.vm.findClass R_law = some m.cls := findClass_of_methodNamed B.named
    have hts0 : ∀ c ∈ (Jvm.Cond.code x code maxLocals ret :: tables_1), c.before #[Value.ref b] s = true := atoms_spec (ws := Jvm.Cond.code x code maxLocals ret :: tables_1) B.pre
    have hts : ∀ w ∈ lw_tbl, w.before #[Value.ref b] s = true := k2_hts_sels lw_privs (fun w hw => hts0 w (List.mem_cons_of_mem _ hw)) lw_privs_ok
    have hml : c.maxLocals = 9 := B.maxLocals_eq (hts0 _ List.mem_cons_self)
    have hexc : ∀ z ∈ c.exceptionTable.toList, False := by
      obtain ⟨meth9, c9, k1, k2, -, -, -, -, k7, -⟩ := Cond.code_spec B.named (hts0 _ List.mem_cons_self)
      cases Option.some.inj (k1.symm.trans B.method)
      cases Option.some.inj (k2.symm.trans (Stand.of_body B).code)
      intro z hz
      rw [Array.isEmpty_iff.mp k7] at hz
      cases hz
    have X₀ : Stand p l e room_1 s m #[Value.ref b] below meth c s₁ [] 0 0 := Stand.of_body B
    have hh0 : s₁.heap = s.heap := by rw [B.state]; rfl
    have hsz : scr.slots.size = xs.length := by rw [← Array.length_toList, hlist, List.length_map]
    have hval : ∀ j : Nat, j < xs.length → scr.slots[j]? = some (.int (xs.getD j 0)) := fun j hj => by
      rw [← Array.getElem?_toList, hlist]
      simp [hj]
    have hbl : b < s.heap.size := (Array.getElem?_eq_some_iff.mp hcb).1
    have hX : va_X b xs.length (fun j => xs.getD j 0) s s.heap := ⟨scr, hcb, hof, hkn, hsz, hval⟩
    have K : W p l e room_1 s m #[Value.ref b] below meth c s₁.heap [] 0 0 (lw_Z below #[Value.ref b] s) (entryFrame m ([Value.ref b] : List Value).toArray 9) := by
      rw [hh0]
      exact whole_start l hflags hbd ⟨B.exec, B.bytes, B.returns, hml, hown, hts, hX, hbl, B.notSynchronized, hgv, hexc⟩
    obtain ⟨t, a1, o, b1, b2, b3⟩ := K s₁ rfl X₀
    exact ⟨t, o, a1, b1, b2, b3⟩
theorem lw_pre_spec {args : Array Value} {s : State} (h : (Jvm.Cond.and given_1 narrow_1).before args s = true) (hr : rest_1_c.before args s = true) : ∃ (b : Addr) (xs : List Int32), lw_P b xs args s := by
  have hs := flat_of_before _ h
  have hq := flat_of_before _ hr
  have hc : (Cond.count 1).before args s = true := hs _ (by decide +kernel)
  have harr : (Cond.arrayOf (.arg 0) .int).before args s = true := hs _ (by decide +kernel)
  have hle : (Cond.le (.length (.arg 0)) (.int 3072)).before args s = true := hs _ (by decide +kernel)
  have hlen : (Cond.isInt (.length (.arg 0))).before args s = true := hq _ (by decide +kernel)
  have hall : (Cond.all (.arg 0) (.isInt (.elem (.arg 0) (.index 0)))).before args s = true := hq _ (by decide +kernel)
  obtain ⟨b, xs, hb, hx⟩ := State.ints_of_pre rfl harr hlen hall
  have hsm : xs.length < 2 ^ 31 := hx.choose_spec.2.2.2
  have hev : (Term.length (.arg 0)).eval args s none [] s = some (.int xs.length.toInt32) := hx.length_eval hb
  have hv := Cond.le_ints hev (show (Term.int 3072).eval args s none [] s = some (.int 3072) from rfl)
  have hd : xs.length.toInt32 ≤ 3072 := by
    simpa [Cond.before, Cond.holds, hv] using hle
  have hN : xs.length ≤ 3072 := (Int32.ofNat_le_ofNat hsm (by decide)).mp (show Int32.ofNat xs.length ≤ Int32.ofNat 3072 from hd)
  exact ⟨b, xs, Cond.one_arg hc (show args[0]? = some (.ref b) from hb), hx, hN, h⟩
theorem lw_comes (l : Launch) (hflags : l.flags = flags0) : Comes l x (Jvm.Cond.code x code maxLocals ret :: tables_1) room_1 (fun tb e args s => Calls_1 tb e args s ∧ rest_1 tb e args s ∧ Pre_1 tb e args s)
    (fun _ _ args s o t => lw_Q args s o t) := by
  intro p e ha hc hk s m args below hf hfit hheap happ hpre
  obtain ⟨b, xs, hP⟩ := lw_pre_spec hpre.2.2 hpre.2.1
  obtain ⟨k, o, h1, h2, h3, hQ⟩ := lw_walk l hflags b xs p e ha hc hk s m args below hf ((Spec.applies_iff_loose hf).mp happ).1 hP trivial
  exact ⟨k, o, h1, h2, h3, hQ⟩
theorem lw_frame {s t : State} {o : Outcome} {args : Array Value} (h : State.butDraws s t lw_cs (fun t1 => Framed s o t1 [] 603072 7219306)) :
    State.butDraws s t [Jvm.Choice.named "NaN.bits"] (fun t1 => Framed s o t1 (fieldLocs frame_1_writes args s ++ arrayLocs frame_1_arrays args s ++ staticLocs frame_1_statics s) 603072 7219306) := h
theorem lw_limb (L : Cond) (hL : ∀ (args : Array Value) (s t : State), L.after args s (.returned (some (.int 1))) t = true) :
    ArmFor flags0 classFile x code maxLocals ret World_1 tables_1 room_1 Calls_1 rest_1 Pre_1
      (fun tb e a s o t => postC L tb e a s o t ∧ State.butDraws s t [Jvm.Choice.named "NaN.bits"] (fun t1 => Framed s o t1 (fieldLocs frame_1_writes a s ++ arrayLocs frame_1_arrays a s ++ staticLocs frame_1_statics s) 603072 7219306)) := by
  intro l hflags _ _ p e ha hc hk s m args below hf hfit hheap happ hpre
  obtain ⟨k, o, h1, h2, h3, rfl, hF⟩ := lw_comes l hflags p e ha hc hk s m args below hf hfit hheap happ hpre
  exact ⟨k, _, h1, h2, h3, hL args s _, lw_frame hF⟩

