/-! ===== arrays of three dimensions: 16 of 6 of 64 ===== -/
def cell3 (c : ClassId) (h0 : Nat) : Nat → Cell
  | 0 => { cls := c, slots := Array.replicate 16 .null, vm := .none }
  | i + 1 => (cell3 c h0 i).setSlot i (.ref (h0 + 1 + i * 7))
def fill3 (s : State) (c c2 c3 : ClassId) (dv : Value) : Nat → State
  | 0 => s.pushCell (cell3 c s.heap.size 0)
  | i + 1 => (Jvm.Free.Multi.fill (fill3 s c c2 c3 dv i) c2 c3 6 64 dv 6).setCell s.heap.size (cell3 c s.heap.size (i + 1))
theorem cell3_facts (c : ClassId) (h0 : Nat) : ∀ i, (cell3 c h0 i).cls = c ∧ (cell3 c h0 i).vm = .none ∧ (cell3 c h0 i).slots.size = 16
  | 0 => ⟨rfl, rfl, by simp [cell3]⟩
  | i + 1 => by
    obtain ⟨a, b, d⟩ := cell3_facts c h0 i
    exact ⟨by simp [cell3, Cell.setSlot, a], by simp [cell3, Cell.setSlot, b], by simp [cell3, Cell.setSlot, d]⟩
theorem cell3_slot (c : ClassId) (h0 : Nat) : ∀ i j, j < 16 → (cell3 c h0 i).slots[j]? = some (if j < i then .ref (h0 + 1 + j * 7) else .null)
  | 0, j, h => by simp [cell3, h]
  | i + 1, j, h => by
    have ih := cell3_slot c h0 i j h
    have hs := (cell3_facts c h0 i).2.2
    show ((cell3 c h0 i).setSlot i (.ref (h0 + 1 + i * 7))).slots[j]? = _
    simp only [Cell.setSlot, Array.getElem?_setIfInBounds]
    by_cases e : i = j
    · subst e; simp [hs, h]
    · rw [if_neg e, ih]
      by_cases hj : j < i
      · rw [if_pos hj, if_pos (by omega)]
      · rw [if_neg hj, if_neg (by omega)]
theorem fill3_facts (s : State) (c c2 c3 : ClassId) (dv : Value) : ∀ i, (fill3 s c c2 c3 dv i).heap.size = s.heap.size + 1 + i * 7 ∧ (fill3 s c c2 c3 dv i).heap[s.heap.size]? = some (cell3 c s.heap.size i) ∧
    (fill3 s c c2 c3 dv i).vm = s.vm ∧ (fill3 s c c2 c3 dv i).slotsUsed = s.slotsUsed + 16 + i * 390
  | 0 => ⟨by simp [fill3], by simp [fill3], rfl, by simp [fill3, cell3]⟩
  | i + 1 => by
    obtain ⟨a, b, d, u⟩ := fill3_facts s c c2 c3 dv i
    obtain ⟨a1, b1, d1, u1⟩ := Jvm.Free.Multi.fill_facts (fill3 s c c2 c3 dv i) c2 c3 6 64 dv 6
    have hlt : s.heap.size < (fill3 s c c2 c3 dv i).heap.size := by omega
    have hb' : (Jvm.Free.Multi.fill (fill3 s c c2 c3 dv i) c2 c3 6 64 dv 6).heap[s.heap.size]? = some (cell3 c s.heap.size i) := by rw [Jvm.Free.Multi.fill_old _ _ _ _ _ _ hlt]; exact b
    refine ⟨?_, State.heap_setCell_self hb', by simp [fill3, d1, d], ?_⟩
    · simp [fill3, State.setCell, a1, a]; omega
    · simp [fill3, u1, u]; omega
theorem fill3_setTop (s : State) (f : JFrame) (c c2 c3 : ClassId) (dv : Value) : ∀ i, fill3 (s.setTop f) c c2 c3 dv i = (fill3 s c c2 c3 dv i).setTop f
  | 0 => rfl
  | i + 1 => by simp only [fill3, fill3_setTop s f c c2 c3 dv i, State.heap_setTop, Jvm.Free.Multi.fill_setTop, State.setCell_setTop]
theorem fill3_old (s : State) (c c2 c3 : ClassId) (dv : Value) {a : Addr} (ha : a < s.heap.size) : ∀ i, (fill3 s c c2 c3 dv i).heap[a]? = s.heap[a]?
  | 0 => State.heap_pushCell_of_lt _ _ ha
  | i + 1 => by
    have f1 := (fill3_facts s c c2 c3 dv i).1
    have hlt : a < (fill3 s c c2 c3 dv i).heap.size := Nat.lt_of_lt_of_le ha (by rw [f1]; omega)
    show ((Jvm.Free.Multi.fill (fill3 s c c2 c3 dv i) c2 c3 6 64 dv 6).setCell s.heap.size _).heap[a]? = _
    rw [State.heap_setCell_other (Nat.ne_of_gt ha), Jvm.Free.Multi.fill_old _ _ _ _ _ _ hlt]
    exact fill3_old s c c2 c3 dv ha i
theorem fill3_in (s : State) (c c2 c3 : ClassId) (dv : Value) : ∀ i j, j < i → (fill3 s c c2 c3 dv i).heap[s.heap.size + 1 + j * 7]? = some (Jvm.Free.Multi.outerC c2 6 (s.heap.size + 1 + j * 7) 6) ∧
    ∀ q, q < 6 → (fill3 s c c2 c3 dv i).heap[s.heap.size + 1 + j * 7 + 1 + q]? = some (Jvm.Free.Multi.innerC c3 64 dv)
  | 0, _, h => absurd h (Nat.not_lt_zero _)
  | i + 1, j, h => by
    have f1 := (fill3_facts s c c2 c3 dv i).1
    have e : ∀ a, a ≠ s.heap.size → (fill3 s c c2 c3 dv (i + 1)).heap[a]? = (Jvm.Free.Multi.fill (fill3 s c c2 c3 dv i) c2 c3 6 64 dv 6).heap[a]? := fun a ha => State.heap_setCell_other (Ne.symm ha)
    rcases Nat.lt_or_ge j i with hj | hj
    · obtain ⟨h1, h2⟩ := fill3_in s c c2 c3 dv i j hj
      refine ⟨?_, fun q hq => ?_⟩
      · have hlt : s.heap.size + 1 + j * 7 < (fill3 s c c2 c3 dv i).heap.size := by rw [f1]; omega
        rw [e _ (by omega), Jvm.Free.Multi.fill_old _ _ _ _ _ _ hlt]
        exact h1
      · have hlt : s.heap.size + 1 + j * 7 + 1 + q < (fill3 s c c2 c3 dv i).heap.size := by rw [f1]; omega
        rw [e _ (by omega), Jvm.Free.Multi.fill_old _ _ _ _ _ _ hlt]
        exact h2 q hq
    · have ej : j = i := by omega
      subst ej
      refine ⟨?_, fun q hq => ?_⟩
      · rw [e _ (by omega), ← f1]
        exact (Jvm.Free.Multi.fill_facts (fill3 s c c2 c3 dv j) c2 c3 6 64 dv 6).2.1
      · rw [e _ (by omega), ← f1]
        exact Jvm.Free.Multi.fill_inner (fill3 s c c2 c3 dv j) c2 c3 6 64 dv 6 q hq
theorem wp_make3 {E : CtlPost} {e : Env} {d : Bool} {acts : List Action} {s : State} {c c2 c3 cc : ClassId} {k1 k2 k3 : Class} {t0 t1 type : FieldType} {n m k : Int32} (hk1 : s.vm.classes[c]? = some k1) (hkind1 : k1.kind = .array c2 t0) (href0 : t0.isReference = true)
    (hk2 : s.vm.classes[c2]? = some k2) (hkind2 : k2.kind = .array c3 t1) (href1 : t1.isReference = true) (hk3 : s.vm.classes[c3]? = some k3) (hkind3 : k3.kind = .array cc type) (hn : ¬ n < 0) (hm : ¬ m < 0) (hk : ¬ k < 0)
    (en : n.toNatClampNeg = 16) (em : m.toNatClampNeg = 6) (ek : k.toNatClampNeg = 64) (hl : 1024 ≤ e.platform.arrayLengthLimit) (hh : 1024 ≤ e.platform.maxHeapBytes) (hb0 : componentBytes t0 ≤ 8) (hb1 : componentBytes t1 ≤ 8) (hb2 : componentBytes type ≤ 8)
    (hdf : fits type (defaultValue type) = true) (hdd : (defaultValue type).isDefault = true) (hc : s.heap.size + 113 ≤ e.platform.maxCells) (hs : s.slotsUsed + 6256 ≤ e.platform.maxSlots)
    {Q : Addr → Pre} (hq : ∀ d' acts', Q s.heap.size d' acts' (fill3 s c c2 c3 (defaultValue type) 16)) :
    wp (multianewarray.make c [n, m, k]) Q E e d acts s := by
  have hfind : ([m, k].find? (· < 0)) = none := by simp [hm, hk]
  rw [multianewarray.make]
  simp only [wp_bind', W.ite, hn, if_false, wp_pure', W.theClass, hk1, hkind1, Option.some.injEq, exists_eq_left', en]
  refine Jvm.Free.Multi.wp_newArray hk1 hkind1 (by omega) (by omega) (Jvm.Free.Multi.refFits href0 _ (Or.inl rfl)) rfl (by omega) (by omega) ?_
  simp only [hfind]
  rw [ite_self, wp_bind', Std.Legacy.Range.forIn_eq_forIn_range']
  have hsz : ([:16] : Std.Legacy.Range).size = 16 := by simp [Std.Legacy.Range.size]
  rw [hsz]
  show wp (forIn (List.range' 0 16 1) PUnit.unit _) _ E e d acts _
  refine wp_forIn_inv (fun rest s' => ∃ i, i ≤ 16 ∧ rest = List.range' i (16 - i) ∧ s' = fill3 s c c2 c3 (defaultValue type) i) _ _ ⟨0, Nat.zero_le _, rfl, rfl⟩ ?_ ?_
  · rintro x rest s' d' acts' Q' ⟨i, hi, hl', rfl⟩ hnext
    have hlt : i < 16 := by
      rcases Nat.lt_or_ge i 16 with h | h
      · exact h
      · rw [show 16 - i = 0 from by omega] at hl'; simp at hl'
    obtain ⟨rfl, hrest⟩ : x = i ∧ rest = List.range' (i + 1) (16 - (i + 1)) := by
      rw [show 16 - i = (16 - (i + 1)) + 1 from by omega, List.range'_succ] at hl'
      exact ⟨(List.cons.inj hl').1, (List.cons.inj hl').2⟩
    obtain ⟨f1, f2, f3, f4⟩ := fill3_facts s c c2 c3 (defaultValue type) x
    obtain ⟨o1, o2, o3⟩ := cell3_facts c s.heap.size x
    simp only [wp_bind']
    refine Jvm.Free.Multi.wp_make2 (by rw [f3]; exact hk2) hkind2 href1 (by rw [f3]; exact hk3) hkind3 hm hk (by omega) (by rw [em]; omega) (by omega) (by rw [ek]; omega) hdf hdd (by rw [f1, em]; omega) (by rw [f4, em, ek]; omega) (fun d' acts' => ?_)
    have hlt0 : s.heap.size < (fill3 s c c2 c3 (defaultValue type) x).heap.size := by rw [f1]; omega
    rw [em, ek]
    obtain ⟨g1, g2, g3, g4⟩ := Jvm.Free.Multi.fill_facts (fill3 s c c2 c3 (defaultValue type) x) c2 c3 6 64 (defaultValue type) 6
    simp only [wp_bind', W.writeLoc, wp_pure']
    refine ⟨cell3 c s.heap.size x, by rw [Jvm.Free.Multi.fill_old _ _ _ _ _ _ hlt0]; exact f2, by rw [o2]; simp, by rw [o3]; exact hlt, ?_, hnext _ _ _ ⟨x + 1, hlt, hrest, ?_⟩⟩
    · rw [o1, o2]
      simp [State.fitsSlot, State.slotType?, g3, f3, hk1, hkind1, Jvm.Free.Multi.refFits href0 _ (Or.inr ⟨_, rfl⟩)]
    · rw [f1]; rfl
  · rintro s' d' acts' ⟨i, hi, hl', rfl⟩
    have hiN : i = 16 := by
      rcases Nat.lt_or_ge i 16 with h | h
      · rw [show 16 - i = (16 - (i + 1)) + 1 from by omega, List.range'_succ] at hl'; cases hl'
      · omega
    subst hiN
    simp only [wp_pure']
    exact hq _ _
section MNA3
variable {p : Program} {l : Launch} {e : Env} {R : Room} {s : State} {m : MethodId} {args : Array Value} {below : List Frame} {meth : Method} {c : Code} {T : State} {locs : List Loc} {cells slots : Nat}
theorem filled3 (X : Stand p l e R s m args below meth c T locs cells slots) (cA c2 c3 : ClassId) (dv : Value) : ∀ i, Stand p l e R s m args below meth c (fill3 T cA c2 c3 dv i) locs (cells + 1 + i * 7) (slots + 16 + i * 390)
  | 0 => by
    have h := X.pushed (cell3 cA T.heap.size 0)
    rw [(cell3_facts cA T.heap.size 0).2.2] at h
    simpa [fill3] using h
  | i + 1 => by
    have Xi := filled3 X cA c2 c3 dv i
    obtain ⟨f1, f2, f3, f4⟩ := fill3_facts T cA c2 c3 dv i
    have hlt0 : T.heap.size < (fill3 T cA c2 c3 dv i).heap.size := by rw [f1]; omega
    have X2 := (Xi.filled c2 c3 6 64 dv 6).dropFresh (fun x hx => by
      obtain ⟨j, -, rfl⟩ := List.mem_map.mp hx
      exact Xi.heapGrown)
    have hcell : (Jvm.Free.Multi.fill (fill3 T cA c2 c3 dv i) c2 c3 6 64 dv 6).heap[T.heap.size]? = some (cell3 cA T.heap.size i) := by rw [Jvm.Free.Multi.fill_old _ _ _ _ _ _ hlt0]; exact f2
    have X3 := (X2.stored hcell i (.ref (T.heap.size + 1 + i * 7))).dropFresh (fun x hx => by
      rw [List.mem_singleton.mp hx]
      exact X.heapGrown)
    have e1 : cells + 1 + (i + 1) * 7 = cells + 1 + i * 7 + 1 + 6 := by omega
    have e2 : slots + 16 + (i + 1) * 390 = slots + 16 + i * 390 + 6 + 6 * 64 := by omega
    rw [e1, e2]
    exact X3
theorem multi3 (X : Stand p l e R s m args below meth c T locs cells slots) (hexec : p.tables.exec = Jvm.exec) {own : String} {index : Nat} {ty : FieldType}
    (hown : s.vm.findClass own = some m.cls) (hclink : (Cond.classLink own index ("[" ++ (FieldType.array (.array ty)).toString)).before args s = true)
    (hover : (Cond.arrayOver (.array (.array ty))).before args s = true) (hover2 : (Cond.arrayOver (.array ty)).before args s = true) (harr : (Cond.arrayClass ty).before args s = true)
    {g : JFrame} (hg : g.method = m) (hdg : decode c.code g.pc = .ok (.multianewarray index 3, 4)) {n q k : Int32} {rest : List Value} (hstack : g.stack = .int k :: .int q :: .int n :: rest)
    (hn : ¬ n < 0) (hq : ¬ q < 0) (hk : ¬ k < 0) (en : n.toNatClampNeg = 16) (eq : q.toNatClampNeg = 6) (ek : k.toNatClampNeg = 64) (hb : componentBytes ty ≤ 8)
    (hdf : fits ty (defaultValue ty) = true) (hdd : (defaultValue ty).isDefault = true)
    (hcells : cells + 113 ≤ R.cells) (hslots : slots + 6256 ≤ R.slots) :
    ∃ (vm₁ : Vm) (cA c2 c3 : ClassId), s.WarmedH vm₁ ∧ s.vm.findClass ("[" ++ (FieldType.array (.array ty)).toString) = some cA ∧ s.vm.findClass ("[" ++ (FieldType.array ty).toString) = some c2 ∧ s.vm.findClass ("[" ++ ty.toString) = some c3 ∧
      Stand p l e R s m args below meth c (fill3 (T.setVm vm₁) cA c2 c3 (defaultValue ty) 16) locs (cells + 113) (slots + 6256) ∧
      ∀ target, Steps p.tables e below ((fill3 (T.setVm vm₁) cA c2 c3 (defaultValue ty) 16).setTop { g with pc := g.pc + 4, stack := .ref T.heap.size :: rest }) target →
        Steps p.tables e below (T.setTop g) target := by
  subst hg
  have hpl : e.platform.magicAccessors = ({} : Platform).magicAccessors := by rw [X.admits.platform]
  obtain ⟨c2, cA, kA, hc2, hkA, hkindA, hnameA⟩ := Cond.arrayOver_specA hover
  obtain ⟨c3, c2', kB, hc3, hkB, hkindB, hnameB⟩ := Cond.arrayOver_specA hover2
  have ec2 : c2' = c2 := Option.some.inj (hnameB.symm.trans hc2)
  subst ec2
  obtain ⟨c3', kC, cc, hc3', hkC, hkindC⟩ := Cond.arrayClass_spec harr
  have ec3 : c3' = c3 := Option.some.inj (hc3'.symm.trans hc3)
  subst ec3
  obtain ⟨c0, hfc0, hcl⟩ := Cond.classLink_spec hown hclink e.platform hpl
  cases hnameA.symm.trans hfc0
  obtain ⟨hg₁, hwarm₁, hready₁⟩ := State.classEntry (e := e) X.warmed hcl
  generalize T.vm.noted g.method.cls index (.cls cA) = vm₁ at hg₁ hwarm₁ hready₁
  have hal : s.vm.Alike vm₁ := hwarm₁.alike
  obtain ⟨kA₁, hkA₁, heA⟩ := hal.2.2 _ _ hkA
  obtain ⟨kB₁, hkB₁, heB⟩ := hal.2.2 _ _ hkB
  obtain ⟨kC₁, hkC₁, heC⟩ := hal.2.2 _ _ hkC
  have hkindA₁ : kA₁.kind = .array c2' (.array (.array ty)) := by rw [heA]; exact hkindA
  have hkindB₁ : kB₁.kind = .array c3' (.array ty) := by rw [heB]; exact hkindB
  have hkindC₁ : kC₁.kind = .array cc ty := by rw [heC]; exact hkindC
  have X₁ := X.noted hwarm₁
  obtain ⟨hr1, hr2⟩ := X.roomAbove hcells hslots
  have XF := filled3 X₁ cA c2' c3' (defaultValue ty) 16
  refine ⟨vm₁, cA, c2', c3', hwarm₁, hnameA, hc2, hc3', ?_, fun target hrest => ?_⟩
  · have e1 : cells + 113 = cells + 1 + 16 * 7 := by omega
    have e2 : slots + 6256 = slots + 16 + 16 * 390 := by omega
    rw [e1, e2]
    exact XF
  have hl1 : 1024 ≤ e.platform.arrayLengthLimit := by rw [Launch.admits_arrayLengthLimit X.admits]; omega
  have hh1 : 1024 ≤ e.platform.maxHeapBytes := by rw [Launch.admits_maxHeapBytes X.admits]; omega
  jvm_step X.here [hexec, hdg]
  simp only [multianewarray.sem, wp_bind', W.resolveClassAt_links (State.method?_setTop g X.here.top) hg₁]
  rw [W.popN, if_neg (by decide)]
  refine ⟨g, State.topJava?_setTop' (s := T.setVm vm₁) g X.here.top, [.int n, .int q, .int k], rest, rfl, hstack, ?_⟩
  simp only [List.mapM_cons, List.mapM_nil, wp_bind', wp_pure']
  refine wp_make3 (k1 := kA₁) (k2 := kB₁) (k3 := kC₁) (c2 := c2') (c3 := c3') (cc := cc) (t0 := .array (.array ty)) (t1 := .array ty) (type := ty) hkA₁ hkindA₁ rfl hkB₁ hkindB₁ rfl hkC₁ hkindC₁ hn hq hk en eq ek hl1 hh1 (by show 4 ≤ 8; omega) (by show 4 ≤ 8; omega) hb hdf hdd (by show T.heap.size + 113 ≤ _; omega) (by show T.slotsUsed + 6256 ≤ _; omega) (fun d' acts' => ?_)
  have eS : ((T.setTop g).setVm vm₁).setTop { g with stack := rest } = (T.setVm vm₁).setTop { g with stack := rest } := by
    show ((T.setVm vm₁).setTop g).setTop _ = _
    rw [State.setTop_setTop]
  rw [eS, fill3_setTop]
  simp only [wp_bind', W.mark, W.pushRef, State.topJava?_setTop' _ XF.here.top, Option.some.injEq, exists_eq_left', State.setTop_setTop, State.heap_setTop]
  intro acts
  simp [jvm, XF.here.top]
  exact hrest
end MNA3
