/-! ===== the words that every method has: one list for all ===== -/
def lw_good : List Cond := lw_tbl.filter goodWord
theorem gd_in {w : Cond} (h : w ∈ lw_tbl) (g : goodWord w = true) : w ∈ lw_good := List.mem_filter.mpr ⟨h, g⟩
theorem gd_at {w : Cond} (i : Nat) (h : lw_tbl[i]? = some w) (g : goodWord w = true) : w ∈ lw_good := gd_in (List.mem_of_getElem? h) g
theorem gd_ok {w : Cond} (h : w ∈ lw_good) : goodWord w = true := (List.mem_filter.mp h).2
theorem gd_good {w0 : Cond} (h : w0 ∈ lw_good) : GoodIn lw_good (w0 :: lw_good) := fun w hw => by
  rcases List.mem_cons.mp hw with rfl | h1
  · exact ⟨h, good_of_word (gd_ok h)⟩
  · exact ⟨h1, good_of_word (gd_ok h1)⟩
/-- words that are not 'good', but stay true when the tables grow warm -/
def ngw : Cond → Bool
  | .fieldLinkNest .. => true
  | .methodLinkNest .. => true
  | .castable .. => true
  | .declares .. => true
  | _ => false
def lw_ng : List Cond := lw_tbl.filter ngw
theorem ng_in {w : Cond} (h : w ∈ lw_tbl) (g : ngw w = true) : w ∈ lw_ng := List.mem_filter.mpr ⟨h, g⟩
theorem ng_at {w : Cond} (i : Nat) (h : lw_tbl[i]? = some w) (g : ngw w = true) : w ∈ lw_ng := ng_in (List.mem_of_getElem? h) g
theorem ng_warm {w : Cond} (hw : ngw w = true) {s U : State} (hW : s.WarmedH U.vm) (h : va_Nw w s) : va_Nw w U := by
  cases w with
  | fieldLinkNest a i b n d h0 => exact va_Nw.warmF hW h
  | methodLinkNest a i x h0 => exact va_Nw.warmM hW h
  | castable a b => exact va_Nw.warmC hW h
  | declares x => exact va_Nw.warmD hW h
  | _ => cases hw
theorem ng_tables {w : Cond} (hw : ngw w = true) : w.onTables = true := by
  cases w <;> first | rfl | (cases hw; done) | simp [Cond.onTables]
/-- an array class over a class or over arrays has been made -/
def AOt (t : FieldType) (U : State) : Prop := (Cond.arrayOver t).before #[] U = true
theorem AOt.use {t : FieldType} {A : Array Value} {U : State} (h : AOt t U) : (Cond.arrayOver t).before A U = true := h
theorem AOt.of {t : FieldType} {A : Array Value} {U : State} (h : (Cond.arrayOver t).before A U = true) : AOt t U := h
theorem AOt.moved {t : FieldType} {u U : State} (hvm : u.vm.Alike U.vm) (h : AOt t u) : AOt t U := by
  unfold AOt Cond.before Cond.holds at h ⊢
  simp only [Cond.value, beq_iff_eq, Option.bind_eq_some_iff, Option.map_eq_some_iff] at h ⊢
  obtain ⟨comp, hc, c, hi, k, hk, hb⟩ := h
  obtain ⟨k', hk', he⟩ := hvm.2.2 _ _ hk
  have hkk : k'.kind = k.kind := by rw [he]
  refine ⟨comp, ?_, c, ?_, k', hk', ?_⟩
  · cases t <;> first | exact hc | (simp only at hc ⊢; rw [hvm.findClass]; exact hc)
  · refine (va_idx_bare U.vm comp).symm.trans ?_
    first | rw [hvm.bare_eq] | rw [← hvm.bare_eq]
    exact (va_idx_bare u.vm comp).trans hi
  · simp only [hkk, hvm.findClass]
    exact hb
def aos : List FieldType := lw_tbl.filterMap (fun w => match w with | .arrayOver t => some t | _ => none)
/-! ===== the picture: one memory of numbers for the class and for the model ===== -/
abbrev GT : Type := va_G × Nat × (Nat → ClassId) × (Nat → Nat)
abbrev KF : Type := Nat → Nat → Nat → Prop
abbrev AD : Type := Nat → Nat → Nat → Nat
abbrev SG : Type := Nat → Nat → Nat → Nat → Nat
abbrev MT : Type := KF × AD × SG
abbrev iv (n : Nat) : Value := .int (nI n)
abbrev jv (n : Nat) : Value := .long (lN n)
def rf : Nat → Option Nat
  | 0 => none
  | n + 1 => some n
def dm : Nat → Int32
  | 0 => -1
  | n + 1 => nI n
def AB (G : GT) : Nat → Prop := fun q => G.2.1 ≤ q
abbrev CL : List vw_C := [(RX5, TX5, 12), (RX1, TX1, 9), (RX2, TX2, 2), (RX3, TX3, 4), (RX4, TX4, 7), (RX0, TX0, 3), (RX6, TX6, 26), (RJx4a65c, TJx4a65c, 3), (RJx35411, TJx35411, 4)]
abbrev TYS (cA : Nat → ClassId) : List (ClassId × FieldType) := [(cA 0, .int), (cA 1, .boolean), (cA 2, .char), (cA 3, .long), (cA 4, .double), (cA 5, .object "Branchyard$Change"), (cA 6, .object "Branchyard$Test"), (cA 7, .object "Branchyard$Cell"), (cA 8, .array .int), (cA 9, .array .boolean), (cA 10, .array .char), (cA 11, .array (.array .int)), (cA 12, .object "java/lang/Object")]
abbrev eI (c : ClassId) (n : Nat) (s : Nat → Nat) : va_E := .inl (c, n, .inl fun x => nI (s x))
abbrev eM (c : ClassId) (n : Nat) (s : Nat → Nat) : va_E := .inl (c, n, .inl fun x => dm (s x))
abbrev eL (c : ClassId) (n : Nat) (s : Nat → Nat) : va_E := .inl (c, n, .inr (.inl fun x => lN (s x)))
abbrev eD (c : ClassId) (n : Nat) (s : Nat → Nat) : va_E := .inl (c, n, .inr (.inr (.inr (.inl fun x => UInt64.ofNat (s x)))))
abbrev eQ (c : ClassId) (n : Nat) (f : Nat → Option Nat) : va_E := .inl (c, n, .inr (.inr (.inr (.inr f))))
/-- what stands at a key -/
def enck (cA : Nat → ClassId) (ad : AD) (k i j : Nat) (s : Nat → Nat) : va_E := match k with
  | 0 => .inr (0, [.ref (ad 1 0 0), .ref (ad 2 0 0), .ref (ad 3 0 0), .ref (ad 4 0 0), .ref (ad 5 0 0), iv (s 0), .ref (ad 12 0 0), .ref (ad 12 1 0), .ref (ad 14 0 0), .ref (ad 15 0 0), .ref (ad 15 1 0), .ref (ad 16 0 0)])
  | 1 => eI (cA 0) 4 s
  | 2 => eI (cA 0) 4 s
  | 3 => eI (cA 1) 4 s
  | 4 => eI (cA 1) 6 s
  | 5 => eQ (cA 5) 16 (fun x => some (ad 6 x 0))
  | 6 => .inr (1, [iv (s 0), iv (s 1), iv (s 2), jv (s 3), jv (s 4), .ref (ad 7 i 0), .ref (ad 8 i 0), .ref (ad 9 i 0), .ref (ad 10 i 0)])
  | 7 => eI (cA 0) 64 s
  | 8 => eI (cA 0) 6 s
  | 9 => eL (cA 3) 6 s
  | 10 => eQ (cA 8) 6 (fun x => some (ad 11 i x))
  | 11 => eI (cA 0) 64 s
  | 12 => .inr (2, [.ref (ad 13 i 0), iv (s 0)])
  | 13 => eI (cA 0) 16 s
  | 14 => eI (cA 0) 4 s
  | 15 => eI (cA 0) 64 s
  | 16 => .inr (4, [.ref (ad 17 0 0), iv (s 0), .ref (ad 19 0 0), iv (s 1), .ref (ad 20 0 0), iv (s 2), jv (s 3)])
  | 17 => eQ (cA 6) 12 (fun x => some (ad 18 x 0))
  | 18 => .inr (3, [iv (s 0), iv (s 1), iv (s 2), iv (s 3)])
  | 19 => eQ (cA 7) 4 (fun x => rf (s x))
  | 20 => eI (cA 0) 24 s
  | 21 => .inr (5, [.ref (ad 22 i 0), iv (s 0), va_rf (rf (s 1))])
  | 22 => eI (cA 0) (s 30) s
  | 30 => .inr (6, [iv (s 0), .ref (ad 31 0 0), .ref (ad 32 0 0), .ref (ad 33 0 0), .ref (ad 34 0 0), .ref (ad 35 0 0), iv (s 1), .ref (ad 36 0 0), .ref (ad 37 0 0), .ref (ad 38 0 0), .ref (ad 39 0 0), .ref (ad 40 0 0), .ref (ad 42 0 0), .ref (ad 44 0 0), .ref (ad 46 0 0), .ref (ad 49 0 0), .ref (ad 50 0 0), .ref (ad 51 0 0), .ref (ad 52 0 0), .ref (ad 53 0 0), iv (s 2), iv (s 3), iv (s 4), iv (s 5), jv (s 6), .ref (ad 54 0 0)])
  | 31 => eI (cA 0) 64 s
  | 32 => eI (cA 0) 12 s
  | 33 => eI (cA 0) 12 s
  | 34 => eI (cA 0) 12 s
  | 35 => eI (cA 1) 12 s
  | 36 => eI (cA 0) 4 s
  | 37 => eI (cA 0) 4 s
  | 38 => eI (cA 1) 4 s
  | 39 => eI (cA 1) 6 s
  | 40 => eQ (cA 8) 16 (fun x => some (ad 41 x 0))
  | 41 => eM (cA 0) 64 s
  | 42 => eQ (cA 9) 16 (fun x => some (ad 43 x 0))
  | 43 => eI (cA 1) 64 s
  | 44 => eQ (cA 10) 16 (fun x => some (ad 45 x 0))
  | 45 => eI (cA 2) 6 s
  | 46 => eQ (cA 11) 16 (fun x => some (ad 47 x 0))
  | 47 => eQ (cA 8) 6 (fun x => some (ad 48 i x))
  | 48 => eM (cA 0) 64 s
  | 49 => eI (cA 0) 16 s
  | 50 => eI (cA 0) 16 s
  | 51 => eI (cA 0) 16 s
  | 52 => eI (cA 2) 16 s
  | 53 => eI (cA 1) 16 s
  | 54 => .inr (7, [iv (s 0), va_rf (rf (s 1)), iv (s 2)])
  | 55 => eQ (cA 12) (s 9000) (fun x => rf (s x))
  | 56 => eI (cA 0) (s 30) s
  | 57 => eI (cA 0) 4 s
  | 58 => eI (cA 1) 16 s
  | 59 => .inr (8, [iv (s 0), iv (s 1), iv (s 2), .ref (ad 54 0 0)])
  | 60 => eL (cA 3) 1 s
  | 61 => eD (cA 4) 1 s
  | 62 => eI (cA 0) 64 s
  | 80 => eI (cA (s 9001)) (s 9000) s
  | 81 => eL (cA 3) (s 9000) s
  | 82 => eQ (cA (s 9001)) (s 9000) (fun x => rf (s x))
  | 90 => .inr (0, [va_rf (rf (s 0)), va_rf (rf (s 1)), va_rf (rf (s 2)), va_rf (rf (s 3)), va_rf (rf (s 4)), iv (s 5), va_rf (rf (s 6)), va_rf (rf (s 7)), va_rf (rf (s 8)), va_rf (rf (s 9)), va_rf (rf (s 10)), va_rf (rf (s 11))])
  | 91 => .inr (1, [iv (s 0), iv (s 1), iv (s 2), jv (s 3), jv (s 4), va_rf (rf (s 5)), va_rf (rf (s 6)), va_rf (rf (s 7)), va_rf (rf (s 8))])
  | 92 => .inr (2, [va_rf (rf (s 0)), iv (s 1)])
  | 93 => .inr (3, [iv (s 0), iv (s 1), iv (s 2), iv (s 3)])
  | 94 => .inr (4, [va_rf (rf (s 0)), iv (s 1), va_rf (rf (s 2)), iv (s 3), va_rf (rf (s 4)), iv (s 5), jv (s 6)])
  | 95 => .inr (5, [va_rf (rf (s 0)), iv (s 1), va_rf (rf (s 2))])
  | 96 => .inr (6, [iv (s 0), va_rf (rf (s 1)), va_rf (rf (s 2)), va_rf (rf (s 3)), va_rf (rf (s 4)), va_rf (rf (s 5)), iv (s 6), va_rf (rf (s 7)), va_rf (rf (s 8)), va_rf (rf (s 9)), va_rf (rf (s 10)), va_rf (rf (s 11)), va_rf (rf (s 12)), va_rf (rf (s 13)), va_rf (rf (s 14)), va_rf (rf (s 15)), va_rf (rf (s 16)), va_rf (rf (s 17)), va_rf (rf (s 18)), va_rf (rf (s 19)), iv (s 20), iv (s 21), iv (s 22), iv (s 23), jv (s 24), va_rf (rf (s 25))])
  | 97 => .inr (7, [iv (s 0), va_rf (rf (s 1)), iv (s 2)])
  | 98 => .inr (8, [iv (s 0), iv (s 1), iv (s 2), va_rf (rf (s 3))])
  | _ => .inr (3, [iv (s 0), iv (s 1), iv (s 2), iv (s 3)])
def Rep (G : GT) (ok : KF) (ad : AD) (σ : SG) (H : Heap) : Prop :=
  (∀ k i j, ok k i j → va_at G.1 CL (ad k i j, enck G.2.2.1 ad k i j (σ k i j)) H ∧ G.2.1 ≤ ad k i j) ∧
  ∀ k i j k' i' j', ok k i j → ok k' i' j' → ad k i j = ad k' i' j' → k = k' ∧ i = i' ∧ j = j'
theorem one_P {D : va_G} {cl : List vw_C} {q : Nat × va_E} {H : Heap} (h : va_at D cl q H) : va_P D cl [q] H := fun k r hk => by
  cases k with
  | zero => cases hk; exact h
  | succ k => simp at hk
theorem Rep.one {G : GT} {ok : KF} {ad : AD} {σ : SG} {H : Heap} (h : Rep G ok ad σ H) {k i j : Nat} (hk : ok k i j) {e : va_E} (he : enck G.2.2.1 ad k i j (σ k i j) = e) : va_P G.1 CL [(ad k i j, e)] H := by
  subst he
  exact one_P (h.1 k i j hk).1
theorem Rep.lt {G : GT} {ok : KF} {ad : AD} {σ : SG} {H : Heap} (h : Rep G ok ad σ H) {k i j : Nat} (hk : ok k i j) : ad k i j < H.size := (h.1 k i j hk).1.lt
theorem Rep.ge {G : GT} {ok : KF} {ad : AD} {σ : SG} {H : Heap} (h : Rep G ok ad σ H) {k i j : Nat} (hk : ok k i j) : AB G (ad k i j) := (h.1 k i j hk).2
/-- one slot written, a row written over -/
def up (σ : SG) (k i j x v : Nat) : SG := fun k' i' j' x' => if k' = k ∧ i' = i ∧ j' = j ∧ x' = x then v else σ k' i' j' x'
def upr (σ : SG) (k i j : Nat) (f : Nat → Nat) : SG := fun k' i' j' x' => if k' = k ∧ i' = i ∧ j' = j then f x' else σ k' i' j' x'
theorem up_row (σ : SG) (k i j x v : Nat) : up σ k i j x v k i j = fun x' => if x' = x then v else σ k i j x' := by
  funext x'
  simp [up]
theorem up_off (σ : SG) {k i j : Nat} (x v : Nat) {k' i' j' : Nat} (h : ¬ (k' = k ∧ i' = i ∧ j' = j)) : up σ k i j x v k' i' j' = σ k' i' j' := by
  funext x'
  have h2 : ¬ (k' = k ∧ i' = i ∧ j' = j ∧ x' = x) := fun q => h ⟨q.1, q.2.1, q.2.2.1⟩
  simp only [up, if_neg h2]
theorem upr_row (σ : SG) (k i j : Nat) (f : Nat → Nat) : upr σ k i j f k i j = f := by
  funext x'
  simp [upr]
theorem upr_off (σ : SG) {k i j : Nat} (f : Nat → Nat) {k' i' j' : Nat} (h : ¬ (k' = k ∧ i' = i ∧ j' = j)) : upr σ k i j f k' i' j' = σ k' i' j' := by
  funext x'
  simp only [upr, if_neg h]
theorem Rep.set {G : GT} {ok : KF} {ad : AD} {σ σ' : SG} {H H1 : Heap} (h : Rep G ok ad σ H) {k i j : Nat} (hk : ok k i j) (he : va_at G.1 CL (ad k i j, enck G.2.2.1 ad k i j (σ' k i j)) H1) (oq : ∀ q, q ≠ ad k i j → H1[q]? = H[q]?)
    (ho : ∀ k' i' j', ¬ (k' = k ∧ i' = i ∧ j' = j) → σ' k' i' j' = σ k' i' j') : Rep G ok ad σ' H1 := by
  refine ⟨fun k' i' j' hk' => ?_, h.2⟩
  by_cases c : k' = k ∧ i' = i ∧ j' = j
  · obtain ⟨rfl, rfl, rfl⟩ := c
    exact ⟨he, (h.1 _ _ _ hk').2⟩
  · obtain ⟨h1, h2⟩ := h.1 k' i' j' hk'
    rw [ho k' i' j' c]
    exact ⟨h1.kept (oq _ fun q => c (h.2 _ _ _ _ _ _ hk' hk q)), h2⟩
theorem Rep.weak {G : GT} {ok ok' : KF} {ad : AD} {σ : SG} {H : Heap} (h : Rep G ok ad σ H) (hw : ∀ k i j, ok' k i j → ok k i j) : Rep G ok' ad σ H :=
  ⟨fun k i j q => h.1 k i j (hw k i j q), fun k i j k' i' j' q q' e => h.2 k i j k' i' j' (hw _ _ _ q) (hw _ _ _ q') e⟩
/-- the same cells under other keys -/
theorem Rep.map {G : GT} {ok ok' : KF} {ad ad' : AD} {σ σ' : SG} {H : Heap} (h : Rep G ok ad σ H) (f : Nat → Nat → Nat → Nat × Nat × Nat)
    (hf : ∀ k i j, ok' k i j → ok (f k i j).1 (f k i j).2.1 (f k i j).2.2 ∧ ad' k i j = ad (f k i j).1 (f k i j).2.1 (f k i j).2.2 ∧ enck G.2.2.1 ad' k i j (σ' k i j) = enck G.2.2.1 ad (f k i j).1 (f k i j).2.1 (f k i j).2.2 (σ (f k i j).1 (f k i j).2.1 (f k i j).2.2))
    (hi : ∀ k i j k' i' j', ok' k i j → ok' k' i' j' → f k i j = f k' i' j' → k = k' ∧ i = i' ∧ j = j') : Rep G ok' ad' σ' H := by
  refine ⟨fun k i j q => ?_, fun k i j k' i' j' q q' e => hi k i j k' i' j' q q' ?_⟩
  · obtain ⟨h1, h2, h3⟩ := hf k i j q
    rw [h2, h3]
    exact h.1 _ _ _ h1
  · obtain ⟨h1, h2, -⟩ := hf k i j q
    obtain ⟨h1', h2', -⟩ := hf k' i' j' q'
    rw [h2, h2'] at e
    obtain ⟨e1, e2, e3⟩ := h.2 _ _ _ _ _ _ h1 h1' e
    exact Prod.ext e1 (Prod.ext e2 e3)
/-- one key more -/
def okA (ok : KF) (k i j : Nat) : KF := fun k' i' j' => ok k' i' j' ∨ (k' = k ∧ i' = i ∧ j' = j)
def adA (ad : AD) (k i j a : Nat) : AD := fun k' i' j' => if k' = k ∧ i' = i ∧ j' = j then a else ad k' i' j'
theorem adA_self (ad : AD) (k i j a : Nat) : adA ad k i j a k i j = a := if_pos ⟨rfl, rfl, rfl⟩
theorem adA_off (ad : AD) {k i j : Nat} (a : Nat) {k' i' j' : Nat} (h : ¬ (k' = k ∧ i' = i ∧ j' = j)) : adA ad k i j a k' i' j' = ad k' i' j' := if_neg h
/-- kinds that no cell's picture names -/
def dynk (k : Nat) : Prop := k = 0 ∨ k = 21 ∨ k = 30 ∨ 55 ≤ k
theorem enck_dyn {cA : Nat → ClassId} {ad : AD} {k0 i0 j0 a : Nat} (hd : dynk k0) (k i j : Nat) (s : Nat → Nat) : enck cA (adA ad k0 i0 j0 a) k i j s = enck cA ad k i j s := by
  have f : ∀ k' i' j', 0 < k' → k' ≠ 21 → k' ≠ 30 → k' < 55 → adA ad k0 i0 j0 a k' i' j' = ad k' i' j' := fun k' i' j' h1 h2 h3 h4 => adA_off ad a (by
    rintro ⟨rfl, -, -⟩
    rcases hd with h | h | h | h <;> omega)
  have g : ∀ k', 0 < k' → k' ≠ 21 → k' ≠ 30 → k' < 55 → adA ad k0 i0 j0 a k' = ad k' := fun k' h1 h2 h3 h4 => funext fun i' => funext fun j' => f k' i' j' h1 h2 h3 h4
  unfold enck
  rw [g 1 (by decide) (by decide) (by decide) (by decide), g 2 (by decide) (by decide) (by decide) (by decide), g 3 (by decide) (by decide) (by decide) (by decide), g 4 (by decide) (by decide) (by decide) (by decide), g 5 (by decide) (by decide) (by decide) (by decide), g 6 (by decide) (by decide) (by decide) (by decide), g 7 (by decide) (by decide) (by decide) (by decide), g 8 (by decide) (by decide) (by decide) (by decide), g 9 (by decide) (by decide) (by decide) (by decide), g 10 (by decide) (by decide) (by decide) (by decide), g 11 (by decide) (by decide) (by decide) (by decide), g 12 (by decide) (by decide) (by decide) (by decide), g 13 (by decide) (by decide) (by decide) (by decide), g 14 (by decide) (by decide) (by decide) (by decide), g 15 (by decide) (by decide) (by decide) (by decide), g 16 (by decide) (by decide) (by decide) (by decide), g 17 (by decide) (by decide) (by decide) (by decide), g 18 (by decide) (by decide) (by decide) (by decide), g 19 (by decide) (by decide) (by decide) (by decide), g 20 (by decide) (by decide) (by decide) (by decide), g 22 (by decide) (by decide) (by decide) (by decide)]
  rw [g 31 (by decide) (by decide) (by decide) (by decide), g 32 (by decide) (by decide) (by decide) (by decide), g 33 (by decide) (by decide) (by decide) (by decide), g 34 (by decide) (by decide) (by decide) (by decide), g 35 (by decide) (by decide) (by decide) (by decide), g 36 (by decide) (by decide) (by decide) (by decide), g 37 (by decide) (by decide) (by decide) (by decide), g 38 (by decide) (by decide) (by decide) (by decide), g 39 (by decide) (by decide) (by decide) (by decide), g 40 (by decide) (by decide) (by decide) (by decide), g 41 (by decide) (by decide) (by decide) (by decide), g 42 (by decide) (by decide) (by decide) (by decide), g 43 (by decide) (by decide) (by decide) (by decide), g 44 (by decide) (by decide) (by decide) (by decide), g 45 (by decide) (by decide) (by decide) (by decide), g 46 (by decide) (by decide) (by decide) (by decide), g 47 (by decide) (by decide) (by decide) (by decide), g 48 (by decide) (by decide) (by decide) (by decide), g 49 (by decide) (by decide) (by decide) (by decide), g 50 (by decide) (by decide) (by decide) (by decide), g 51 (by decide) (by decide) (by decide) (by decide), g 52 (by decide) (by decide) (by decide) (by decide), g 53 (by decide) (by decide) (by decide) (by decide), g 54 (by decide) (by decide) (by decide) (by decide)]
/-- a new cell at the heap's end, under a key that no picture names -/
theorem Rep.push {G : GT} {ok : KF} {ad : AD} {σ σ' : SG} {H H1 : Heap} (h : Rep G ok ad σ H) {k i j : Nat} (hn : ¬ ok k i j) (hd : ∀ k' i' j', ok k' i' j' → ∀ s, enck G.2.2.1 (adA ad k i j H.size) k' i' j' s = enck G.2.2.1 ad k' i' j' s)
    (hB : G.2.1 ≤ H.size) (oq : ∀ q, q < H.size → H1[q]? = H[q]?) (he : va_at G.1 CL (H.size, enck G.2.2.1 (adA ad k i j H.size) k i j (σ' k i j)) H1) (ho : ∀ k' i' j', ¬ (k' = k ∧ i' = i ∧ j' = j) → σ' k' i' j' = σ k' i' j') : Rep G (okA ok k i j) (adA ad k i j H.size) σ' H1 := by
  have key : ∀ k' i' j', ok k' i' j' → ¬ (k' = k ∧ i' = i ∧ j' = j) := fun k' i' j' q e => hn (by obtain ⟨rfl, rfl, rfl⟩ := e; exact q)
  refine ⟨fun k' i' j' q => ?_, fun k' i' j' k2 i2 j2 q q2 e => ?_⟩
  · rcases q with q | ⟨rfl, rfl, rfl⟩
    · have c := key _ _ _ q
      obtain ⟨h1, h2⟩ := h.1 _ _ _ q
      rw [adA_off ad _ c, ho _ _ _ c, hd _ _ _ q]
      exact ⟨h1.kept (oq _ h1.lt), h2⟩
    · rw [adA_self]
      exact ⟨he, hB⟩
  · rcases q with q | ⟨rfl, rfl, rfl⟩ <;> rcases q2 with q2 | ⟨rfl, rfl, rfl⟩
    · rw [adA_off ad _ (key _ _ _ q), adA_off ad _ (key _ _ _ q2)] at e
      exact h.2 _ _ _ _ _ _ q q2 e
    · rw [adA_off ad _ (key _ _ _ q), adA_self] at e
      exact absurd e (Nat.ne_of_lt (h.lt q))
    · rw [adA_off ad _ (key _ _ _ q2), adA_self] at e
      exact absurd e.symm (Nat.ne_of_lt (h.lt q2))
    · exact ⟨rfl, rfl, rfl⟩
/-! ===== what stays of the start: the tables, the statics, the texts ===== -/
def strs : List (String × Nat × String) := lw_tbl.filterMap (fun w => match w with | .stringRef a k t => some (a, k, t) | _ => none)
def fws : List (MethodName × MethodName) := [(⟨"java/util/Iterator", "hasNext", "()Z"⟩, yJx35411_hasNext_aae02), (⟨"java/util/Iterator", "next", "()Ljava/lang/Object;"⟩, yJx35411_next_0502b)]
theorem fws_ne : ∀ q ∈ fws, q.1.cls ≠ "java/lang/invoke/MethodHandle" ∧ q.1.cls ≠ "java/lang/invoke/VarHandle" := by decide
def KK (G : GT) (U : State) : Prop := va_K G.1 CL (TYS G.2.2.1) U
def GI (G : GT) (U : State) (H : Heap) : Prop :=
  ((∀ w ∈ lw_ng, va_Nw w U) ∧ ∀ t ∈ aos, AOt t U) ∧ (∀ q ∈ strs, ∃ a, vk_R q.1 q.2.1 q.2.2 a U) ∧ vx_Zq Bundle.tN "UNASSIGNED_STACK" Bundle.steD (AB G) U H ∧ vx_Zq Bundle.tN "SUPPRESSED_SENTINEL" Bundle.listD (AB G) U H ∧
  va_Z "java/util/ArrayList" "DEFAULTCAPACITY_EMPTY_ELEMENTDATA" "[Ljava/lang/Object;" (.ref (G.2.2.2 0)) (AB G) U H ∧ ((∃ ce : Cell, H[G.2.2.2 0]? = some ce ∧ ce.cls = G.2.2.1 12 ∧ (∀ k, ce.vm ≠ .statics k) ∧ ce.slots.size = 0) ∧ ¬ AB G (G.2.2.2 0)) ∧ va_Mi "[Ljava/lang/Object;" (G.2.2.2 1) U ∧ ∀ q ∈ fws, va_Fw RJx35411 q.1 q.2 U
def Env0 (G : GT) (U : State) (H : Heap) : Prop := KK G U ∧ GI G U H ∧ G.2.1 ≤ H.size
theorem Env0.moved {G : GT} {s U : State} {H0 H : Heap} (h : Env0 G s H0) (hW : s.WarmedH U.vm) (hs : H0.size ≤ H.size) (hk : ∀ q, q < H0.size → ¬ AB G q → H[q]? = H0[q]?) : Env0 G U H := by
  obtain ⟨h1, ⟨g1, g2, g3, g4, g5, g6, g7, g8⟩, h3⟩ := h
  refine ⟨va_K.moved hW.alike h1, ⟨⟨fun w hw => ng_warm (List.mem_filter.mp hw).2 hW (g1.1 w hw), fun t ht => AOt.moved hW.alike (g1.2 t ht)⟩, fun q hq => ?_, (vx_Zq.moved hW.alike g3).kept hk, (vx_Zq.moved hW.alike g4).kept hk, (va_Z.moved hW.alike g5).kept hk, ⟨?_, g6.2⟩, va_Mi.moved hW.alike g7, fun q hq => va_Fw.moved (fws_ne q hq) hW.alike (g8 q hq)⟩, Nat.le_trans h3 hs⟩
  · obtain ⟨a, ha⟩ := g2 q hq
    exact ⟨a, vk_R.warm hW ha⟩
  · obtain ⟨ce, e1, e2⟩ := g6.1
    exact ⟨ce, by rw [hk _ (Array.getElem?_eq_some_iff.mp e1).1 g6.2]; exact e1, e2⟩
/-! ===== the walk over the picture ===== -/
abbrev XT : Type := Program × Launch × Env × Room × State × MethodId × Array Value × List Frame × Method × Code × (State → Prop)
abbrev xp (X : XT) : Program := X.1
abbrev xl (X : XT) : Launch := X.2.1
abbrev xe (X : XT) : Env := X.2.2.1
abbrev xR (X : XT) : Room := X.2.2.2.1
abbrev xs (X : XT) : State := X.2.2.2.2.1
abbrev xm (X : XT) : MethodId := X.2.2.2.2.2.1
abbrev xa (X : XT) : Array Value := X.2.2.2.2.2.2.1
abbrev xb (X : XT) : List Frame := X.2.2.2.2.2.2.2.1
abbrev xk (X : XT) : Method := X.2.2.2.2.2.2.2.2.1
abbrev xc (X : XT) : Code := X.2.2.2.2.2.2.2.2.2.1
abbrev xQ (X : XT) : State → Prop := X.2.2.2.2.2.2.2.2.2.2
def rmL (n mc ms : Nat) : Room := { frames := 10 * n + 10, cells := mc, slots := ms, locals := 120 * n + 150 }
def lvg : List (Nat × Value) → Nat → Option Value
  | [], _ => none
  | q :: r, i => if q.1 = i then some q.2 else lvg r i
def lvp (l : List (Nat × Value)) (i : Nat) (v : Value) : List (Nat × Value) := (i, v) :: l.filter (fun q => !(q.1 == i) && !(q.1 + 1 == i && q.2.category == 2))
def lvp2 (l : List (Nat × Value)) (i : Nat) (v : Value) : List (Nat × Value) := (i, v) :: l.filter (fun q => !(q.1 == i) && (!(q.1 == i + 1) && !(q.1 + 1 == i && q.2.category == 2)))
theorem lvg_mem : ∀ {l : List (Nat × Value)} {i : Nat} {v : Value}, lvg l i = some v → (i, v) ∈ l
  | [], _, _, h => by cases h
  | q :: r, i, v, h => by
    unfold lvg at h
    by_cases c : q.1 = i
    · rw [if_pos c] at h
      obtain ⟨a, b⟩ := q
      simp only at c h
      cases h
      subst c
      exact List.mem_cons_self
    · rw [if_neg c] at h
      exact List.mem_cons_of_mem _ (lvg_mem h)
theorem lvg_has {ls : Array Slot} {n : Nat} {l : List (Nat × Value)} (h : lv_has ls n l) {i : Nat} {v : Value} (hg : lvg l i = some v) : ls[i]? = some (.val v) := h.2.2 (i, v) (lvg_mem hg)
def V (X : XT) (G : GT) (kc ks : Nat) (ok : KF) (ad : AD) (σ : SG) (l : List (Nat × Value)) (pc : Nat) (st : List Value) : Prop :=
  ∀ (H : Heap) (locs : List Loc) (ls : Array Slot), Rep G ok ad σ H → va_S (AB G) (xs X).heap H locs → lv_has ls (xc X).maxLocals l → W (xp X) (xl X) (xe X) (xR X) (xs X) (xm X) (xa X) (xb X) (xk X) (xc X) H locs kc ks (xQ X) (F0 (xm X) pc ls st)
/-- a thing of the class E is thrown here -/
def VX (X : XT) (G : GT) (kc ks : Nat) (ok : KF) (ad : AD) (σ : SG) (l : List (Nat × Value)) (pc : Nat) (E : String) (st : List Value) : Prop :=
  ∀ (H : Heap) (locs : List Loc) (ls : Array Slot) (q : Addr) (ce : Cell), Rep G ok ad σ H → va_S (AB G) (xs X).heap H locs → lv_has ls (xc X).maxLocals l → H[q]? = some ce → ce.vm = .none → (xs X).vm.findClass E = some ce.cls →
    vx_W (xp X) (xl X) (xe X) (xR X) (xs X) (xm X) (xa X) (xb X) (xk X) (xc X) H locs kc ks (xQ X) (F0 (xm X) pc ls st) q
/-- where a method of class own with the code cc stands, with room of level n -/
def Cx (X : XT) (G : GT) (own : String) (cc : ByteArray) (nL n mc ms : Nat) : Prop :=
  ((xp X).tables.exec = Jvm.exec ∧ (xc X).code = cc ∧ (xc X).maxLocals = nL ∧ (xs X).vm.findClass own = some (xm X).cls ∧ ∀ w ∈ lw_good, w.before (xa X) (xs X) = true) ∧
  (10 * n + 10 ≤ (xR X).frames ∧ 120 * n + 150 ≤ (xR X).locals ∧ (xR X).cells = mc ∧ (xR X).slots = ms) ∧ Env0 G (xs X) (xs X).heap ∧ (xk X).locks = false ∧ (xl X).stackTraces = false
section CXS
variable {X : XT} {G : GT} {own : String} {cc : ByteArray} {nL n mc ms : Nat}
theorem Cx.x (h : Cx X G own cc nL n mc ms) : (xp X).tables.exec = Jvm.exec := h.1.1
theorem Cx.b (h : Cx X G own cc nL n mc ms) : (xc X).code = cc := h.1.2.1
theorem Cx.ml (h : Cx X G own cc nL n mc ms) : (xc X).maxLocals = nL := h.1.2.2.1
theorem Cx.ow (h : Cx X G own cc nL n mc ms) : (xs X).vm.findClass own = some (xm X).cls := h.1.2.2.2.1
theorem Cx.ts (h : Cx X G own cc nL n mc ms) : ∀ w ∈ lw_good, w.before (xa X) (xs X) = true := h.1.2.2.2.2
theorem Cx.K (h : Cx X G own cc nL n mc ms) : va_K G.1 CL (TYS G.2.2.1) (xs X) := h.2.2.1.1
theorem Cx.nw (h : Cx X G own cc nL n mc ms) {w : Cond} (hw : w ∈ lw_ng) : va_Nw w (xs X) := h.2.2.1.2.1.1.1 w hw
theorem Cx.ng (h : Cx X G own cc nL n mc ms) {w : Cond} (hw : w ∈ lw_ng) : w.before (xa X) (xs X) = true := va_Nw.use (ng_tables (List.mem_filter.mp hw).2) (h.nw hw)
theorem Cx.ao (h : Cx X G own cc nL n mc ms) {t : FieldType} (ht : t ∈ aos) : AOt t (xs X) := h.2.2.1.2.1.1.2 t ht
theorem Cx.locks (h : Cx X G own cc nL n mc ms) : (xk X).locks = false := h.2.2.2.1
theorem Cx.env (h : Cx X G own cc nL n mc ms) {U : State} {H : Heap} {locs : List Loc} (hS : va_S (AB G) (xs X).heap H locs) (hW : (xs X).WarmedH U.vm) : Env0 G U H := h.2.2.1.moved hW hS.1 hS.2.1
theorem Cx.hB (h : Cx X G own cc nL n mc ms) {H : Heap} {locs : List Loc} (hS : va_S (AB G) (xs X).heap H locs) : G.2.1 ≤ H.size := Nat.le_trans h.2.2.1.2.2 hS.1
end CXS
