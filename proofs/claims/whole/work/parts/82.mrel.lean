/-! ===== the class's memory and the model's: what stands still in a step ===== -/
def SM (s τ : SG) : Prop := τ 30 0 0 2 = s 0 0 0 0 ∧ (∀ c, c < s 0 0 0 0 → ∀ p, p < 64 → τ 41 c 0 p = if (s 6 c 0 3).testBit p = true then s 7 c 0 p + 1 else 0) ∧ τ 30 0 0 1 = s 16 0 0 0 ∧ ∀ t, t < s 16 0 0 0 → τ 32 0 0 t = s 18 t 0 0 ∧ τ 33 0 0 t = s 18 t 0 1 ∧ τ 34 0 0 t = s 18 t 0 2 ∧ (τ 35 0 0 t = 0 ↔ s 18 t 0 3 ≠ 0)
theorem SM.Mct {s τ : SG} (h : SM s τ) {t : Nat} (ht : t < s 16 0 0 0) (d : Nat) : mct τ t d = iso s t d := by
  obtain ⟨h1, -, -, h4⟩ := h.2.2.2 t ht
  show (decide (τ 35 0 0 t = 0) && decide (τ 32 0 0 t / 16 = d)) = (decide (s 18 t 0 3 ≠ 0) && decide (s 18 t 0 0 / 16 = d))
  rw [h1, decide_eq_decide.mpr h4]
theorem SM.Mps {s τ : SG} (h : SM s τ) {t : Nat} (ht : t < s 16 0 0 0) (v : Nat → Nat) : mps τ v t = psv s v t := by
  obtain ⟨h1, h2, h3, -⟩ := h.2.2.2 t ht
  unfold mps psv
  rw [h1, h2, h3]
theorem SM.Mgo {s τ : SG} (h : SM s τ) (v : Nat → Nat) (d : Nat) : mgo τ v d (nM τ) = apv s v d (nT s) := by
  have key : ∀ n, n ≤ s 16 0 0 0 → allB (fun t => !(mct τ t d) || mps τ v t) 0 n = allB (fun t => !(iso s t d) || psv s v t) 0 n := fun n => by
    induction n with
    | zero => intro _; rfl
    | succ n ih =>
      intro hn
      show (allB _ 0 n && (!(mct τ (0 + n) d) || mps τ v (0 + n))) = (allB _ 0 n && (!(iso s (0 + n) d) || psv s v (0 + n)))
      rw [ih (by omega), Nat.zero_add, h.Mct (by omega), h.Mps (by omega)]
  show allB _ 0 (τ 30 0 0 1) = allB _ 0 (s 16 0 0 0)
  rw [h.2.2.1]
  exact key _ (Nat.le_refl _)
theorem SM.Minp {s τ : SG} (h : SM s τ) (v : Nat → Nat) (d : Nat) : ∀ n, n ≤ s 16 0 0 0 → minp τ v d n = inpv s v d n
  | 0, _ => rfl
  | n + 1, hn => by
    obtain ⟨h1, h2, -, -⟩ := h.2.2.2 n (by omega)
    unfold minp inpv
    rw [SM.Minp h v d n (by omega), h.Mct (by omega), h1, h2]
theorem SM.Mev {s τ : SG} (h : SM s τ) (v : Nat → Nat) (d : Nat) : mev τ v d = ev s v d := by
  unfold mev ev
  rw [h.Mgo, show nM τ = s 16 0 0 0 from h.2.2.1, h.Minp v d _ (Nat.le_refl _)]
theorem SM.Mcn {s τ : SG} (h : SM s τ) (v : Nat → Nat) (d : Nat) : mcn τ d (nM τ) = 0 ↔ inpv s v d (nT s) = [] := by
  have key : ∀ n, n ≤ s 16 0 0 0 → (inpv s v d n).length = 2 * cnt (fun t => mct τ t d) n := fun n => by
    induction n with
    | zero => intro _; rfl
    | succ n ih =>
      intro hn
      show (inpv s v d n ++ _).length = 2 * (cnt _ n + b2n (mct τ n d))
      rw [List.length_append, ih (by omega), h.Mct (by omega)]
      cases iso s n d
      · rfl
      · show _ + 2 = _
        show _ = 2 * (_ + 1)
        omega
  have k1 := key (s 16 0 0 0) (Nat.le_refl _)
  show cnt _ (τ 30 0 0 1) = 0 ↔ _
  rw [h.2.2.1]
  constructor
  · intro q
    rw [q] at k1
    exact List.eq_nil_of_length_eq_zero k1
  · intro q
    rw [show inpv s v d (s 16 0 0 0) = [] from q] at k1
    have : (0 : Nat) = 2 * cnt (fun t => mct τ t d) (s 16 0 0 0) := k1
    omega
theorem SM.Msbl {s τ : SG} (h : SM s τ) (v : Nat → Nat) : ∀ r K, msbl τ v r K = sbl s v r K
  | 0, _ => rfl
  | r + 1, K => by
    by_cases q : mcn τ (3 - r) (nM τ) = 0
    · rw [msbl_e q, sbl_e ((h.Mcn v _).mp q)]
      exact SM.Msbl h v r K
    · have q2 : inpv s v (3 - r) (nT s) ≠ [] := fun z => q ((h.Mcn v _).mpr z)
      have e := h.Mgo v (3 - r)
      cases g : apv s v (3 - r) (nT s) with
      | true => rw [msbl_t q (e.trans g), sbl_t q2 g, h.Mev, SM.Msbl h v r]
      | false => rw [msbl_f q (e.trans g), sbl_f q2 g, h.Mev]
theorem SM.bit {s τ : SG} (h : SM s τ) {c p : Nat} (hc : c < s 0 0 0 0) (hp : p < 64) : decide (τ 41 c 0 p ≠ 0) = (s 6 c 0 3).testBit p := by
  rw [h.2.1 c hc p hp]
  cases (s 6 c 0 3).testBit p
  · rfl
  · show decide (s 7 c 0 p + 1 ≠ 0) = true
    exact decide_eq_true (by omega)
theorem and_nz {a b : Nat} (ha : a < 2 ^ 64) : a &&& b ≠ 0 ↔ ∃ p, p < 64 ∧ a.testBit p = true ∧ b.testBit p = true := by
  constructor
  · intro h
    apply Classical.byContradiction
    intro q
    apply h
    apply Nat.eq_of_testBit_eq
    intro i
    rw [Nat.testBit_and, Nat.zero_testBit]
    by_cases hi : i < 64
    · cases e1 : a.testBit i
      · rfl
      · cases e2 : b.testBit i
        · rfl
        · exact absurd ⟨i, hi, e1, e2⟩ q
    · rw [Nat.testBit_lt_two_pow (Nat.lt_of_lt_of_le ha (Nat.pow_le_pow_right (by decide) (by omega)))]
      rfl
  · rintro ⟨p, -, e1, e2⟩ q
    have := congrArg (fun z => z.testBit p) q
    simp only [Nat.testBit_and, e1, e2, Nat.zero_testBit] at this
    cases this
theorem SM.Msh {s τ : SG} (h : SM s τ) (hB : BD s) {c o : Nat} (hc : c < s 0 0 0 0) (ho : o < s 0 0 0 0) : msh τ c o = shr s c o := by
  have hlt : s 6 c 0 3 < 2 ^ 64 := hB 6 c 0 3 rfl
  apply Bool.eq_iff_iff.mpr
  show (!allB _ 0 64) = true ↔ decide (s 6 c 0 3 &&& s 6 o 0 3 ≠ 0) = true
  rw [decide_eq_true_iff, and_nz hlt, Bool.not_eq_true', ← Bool.not_eq_true, allB_iff]
  constructor
  · intro q
    apply Classical.byContradiction
    intro z
    apply q
    intro p _ hp
    rw [h.bit hc (by omega), h.bit ho (by omega)]
    cases e1 : (s 6 c 0 3).testBit p
    · rfl
    · cases e2 : (s 6 o 0 3).testBit p
      · rfl
      · exact absurd ⟨p, by omega, e1, e2⟩ z
  · rintro ⟨p, hp, e1, e2⟩ q
    have := q p (Nat.zero_le _) (by omega)
    rw [h.bit hc hp, h.bit ho hp, e1, e2] at this
    cases this
theorem SM.Emy {s τ : SG} (h : SM s τ) {c : Nat} (hc : c < s 0 0 0 0) : emy τ c 64 = pop (s 6 c 0 3) := cnt_ext 64 (fun p hp => h.bit hc hp)
theorem SM.lay {s τ : SG} (h : SM s τ) {c x k i j : Nat} (hc : c < s 0 0 0 0) (hx : x < 64) (hj : j = 0) : mly τ k i c 64 k i j x = layv s c (τ k i j) x := by
  subst hj
  have hb := h.bit hc hx
  have hv := h.2.1 c hc x hx
  unfold mly layv
  cases e : (s 6 c 0 3).testBit x with
  | true =>
    rw [e] at hb hv
    rw [if_pos ⟨rfl, rfl, rfl, hx, of_decide_eq_true hb⟩, if_pos rfl, hv, if_pos rfl]
    rfl
  | false =>
    rw [e] at hb
    rw [if_neg (fun q => of_decide_eq_false hb q.2.2.2.2), if_neg (by decide)]
/-- the model's memory stands for A, s the class's -/
def RM (s τ : SG) (A : AS) : Prop := (∀ c, c < s 0 0 0 0 → τ 52 0 0 c = aS A c) ∧ (∀ c, c < 16 → τ 53 0 0 c = aF A c) ∧ (∀ c, c < 16 → ∀ x, x < 64 → τ 43 c 0 x = b2n (aC A c x)) ∧ lsM τ 0 = aQ A ∧ lsM τ 1 = aM A ∧ ∀ x, x < 64 → τ 31 0 0 x = aT A x
/-- what a merge of the model may change -/
def mfB (k x : Nat) : Bool := k == 31 || k == 43 || k == 50 || k == 51 || k == 52 || k == 53 || (k == 30 && (x == 3 || x == 4))
def MF (τ τ' : SG) : Prop := ∀ k i j x, mfB k x = false → τ' k i j x = τ k i j x
theorem MF.refl (τ : SG) : MF τ τ := fun _ _ _ _ _ => rfl
theorem MF.trans {a b c : SG} (h : MF a b) (h2 : MF b c) : MF a c := fun k i j x q => (h2 k i j x q).trans (h k i j x q)
theorem SM.mf {s τ τ' : SG} (h : SM s τ) (hf : MF τ τ') : SM s τ' := by
  refine ⟨(hf 30 0 0 2 rfl).trans h.1, fun c hc p hp => (hf 41 c 0 p rfl).trans (h.2.1 c hc p hp), (hf 30 0 0 1 rfl).trans h.2.2.1, fun t ht => ?_⟩
  rw [hf 32 0 0 t rfl, hf 33 0 0 t rfl, hf 34 0 0 t rfl, hf 35 0 0 t rfl]
  exact h.2.2.2 t ht
theorem MF.Up {τ τ' : SG} {k i j x v : Nat} (h : MF τ τ') (hk : mfB k x = true) : MF τ (up τ' k i j x v) := fun k' i' j' x' q => by
  rw [← h k' i' j' x' q]
  show (if _ then _ else _) = _
  rw [if_neg]
  rintro ⟨rfl, -, -, rfl⟩
  rw [hk] at q
  cases q
theorem MF.Lvs {τ τ' : SG} {k0 m : Nat} (h : MF τ τ') : MF τ (lvs τ' k0 m) := fun k i j x q => by
  rw [← h k i j x q]
  refine lvs_k ?_ ?_
  · rintro rfl; cases q
  · rintro ⟨rfl, rfl⟩; cases q
theorem MF.Mly {τ τ' : SG} {c : Nat} (h : MF τ τ') : MF τ (mly τ' 31 0 c 64) := fun k i j x q => by
  rw [← h k i j x q]
  refine mly_k ?_
  rintro rfl; cases q
/-- what is in the queue's state is in the queue, and so for the merged -/
def QI (s : SG) (A : AS) : Prop := (∀ c, c < s 0 0 0 0 → aS A c = 113 → c ∈ aQ A) ∧ ∀ c, c < s 0 0 0 0 → aS A c = 109 → c ∈ aM A
theorem QI_mrg {s : SG} {A : AS} {i : Nat} (h : QI s A) : QI s (mrgA s A i) := by
  refine ⟨fun c hc q => ?_, fun c hc q => ?_⟩
  · have q : (if c = i then 109 else if hit s A i c = true then 111 else aS A c) = 113 := q
    by_cases e : c = i
    · rw [if_pos e] at q
      cases q
    · rw [if_neg e] at q
      cases e2 : hit s A i c with
      | true => rw [e2, if_pos rfl] at q; cases q
      | false =>
        rw [e2, if_neg (by decide)] at q
        exact List.mem_filter.mpr ⟨h.1 c hc q, by simp [e, e2]⟩
  · have q : (if c = i then 109 else if hit s A i c = true then 111 else aS A c) = 109 := q
    show c ∈ aM A ++ [i]
    by_cases e : c = i
    · rw [e]
      exact List.mem_append_right _ (List.mem_singleton.mpr rfl)
    · rw [if_neg e] at q
      cases e2 : hit s A i c with
      | true => rw [e2, if_pos rfl] at q; cases q
      | false =>
        rw [e2, if_neg (by decide)] at q
        exact List.mem_append_left _ (h.2 c hc q)
theorem QI_fal {s : SG} {A : AS} {i : Nat} (h : QI s A) : QI s (falA A i) := by
  refine ⟨fun c hc q => ?_, fun c hc q => ?_⟩
  · have q : (if c = i then 111 else aS A c) = 113 := q
    by_cases e : c = i
    · rw [if_pos e] at q
      cases q
    · rw [if_neg e] at q
      exact List.mem_filter.mpr ⟨h.1 c hc q, by simp [e]⟩
  · have q : (if c = i then 111 else aS A c) = 109 := q
    by_cases e : c = i
    · rw [if_pos e] at q
      cases q
    · rw [if_neg e] at q
      exact h.2 c hc q
/-- the model as a whole stands for A -/
def TM (G : GT) (ok : KF) (ad : AD) (s τ : SG) (A : AS) (e : Nat) : Prop := BD τ ∧ SM s τ ∧ RM s τ A ∧ Arr G ok ad τ (aK A) e ∧ KM ok (τ 30 0 0 5) e ∧ AI s A ∧ QI s A
theorem lsM_len (τ : SG) (w : Nat) : (lsM τ w).length = τ 30 0 0 (w + 3) := by simp [lsM]
theorem lsM_get {τ : SG} {w q : Nat} (h : q < τ 30 0 0 (w + 3)) : τ (w + 50) 0 0 q ∈ lsM τ w := List.mem_map.mpr ⟨q, List.mem_range.mpr h, rfl⟩
theorem lsM_eq {τ τ' : SG} {w : Nat} (h1 : τ' 30 0 0 (w + 3) = τ 30 0 0 (w + 3)) (h2 : ∀ x, x < τ 30 0 0 (w + 3) → τ' (w + 50) 0 0 x = τ (w + 50) 0 0 x) : lsM τ' w = lsM τ w := by
  unfold lsM
  rw [h1]
  exact List.map_congr_left (fun x hx => h2 x (List.mem_range.mp hx))
/-- a merge's first half in the model -/
def mm0 (τ : SG) (k0 i : Nat) : SG := up (up (mly (up (up (lvs τ k0 (τ 30 0 0 3 - 1)) 52 0 0 i 109) 53 0 0 i 0) 31 0 i 64) 51 0 0 (τ 30 0 0 4) i) 30 0 0 4 (τ 30 0 0 4 + 1)
theorem mm0_MF (τ : SG) (k0 i : Nat) : MF τ (mm0 τ k0 i) := ((((((MF.refl τ).Lvs).Up rfl).Up rfl).Mly).Up rfl).Up rfl
theorem RM_mm0 {s τ : SG} {A : AS} {k0 i : Nat} (hS : SM s τ) (hR : RM s τ A) (hA : AI s A) (hi : i < s 0 0 0 0) (hk0 : k0 < τ 30 0 0 3) (hkc : τ 50 0 0 k0 = i) (hmin : ∀ j, j < k0 → τ 50 0 0 j ≠ i) : RM s (mm0 τ k0 i) (mrP s A i 0) := by
  obtain ⟨h1, h2, h3, h4, h5, h6⟩ := hR
  refine ⟨fun c hc => ?_, fun c hc => ?_, fun c hc x hx => ?_, ?_, ?_, fun x hx => ?_⟩
  · show up (up (lvs τ k0 (τ 30 0 0 3 - 1)) 52 0 0 i 109) 53 0 0 i 0 52 0 0 c = if c = i then 109 else if c < 0 ∧ hit s A i c = true then 111 else aS A c
    rw [up_k (by decide)]
    by_cases e : c = i
    · subst e
      rw [up_same, if_pos rfl]
    · rw [up_x e, if_neg e, if_neg (by omega)]
      exact h1 c hc
  · show up (up (lvs τ k0 (τ 30 0 0 3 - 1)) 52 0 0 i 109) 53 0 0 i 0 53 0 0 c = if c = i then 0 else aF A c
    by_cases e : c = i
    · subst e
      rw [up_same, if_pos rfl]
    · rw [up_x e, if_neg e, up_k (by decide)]
      exact h2 c hc
  · show τ 43 c 0 x = b2n (aC A c x || (decide (c < 0) && hit s A i c && (s 6 c 0 3).testBit x && (s 6 i 0 3).testBit x))
    rw [h3 c hc x hx]
    simp
  · have e1 : lsM (mm0 τ k0 i) 0 = lsM (lvs τ k0 (τ 30 0 0 3 - 1)) 0 := rfl
    rw [e1, lsM_lvs hk0 hkc hmin (by rw [h4]; exact hA.1), h4]
    show (aQ A).filter _ = (aQ A).filter (fun c => decide (c ≠ i) && !(decide (c < 0) && hit s A i c))
    apply List.filter_congr
    intro c _
    simp
  · show lsM (mm0 τ k0 i) 1 = aM A ++ [i]
    rw [← h5]
    show (List.range (τ 30 0 0 4 + 1)).map (mm0 τ k0 i 51 0 0) = (List.range (τ 30 0 0 4)).map (τ 51 0 0) ++ [i]
    rw [List.range_succ, List.map_append]
    have e2 : ∀ x, mm0 τ k0 i 51 0 0 x = if x = τ 30 0 0 4 then i else τ 51 0 0 x := fun x => by
      show up (mly _ 31 0 i 64) 51 0 0 (τ 30 0 0 4) i 51 0 0 x = _
      by_cases e : x = τ 30 0 0 4
      · rw [if_pos e, e, up_same]
      · rw [if_neg e, up_x e]
        rfl
    congr 1
    · apply List.map_congr_left
      intro x hx
      have := List.mem_range.mp hx
      rw [e2, if_neg (by omega)]
    · show [mm0 τ k0 i 51 0 0 (τ 30 0 0 4)] = [i]
      rw [e2, if_pos rfl]
  · show mly (up (up (lvs τ k0 (τ 30 0 0 3 - 1)) 52 0 0 i 109) 53 0 0 i 0) 31 0 i 64 31 0 0 x = layv s i (aT A) x
    rw [(hS.mf ((((MF.refl τ).Lvs).Up (k := 52) (i := 0) (j := 0) (x := i) (v := 109) rfl).Up (k := 53) (i := 0) (j := 0) (x := i) (v := 0) rfl)).lay hi hx rfl]
    show layv s i (τ 31 0 0) x = _
    unfold layv
    rw [h6 x hx]
/-- the places of a clash marked in the model -/
def mck (τ : SG) (i o q : Nat) : SG := fun k a b x => if k = 43 ∧ a = o ∧ b = 0 ∧ x < q then τ 43 o 0 x ||| b2n (decide (τ 41 i 0 x ≠ 0) && decide (τ 41 o 0 x ≠ 0)) else τ k a b x
theorem mck_k {τ : SG} {i o q k a b x : Nat} (h : k ≠ 43) : mck τ i o q k a b x = τ k a b x := if_neg (fun z => h z.1)
theorem mck_0 (τ : SG) (i o : Nat) : mck τ i o 0 = τ := by
  funext k a b x
  exact if_neg (fun z => Nat.not_lt_zero _ z.2.2.2)
theorem mck_at (τ : SG) (i o q : Nat) : mck τ i o q 43 o 0 q = τ 43 o 0 q := if_neg (fun z => Nat.lt_irrefl _ z.2.2.2)
theorem mck_s (τ : SG) (i o q : Nat) : mck τ i o (q + 1) = up (mck τ i o q) 43 o 0 q (τ 43 o 0 q ||| b2n (decide (τ 41 i 0 q ≠ 0) && decide (τ 41 o 0 q ≠ 0))) := by
  funext k a b x
  show (if _ then _ else _) = (if _ then _ else (if _ then _ else _))
  by_cases e : k = 43 ∧ a = o ∧ b = 0 ∧ x = q
  · obtain ⟨rfl, rfl, rfl, rfl⟩ := e
    rw [if_pos ⟨rfl, rfl, rfl, by omega⟩, if_pos ⟨rfl, rfl, rfl, rfl⟩]
  · rw [if_neg (c := k = 43 ∧ a = o ∧ b = 0 ∧ x = q) e]
    by_cases e2 : k = 43 ∧ a = o ∧ b = 0 ∧ x < q
    · rw [if_pos ⟨e2.1, e2.2.1, e2.2.2.1, by omega⟩, if_pos e2]
    · rw [if_neg e2, if_neg]
      rintro ⟨q1, q2, q3, q4⟩
      by_cases e3 : x = q
      · exact e ⟨q1, q2, q3, e3⟩
      · exact e2 ⟨q1, q2, q3, by omega⟩
theorem or_lt2 {a b : Nat} (ha : a < 2) (hb : b < 2) : a ||| b < 2 := Nat.or_lt_two_pow (n := 1) ha hb
theorem mck_BD {τ : SG} (h : BD τ) (i o q : Nat) : BD (mck τ i o q) := fun k a b x hp => by
  show (if _ then _ else _) < _
  split
  · rename_i e
    obtain ⟨rfl, rfl, rfl, -⟩ := e
    exact or_lt2 (h 43 a 0 x rfl) (b2n_lt _)
  · exact h k a b x hp
theorem MF.Mck {τ τ' : SG} {i o q : Nat} (h : MF τ τ') : MF τ (mck τ' i o q) := fun k a b x z => by
  rw [← h k a b x z]
  refine mck_k ?_
  rintro rfl; cases z
theorem b2n_or (a b : Bool) : b2n a ||| b2n b = b2n (a || b) := by cases a <;> cases b <;> rfl
theorem RM_mck {s τ : SG} {A : AS} {i o : Nat} (hS : SM s τ) (hA : AI s A) (hi : i < s 0 0 0 0) (ho : o < s 0 0 0 0) (hh : hit s A i o = true) (h : RM s τ (mrP s A i o)) :
    (aS A o = 111 → RM s (mck τ i o 64) (mrP s A i (o + 1))) ∧ (aS A o = 113 → ∀ k0, k0 < τ 30 0 0 3 → τ 50 0 0 k0 = o → (∀ j, j < k0 → τ 50 0 0 j ≠ o) → RM s (up (lvs (mck τ i o 64) k0 (τ 30 0 0 3 - 1)) 52 0 0 o 111) (mrP s A i (o + 1))) := by
  have hne : o ≠ i := fun q => by rw [q, hit_self] at hh; cases hh
  obtain ⟨h1, h2, h3, h4, h5, h6⟩ := h
  have bits : ∀ c, c < 16 → ∀ x, x < 64 → mck τ i o 64 43 c 0 x = b2n (aC (mrP s A i (o + 1)) c x) := fun c hc x hx => by
    have old := h3 c hc x hx
    show (if 43 = 43 ∧ c = o ∧ 0 = 0 ∧ x < 64 then _ else τ 43 c 0 x) = b2n (aC A c x || (decide (c < o + 1) && hit s A i c && (s 6 c 0 3).testBit x && (s 6 i 0 3).testBit x))
    by_cases e : c = o
    · subst e
      rw [if_pos ⟨rfl, rfl, rfl, hx⟩, old, hS.bit hi hx, hS.bit ho hx, b2n_or, hh]
      show b2n (aC A c x || (decide (c < c) && hit s A i c && (s 6 c 0 3).testBit x && (s 6 i 0 3).testBit x) || _) = _
      rw [show decide (c < c) = false from decide_eq_false (Nat.lt_irrefl _), show decide (c < c + 1) = true from decide_eq_true (Nat.lt_succ_self _)]
      simp only [Bool.false_and, Bool.true_and, Bool.or_false]
      rw [Bool.and_comm ((s 6 i 0 3).testBit x)]
    · rw [if_neg (fun q => e q.2.1), old]
      show b2n (aC A c x || (decide (c < o) && hit s A i c && (s 6 c 0 3).testBit x && (s 6 i 0 3).testBit x)) = _
      rw [show decide (c < o + 1) = decide (c < o) from decide_eq_decide.mpr (lt_s1 e)]
  refine ⟨fun e1 => ⟨fun c hc => ?_, h2, bits, ?_, h5, h6⟩, fun e3 k0 a1 a2 a3 => ⟨fun c hc => ?_, fun c hc => ?_, bits, ?_, ?_, h6⟩⟩
  · show τ 52 0 0 c = _
    rw [h1 c hc]
    show (if c = i then 109 else if c < o ∧ hit s A i c = true then 111 else aS A c) = (if c = i then 109 else if c < o + 1 ∧ hit s A i c = true then 111 else aS A c)
    by_cases e : c = o
    · subst e
      rw [if_neg (c := c < c ∧ _) (fun q => absurd q.1 (by omega)), if_pos (c := c < c + 1 ∧ _) ⟨by omega, hh⟩, e1]
    · simp only [lt_s1 e]
  · show lsM τ 0 = _
    rw [h4]
    show (aQ A).filter _ = (aQ A).filter _
    apply List.filter_congr
    intro c hc
    have hco : c ≠ o := fun q => by
      subst q
      rw [(hA.2.2.1 c hc).2] at e1
      cases e1
    rw [show decide (c < o + 1) = decide (c < o) from decide_eq_decide.mpr (lt_s1 hco)]
  · show up (lvs (mck τ i o 64) k0 (τ 30 0 0 3 - 1)) 52 0 0 o 111 52 0 0 c = (if c = i then 109 else if c < o + 1 ∧ hit s A i c = true then 111 else aS A c)
    by_cases e : c = o
    · subst e
      rw [up_same, if_neg hne, if_pos ⟨by omega, hh⟩]
    · rw [up_x e]
      show τ 52 0 0 c = _
      rw [h1 c hc]
      show (if c = i then 109 else if c < o ∧ hit s A i c = true then 111 else aS A c) = _
      simp only [lt_s1 e]
  · rw [up_k (by decide)]
    exact h2 c hc
  · have hQd : (lsM τ 0).Nodup := by rw [h4]; exact hA.1.filter _
    have e5 : lsM (up (lvs (mck τ i o 64) k0 (τ 30 0 0 3 - 1)) 52 0 0 o 111) 0 = lsM (lvs τ k0 (τ 30 0 0 3 - 1)) 0 := rfl
    rw [e5, lsM_lvs a1 a2 a3 hQd, h4]
    show ((aQ A).filter _).filter _ = (aQ A).filter _
    rw [List.filter_filter]
    apply List.filter_congr
    intro c hc
    by_cases e : c = o
    · subst e
      simp [hh]
    · rw [show decide (c < o + 1) = decide (c < o) from decide_eq_decide.mpr (lt_s1 e)]
      simp [e]
  · have e5 : lsM (up (lvs (mck τ i o 64) k0 (τ 30 0 0 3 - 1)) 52 0 0 o 111) 1 = lsM τ 1 := rfl
    rw [e5]
    exact h5
