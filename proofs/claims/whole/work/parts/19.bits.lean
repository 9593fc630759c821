/-! pasted: bits of longs (laws/COUNTS, laws/BITS) -/
/-! ===== bits of a long that isn't negative ===== -/
theorem fb_andL (a b : Nat) : lN a &&& lN b = lN (a &&& b) := by
  apply Int64.toBitVec_inj.1
  show BitVec.ofNat 64 a &&& BitVec.ofNat 64 b = BitVec.ofNat 64 (a &&& b)
  apply BitVec.eq_of_getLsbD_eq
  intro i hi
  simp [hi]
theorem fb_orL (a b : Nat) : lN a ||| lN b = lN (a ||| b) := by
  apply Int64.toBitVec_inj.1
  show BitVec.ofNat 64 a ||| BitVec.ofNat 64 b = BitVec.ofNat 64 (a ||| b)
  apply BitVec.eq_of_getLsbD_eq
  intro i hi
  simp [hi]
theorem fb_xorL (a b : Nat) : lN a ^^^ lN b = lN (a ^^^ b) := by
  apply Int64.toBitVec_inj.1
  show BitVec.ofNat 64 a ^^^ BitVec.ofNat 64 b = BitVec.ofNat 64 (a ^^^ b)
  apply BitVec.eq_of_getLsbD_eq
  intro i hi
  simp [hi]
theorem fb_xorI (a b : Nat) : nI a ^^^ nI b = nI (a ^^^ b) := by
  apply Int32.toBitVec_inj.1
  show BitVec.ofNat 32 a ^^^ BitVec.ofNat 32 b = BitVec.ofNat 32 (a ^^^ b)
  apply BitVec.eq_of_getLsbD_eq
  intro i hi
  simp [hi]
theorem fb_maskL (n k : Nat) : lN n &&& lN (2 ^ k - 1) = lN (n % 2 ^ k) := by rw [fb_andL, Nat.and_two_pow_sub_one_eq_mod]
theorem fb_or_sumL {a k : Nat} (b : Nat) (h : a < 2 ^ k) : lN (2 ^ k * b) ||| lN a = lN (2 ^ k * b + a) := by rw [fb_orL, Nat.two_pow_add_eq_or_of_lt h]
theorem fb_lN_inj {a b : Nat} (ha : a < 2 ^ 63) (hb : b < 2 ^ 63) : lN a = lN b ↔ a = b := by
  constructor
  · intro h
    have h1 : (BitVec.ofNat 64 a).toNat = (BitVec.ofNat 64 b).toNat := congrArg (fun x : Int64 => x.toBitVec.toNat) h
    rw [BitVec.toNat_ofNat, BitVec.toNat_ofNat, Nat.mod_eq_of_lt (by omega), Nat.mod_eq_of_lt (by omega)] at h1
    exact h1
  · rintro rfl; rfl
theorem fb_bit_nat (n j : Nat) : n &&& 2 ^ j = 0 ↔ n.testBit j = false := by
  constructor
  · intro h
    have h1 : (n &&& 2 ^ j).testBit j = false := by rw [h]; simp
    rw [Nat.testBit_and] at h1
    simpa using h1
  · intro h
    apply Nat.eq_of_testBit_eq
    intro i
    rw [Nat.testBit_and]
    by_cases hi : j = i
    · subst hi; simp [h]
    · first | (simp [Nat.testBit_two_pow, hi]; done) | (simp [Nat.testBit_two_pow_of_ne hi]; done)
/-- one bit of a long -/
theorem fb_bitL {n j : Nat} (hj : j < 63) : lN n &&& lN (2 ^ j) = 0 ↔ n.testBit j = false := by
  have h2 : (2 : Nat) ^ j < 2 ^ 63 := Nat.pow_lt_pow_right (by decide) hj
  have hle : n &&& 2 ^ j ≤ 2 ^ j := Nat.and_le_right
  rw [fb_andL, ← fb_bit_nat, show (0 : Int64) = lN 0 from rfl]
  exact fb_lN_inj (by omega) (by decide)
/-- a bit set, a bit taken off -/
theorem fb_bit_set (n j i : Nat) : (n ||| 2 ^ j).testBit i = (n.testBit i || decide (i = j)) := by
  rw [Nat.testBit_or]
  by_cases h : j = i
  · subst h; simp
  · have h2 : ¬ i = j := fun e => h e.symm
    first | (simp [Nat.testBit_two_pow, h, h2]; done) | (simp [Nat.testBit_two_pow_of_ne h, h2]; done)
theorem fb_bit_flip (n j i : Nat) : (n ^^^ 2 ^ j).testBit i = (n.testBit i ^^ decide (i = j)) := by
  rw [Nat.testBit_xor]
  by_cases h : j = i
  · subst h; simp
  · have h2 : ¬ i = j := fun e => h e.symm
    first | (simp [Nat.testBit_two_pow, h, h2]; done) | (simp [Nat.testBit_two_pow_of_ne h, h2]; done)
theorem wb_tb (n : Nat) : (lN n).toBitVec = BitVec.ofNat 64 n := rfl
theorem wb_inj {a b : Int64} (h : a.toBitVec = b.toBitVec) : a = b := Int64.toBitVec_inj.mp h
theorem wb_tn {n : Nat} (h : n < 2 ^ 64) : (lN n).toBitVec.toNat = n := by rw [wb_tb, BitVec.toNat_ofNat, Nat.mod_eq_of_lt h]
theorem wb_of (x : Int64) : ∃ n, n < 2 ^ 64 ∧ x = lN n := ⟨x.toBitVec.toNat, x.toBitVec.isLt, wb_inj (by rw [wb_tb]; simp)⟩
theorem wb_of32 (x : Int32) : ∃ n, n < 2 ^ 32 ∧ x = nI n := ⟨x.toBitVec.toNat, x.toBitVec.isLt, Int32.toBitVec_inj.mp (by show _ = BitVec.ofNat 32 _; simp)⟩
theorem wb_c : ∀ k, k < 64 → ((nI k).toInt64 &&& 63) = lN k := by decide +kernel
theorem wb_cu : ∀ k, k < 64 → ((nI k).toInt64.toUInt64 &&& Int64.toUInt64 63) = UInt64.ofNat k := by decide +kernel
theorem wb_sm : ∀ k, k < 64 → (BitVec.ofNat 64 k).smod 64 = BitVec.ofNat 64 k := by decide +kernel
theorem wb_pw {a b : Nat} (h : a ≤ b) : 2 ^ b = 2 ^ a * 2 ^ (b - a) := by rw [← Nat.pow_add]; congr 1; omega
theorem wb_lt2 {a b : Nat} (h : a < b) : 2 ^ a < 2 ^ b := Nat.pow_lt_pow_right (by decide) h
theorem wb_mod (n : Nat) : lN n = lN (n % 2 ^ 64) := wb_inj (by rw [wb_tb, wb_tb]; apply BitVec.eq_of_toNat_eq; rw [BitVec.toNat_ofNat, BitVec.toNat_ofNat, Nat.mod_mod])
theorem wb_shr {n k : Nat} (hn : n < 2 ^ 64) (hk : k < 64) : ((lN n).toUInt64 >>> ((nI k).toInt64.toUInt64 &&& Int64.toUInt64 63)).toInt64 = lN (n / 2 ^ k) := by
  rw [wb_cu k hk]
  apply wb_inj
  apply BitVec.eq_of_toNat_eq
  show ((lN n).toUInt64 >>> UInt64.ofNat k).toNat = (BitVec.ofNat 64 _).toNat
  have h1 : (UInt64.ofNat k).toNat = k := by
    show (BitVec.ofNat 64 k).toNat = k
    rw [BitVec.toNat_ofNat, Nat.mod_eq_of_lt (by omega)]
  have h2 : (lN n).toUInt64.toNat = n := wb_tn hn
  rw [UInt64.toNat_shiftRight, h1, h2, Nat.mod_eq_of_lt hk, Nat.shiftRight_eq_div_pow, BitVec.toNat_ofNat, Nat.mod_eq_of_lt (Nat.lt_of_le_of_lt (Nat.div_le_self _ _) hn)]
theorem wb_shl (n : Nat) {k : Nat} (hk : k < 64) : lN n <<< ((nI k).toInt64 &&& 63) = lN (n * 2 ^ k) := by
  rw [wb_c k hk]
  apply wb_inj
  rw [Int64.toBitVec_shiftLeft, wb_tb, wb_tb, wb_tb, wb_sm k hk]
  apply BitVec.eq_of_toNat_eq
  rw [BitVec.shiftLeft_eq', BitVec.toNat_shiftLeft, BitVec.toNat_ofNat, BitVec.toNat_ofNat, BitVec.toNat_ofNat, Nat.mod_eq_of_lt (show k < 2 ^ 64 by omega), Nat.shiftLeft_eq, Nat.mul_mod, Nat.mod_mod, ← Nat.mul_mod]

/-! ===== longs as numbers ===== -/
theorem lN_i64 {a b : Nat} (ha : a < 2 ^ 64) (hb : b < 2 ^ 64) : lN a = lN b ↔ a = b := by
  refine ⟨fun h => ?_, fun h => by rw [h]⟩
  have h2 := congrArg (fun x : Int64 => x.toBitVec.toNat) h
  simp only [wb_tn ha, wb_tn hb] at h2
  exact h2
theorem lc_eq {a b : Nat} (ha : a < 2 ^ 64) (hb : b < 2 ^ 64) : lg_cmp (lN a) (lN b) = 0 ↔ a = b := (lg_cmp_eq _ _).trans (lN_i64 ha hb)
abbrev M64 : Nat := 18446744073709551615
theorem lN_m1 : (-1 : Int64) = lN M64 := by decide
section LONGN
variable {X : XT} {G : GT} {own : String} {cc : ByteArray} {nL n mc ms : Nat} {kc ks : Nat} {ok : KF} {ad : AD} {σ : SG} {l : List (Nat × Value)} {pc : Nat} {st : List Value} {a b p : Nat}
theorem v_landN (hC : Cx X G own cc nL n mc ms) (d : decode cc pc = .ok (.land, 1)) (k : V X G kc ks ok ad σ l (pc + 1) (jv (a &&& b) :: st)) : V X G kc ks ok ad σ l pc (jv b :: jv a :: st) := v_land hC d (by rw [fb_andL]; exact k)
theorem v_lorN (hC : Cx X G own cc nL n mc ms) (d : decode cc pc = .ok (.lor, 1)) (k : V X G kc ks ok ad σ l (pc + 1) (jv (a ||| b) :: st)) : V X G kc ks ok ad σ l pc (jv b :: jv a :: st) := v_lor hC d (by rw [fb_orL]; exact k)
theorem v_lxorN (hC : Cx X G own cc nL n mc ms) (d : decode cc pc = .ok (.lxor, 1)) (k : V X G kc ks ok ad σ l (pc + 1) (jv (a ^^^ b) :: st)) : V X G kc ks ok ad σ l pc (jv b :: jv a :: st) := v_lxor hC d (by rw [fb_xorL]; exact k)
theorem v_laddN (hC : Cx X G own cc nL n mc ms) (d : decode cc pc = .ok (.ladd, 1)) (k : V X G kc ks ok ad σ l (pc + 1) (jv (a + b) :: st)) : V X G kc ks ok ad σ l pc (jv b :: jv a :: st) := v_ladd hC d (by rw [lN_add]; exact k)
theorem v_lshlN (hC : Cx X G own cc nL n mc ms) (d : decode cc pc = .ok (.lshl, 1)) (hp : p < 64) (k : V X G kc ks ok ad σ l (pc + 1) (jv (a * 2 ^ p) :: st)) : V X G kc ks ok ad σ l pc (iv p :: jv a :: st) := v_lshl hC d (wb_shl a hp) k
theorem v_i2lN (hC : Cx X G own cc nL n mc ms) (d : decode cc pc = .ok (.i2l, 1)) (ha : a < 2 ^ 31) (k : V X G kc ks ok ad σ l (pc + 1) (jv a :: st)) : V X G kc ks ok ad σ l pc (iv a :: st) := v_i2l hC d (nI_l ha) k
theorem v_if_eqJ {off : Int} {tgt : Nat} (hC : Cx X G own cc nL n mc ms) (d : decode cc pc = .ok (.ifCond .eq off, 3)) (ht : (pc : Int) + off = (tgt : Int)) (ha : a < 2 ^ 64) (hb : b < 2 ^ 64) (kt : a = b → V X G kc ks ok ad σ l tgt st) (kf : a ≠ b → V X G kc ks ok ad σ l (pc + 3) st) : V X G kc ks ok ad σ l pc (.int (lg_cmp (lN a) (lN b)) :: st) := v_if_eq hC d ht (fun q => kt ((lc_eq ha hb).mp q)) (fun q => kf fun e => q ((lc_eq ha hb).mpr e))
theorem v_if_neJ {off : Int} {tgt : Nat} (hC : Cx X G own cc nL n mc ms) (d : decode cc pc = .ok (.ifCond .ne off, 3)) (ht : (pc : Int) + off = (tgt : Int)) (ha : a < 2 ^ 64) (hb : b < 2 ^ 64) (kt : a ≠ b → V X G kc ks ok ad σ l tgt st) (kf : a = b → V X G kc ks ok ad σ l (pc + 3) st) : V X G kc ks ok ad σ l pc (.int (lg_cmp (lN a) (lN b)) :: st) := v_if_ne hC d ht (fun q => kt fun e => q ((lc_eq ha hb).mpr e)) (fun q => kf ((lc_eq ha hb).mp q))
end LONGN
/-! ===== bounds of all that is kept ===== -/
def bnd (k x : Nat) : Nat := match k with
  | 0 => 17
  | 1 => 6
  | 2 => 6
  | 3 => 2
  | 4 => 2
  | 6 => match x with
    | 0 => 6
    | 1 => 65536
    | 2 => 2
    | 3 => 18446744073709551616
    | 4 => 18446744073709551616
    | _ => 1
  | 7 => 100
  | 8 => 3
  | 9 => 18446744073709551616
  | 11 => 100
  | 12 => 17
  | 13 => 16
  | 14 => 16
  | 15 => 100
  | 16 => match x with
    | 0 => 13
    | 1 => 4000
    | 2 => 4000
    | 3 => 100000
    | _ => 1
  | 18 => match x with
    | 0 => 64
    | 1 => 64
    | 2 => 199
    | 3 => 2
    | _ => 1
  | 20 => 100
  | 21 => match x with
    | 0 => 2
    | _ => 18446744073709551616
  | 22 => 100
  | 30 => match x with
    | 0 => 5
    | 1 => 13
    | 2 => 17
    | 3 => 17
    | 4 => 17
    | 5 => 4000
    | 6 => 100000
    | _ => 1
  | 31 => 100
  | 32 => 64
  | 33 => 64
  | 34 => 199
  | 35 => 2
  | 36 => 6
  | 37 => 6
  | 38 => 2
  | 39 => 2
  | 41 => 101
  | 43 => 2
  | 45 => 65536
  | 48 => 101
  | 49 => 6
  | 50 => 16
  | 51 => 16
  | 52 => 65536
  | 53 => 2
  | 56 => 100
  | 57 => 16
  | 58 => 2
  | 62 => 100
  | _ => 18446744073709551616
/-- slots that hold addresses, which nothing bounds -/
def ptK (k x : Nat) : Bool := k == 19 || (k == 21 && x == 1) || k == 54 || k == 55 || k == 59 || Nat.ble 80 k
def BD (σ : SG) : Prop := ∀ k i j x, ptK k x = false → σ k i j x < bnd k x
theorem BD.put {σ : SG} (h : BD σ) {k i j x v : Nat} (hv : v < bnd k x) : BD (up σ k i j x v) := fun k' i' j' x' hp => by
  unfold up
  split
  · rename_i c
    obtain ⟨rfl, rfl, rfl, rfl⟩ := c
    exact hv
  · exact h k' i' j' x' hp
theorem BD.putp {σ : SG} (h : BD σ) {k i j x v : Nat} (hv : ptK k x = true) : BD (up σ k i j x v) := fun k' i' j' x' hp => by
  unfold up
  split
  · rename_i c
    obtain ⟨rfl, rfl, rfl, rfl⟩ := c
    rw [hv] at hp
    cases hp
  · exact h k' i' j' x' hp
theorem BD.i {σ : SG} (h : BD σ) (k i j x : Nat) (hb : Nat.ble (bnd k x) 2147483648 = true) (hp : ptK k x = false := by rfl) : σ k i j x < 2 ^ 31 := Nat.lt_of_lt_of_le (h k i j x hp) (Nat.le_of_ble_eq_true hb)
/-! ===== sets of places as numbers ===== -/
def b2n (b : Bool) : Nat := if b then 1 else 0
theorem b2n_lt (b : Bool) : b2n b < 2 := by cases b <;> decide
def cnt (f : Nat → Bool) : Nat → Nat
  | 0 => 0
  | n + 1 => cnt f n + b2n (f n)
def pop (m : Nat) : Nat := cnt m.testBit 64
theorem cnt_le (f : Nat → Bool) : ∀ n, cnt f n ≤ n
  | 0 => Nat.le_refl 0
  | n + 1 => by
    have h := cnt_le f n
    have h2 := b2n_lt (f n)
    show cnt f n + b2n (f n) ≤ n + 1
    omega
theorem pop_le (m : Nat) : pop m ≤ 64 := cnt_le _ 64
def clr (m b : Nat) : Nat := m &&& (b ^^^ M64)
theorem and_lt {a b : Nat} (h : a < 2 ^ 64) : a &&& b < 2 ^ 64 := Nat.lt_of_le_of_lt Nat.and_le_left h
theorem clr_lt {a b : Nat} (h : a < 2 ^ 64) : clr a b < 2 ^ 64 := and_lt h
theorem or_lt {a b : Nat} (h : a < 2 ^ 64) (h2 : b < 2 ^ 64) : a ||| b < 2 ^ 64 := Nat.or_lt_two_pow h h2
theorem bit_z (m p : Nat) : m &&& 1 * 2 ^ p = 0 ↔ m.testBit p = false := by
  rw [Nat.one_mul]
  exact fb_bit_nat m p
theorem p2_lt {p : Nat} (h : p < 64) : 1 * 2 ^ p < 2 ^ 64 := by
  rw [Nat.one_mul]
  exact Nat.pow_lt_pow_right (by decide) h
theorem bit_nz {m p : Nat} (h : m &&& 1 * 2 ^ p ≠ 0) : m.testBit p = true := by
  cases e : m.testBit p with
  | true => rfl
  | false => exact absurd ((bit_z m p).mpr e) h
theorem b2n_31 (b : Bool) : b2n b < 2 ^ 31 := Nat.lt_trans (b2n_lt b) (by decide)
theorem b2n_0 {b : Bool} (h : b2n b = 0) : b = false := by cases b <;> first | rfl | cases h
theorem b2n_1 {b : Bool} (h : b2n b ≠ 0) : b = true := by cases b <;> first | rfl | exact absurd rfl h
theorem down {P : Nat → Prop} (N : Nat) (hN : P N) (hs : ∀ p, p < N → P (p + 1) → P p) : ∀ p, p ≤ N → P p := by
  have h : ∀ r p, p + r = N → P p := by
    intro r
    induction r with
    | zero => intro p h; rw [Nat.add_zero] at h; subst h; exact hN
    | succ r ih => intro p h; exact hs p (by omega) (ih (p + 1) (by omega))
  exact fun p hp => h (N - p) p (by omega)
theorem downL {a : Nat} {P : Nat → Prop} (N : Nat) (hN : a ≤ N → P N) (hs : ∀ p, a ≤ p → p < N → P (p + 1) → P p) : ∀ p, a ≤ p → p ≤ N → P p := by
  have h : ∀ r p, p + r = N → a ≤ p → P p := by
    intro r
    induction r with
    | zero => intro p h ha; rw [Nat.add_zero] at h; subst h; exact hN ha
    | succ r ih => intro p h ha; exact hs p ha (by omega) (ih (p + 1) (by omega) (by omega))
  exact fun p ha hp => h (N - p) p (by omega) ha
def allB (f : Nat → Bool) (a : Nat) : Nat → Bool
  | 0 => true
  | n + 1 => allB f a n && f (a + n)
theorem allB_iff (f : Nat → Bool) (a : Nat) : ∀ n, allB f a n = true ↔ ∀ q, a ≤ q → q < a + n → f q = true
  | 0 => ⟨fun _ q h1 h2 => absurd h1 (by omega), fun _ => rfl⟩
  | n + 1 => by
    show (allB f a n && f (a + n)) = true ↔ _
    rw [Bool.and_eq_true, allB_iff f a n]
    constructor
    · intro h q h1 h2
      by_cases e : q = a + n
      · rw [e]; exact h.2
      · exact h.1 q h1 (by omega)
    · intro h
      exact ⟨fun q h1 h2 => h q h1 (by omega), h (a + n) (by omega) (by omega)⟩
theorem allB_no {f : Nat → Bool} {a n q : Nat} (h1 : a ≤ q) (h2 : q < a + n) (h : f q = false) : allB f a n = false := by
  cases e : allB f a n with
  | false => rfl
  | true => rw [(allB_iff f a n).mp e q h1 h2] at h; cases h
theorem kl_X1_44 : Cond.constantLong "Branchyard$Change" 44 (lN M64) ∈ lw_good := gd_at 514 (by decide +kernel) (by decide +kernel)
theorem kl_X1_46 : Cond.constantLong "Branchyard$Change" 46 (lN 65535) ∈ lw_good := gd_at 556 (by decide +kernel) (by decide +kernel)
/-! reading behind writing -/
theorem up_same (σ : SG) (k i j x v : Nat) : up σ k i j x v k i j x = v := by simp [up]
theorem up_k {σ : SG} {k i j x v k' i' j' x' : Nat} (h : k' ≠ k) : up σ k i j x v k' i' j' x' = σ k' i' j' x' := by simp [up, h]
theorem up_i {σ : SG} {k i j x v k' i' j' x' : Nat} (h : i' ≠ i) : up σ k i j x v k' i' j' x' = σ k' i' j' x' := by simp [up, h]
theorem up_j {σ : SG} {k i j x v k' i' j' x' : Nat} (h : j' ≠ j) : up σ k i j x v k' i' j' x' = σ k' i' j' x' := by simp [up, h]
theorem up_x {σ : SG} {k i j x v k' i' j' x' : Nat} (h : x' ≠ x) : up σ k i j x v k' i' j' x' = σ k' i' j' x' := by simp [up, h]
theorem upr_same (σ : SG) (k i j x : Nat) (f : Nat → Nat) : upr σ k i j f k i j x = f x := by simp [upr]
theorem upr_k {σ : SG} {k i j k' i' j' x' : Nat} {f : Nat → Nat} (h : k' ≠ k) : upr σ k i j f k' i' j' x' = σ k' i' j' x' := by simp [upr, h]
theorem upr_i {σ : SG} {k i j k' i' j' x' : Nat} {f : Nat → Nat} (h : i' ≠ i) : upr σ k i j f k' i' j' x' = σ k' i' j' x' := by simp [upr, h]
theorem BD.putr {σ : SG} (h : BD σ) {k i j : Nat} {f : Nat → Nat} (hv : ∀ x, ptK k x = false → f x < bnd k x) : BD (upr σ k i j f) := fun k' i' j' x' hp => by
  unfold upr
  split
  · rename_i c
    obtain ⟨rfl, rfl, rfl⟩ := c
    exact hv x' hp
  · exact h k' i' j' x' hp
theorem upr_row_eq {σ : SG} {k i j : Nat} {f g : Nat → Nat} (h : ∀ x, f x = g x) : upr σ k i j f = upr σ k i j g := by rw [funext h]
theorem oi_X5 : Cond.methodLink "Branchyard" 1 objectInit ∈ lw_good := gd_at 103 (by decide +kernel) (by decide +kernel)
theorem oi_X1 : Cond.methodLink "Branchyard$Change" 3 objectInit ∈ lw_good := gd_at 187 (by decide +kernel) (by decide +kernel)
theorem oi_X2 : Cond.methodLink "Branchyard$Order" 3 objectInit ∈ lw_good := gd_at 113 (by decide +kernel) (by decide +kernel)
theorem oi_X3 : Cond.methodLink "Branchyard$Test" 3 objectInit ∈ lw_good := gd_at 138 (by decide +kernel) (by decide +kernel)
theorem oi_X4 : Cond.methodLink "Branchyard$Works" 3 objectInit ∈ lw_good := gd_at 129 (by decide +kernel) (by decide +kernel)
theorem oi_X0 : Cond.methodLink "Branchyard$Cell" 1 objectInit ∈ lw_good := gd_at 712 (by decide +kernel) (by decide +kernel)
theorem oi_X6 : Cond.methodLink "BranchyardModel" 11 objectInit ∈ lw_good := gd_at 926 (by decide +kernel) (by decide +kernel)
theorem oi_Jxa1e45 : Cond.methodLink "java/util/AbstractCollection" 1 objectInit ∈ lw_good := gd_at 945 (by decide +kernel) (by decide +kernel)
theorem oi_Jx35411 : Cond.methodLink "java/util/ArrayList$Itr" 7 objectInit ∈ lw_good := gd_at 1207 (by decide +kernel) (by decide +kernel)
theorem ac_X1_52 : Cond.methodLink "Branchyard$Change" 52 arraycopyName ∈ lw_good := gd_at 534 (by decide +kernel) (by decide +kernel)
theorem ac_X5_242 : Cond.methodLink "Branchyard" 242 arraycopyName ∈ lw_good := gd_at 672 (by decide +kernel) (by decide +kernel)
theorem ac_J7_150 : Cond.methodLink "java/util/Arrays" 150 arraycopyName ∈ lw_good := gd_at 708 (by decide +kernel) (by decide +kernel)
