/-! ===== Long.bitCount and Integer.bitCount count bits ===== -/
def mkm (u : Nat) : Nat → Nat
  | 0 => 0
  | K + 1 => u + 256 * mkm u K
def dg (f : Nat → Nat) : Nat → Nat → Nat
  | 0, _ => 0
  | K + 1, n => f (n % 256) + 256 * dg f K (n / 256)
theorem and_dig {b n u m : Nat} (hb : b < 256) (hu : u < 256) : (b + 256 * n) &&& (u + 256 * m) = (b &&& u) + 256 * (n &&& m) := by
  have e : ∀ {c k : Nat}, c < 256 → ∀ i, (c + 256 * k).testBit i = if i < 8 then c.testBit i else k.testBit (i - 8) := fun {c k} hc i => by
    have h := Nat.testBit_two_pow_mul_add k (b := c) (i := 8) (by omega) i
    rw [← h, Nat.add_comm]
  apply Nat.eq_of_testBit_eq
  intro i
  rw [Nat.testBit_and, e hb, e hu, e (Nat.lt_of_le_of_lt Nat.and_le_left hb)]
  by_cases h : i < 8 <;> simp [h, Nat.testBit_and]
theorem f_55 : ∀ b, b < 256 → ∀ t, t < 2 → (b / 2 + 128 * t) &&& 85 = b / 2 &&& 85 := by decide +kernel
theorem f_33 : ∀ b, b < 256 → ∀ t, t < 4 → (b / 4 + 64 * t) &&& 51 = b / 4 &&& 51 := by decide +kernel
theorem f_0f : ∀ b, b < 69 → ∀ t, t < 5 → (b + b / 16 + 16 * t) &&& 15 = (b + b / 16) &&& 15 := by decide +kernel
def h1_ (b : Nat) : Nat := b - (b / 2 &&& 85)
def h2_ (b : Nat) : Nat := (b &&& 51) + (b / 4 &&& 51)
def h3_ (b : Nat) : Nat := (b + b / 16) &&& 15
theorem g1_dg : ∀ (K n : Nat), n < 256 ^ K → n - (n / 2 &&& mkm 85 K) = dg h1_ K n
  | 0, n, h => by
    rw [Nat.pow_zero] at h
    have : n = 0 := by omega
    subst this
    rfl
  | K + 1, n, h => by
    rw [Nat.pow_succ] at h
    have hn : n / 256 < 256 ^ K := by omega
    have ih := g1_dg K (n / 256) hn
    have e : n / 2 = (n % 256 / 2 + 128 * (n / 256 % 2)) + 256 * (n / 256 / 2) := by omega
    have e2 : n / 2 &&& mkm 85 (K + 1) = (n % 256 / 2 &&& 85) + 256 * (n / 256 / 2 &&& mkm 85 K) := by
      show n / 2 &&& (85 + 256 * mkm 85 K) = _
      rw [e, and_dig (by omega) (by decide), f_55 _ (by omega) _ (by omega)]
    have a1 : n % 256 / 2 &&& 85 ≤ n % 256 / 2 := Nat.and_le_left
    have a2 : n / 256 / 2 &&& mkm 85 K ≤ n / 256 / 2 := Nat.and_le_left
    show _ = h1_ (n % 256) + 256 * dg h1_ K (n / 256)
    rw [e2, ← ih]
    unfold h1_
    omega
theorem g2_dg : ∀ (K n : Nat), n < 256 ^ K → (n &&& mkm 51 K) + (n / 4 &&& mkm 51 K) = dg h2_ K n
  | 0, n, h => by
    rw [Nat.pow_zero] at h
    have : n = 0 := by omega
    subst this
    rfl
  | K + 1, n, h => by
    rw [Nat.pow_succ] at h
    have hn : n / 256 < 256 ^ K := by omega
    have ih := g2_dg K (n / 256) hn
    have e0 : n &&& mkm 51 (K + 1) = (n % 256 &&& 51) + 256 * (n / 256 &&& mkm 51 K) := by
      show n &&& (51 + 256 * mkm 51 K) = _
      rw [← and_dig (by omega) (by decide)]
      congr 1
      omega
    have e : n / 4 = (n % 256 / 4 + 64 * (n / 256 % 4)) + 256 * (n / 256 / 4) := by omega
    have e2 : n / 4 &&& mkm 51 (K + 1) = (n % 256 / 4 &&& 51) + 256 * (n / 256 / 4 &&& mkm 51 K) := by
      show n / 4 &&& (51 + 256 * mkm 51 K) = _
      rw [e, and_dig (by omega) (by decide), f_33 _ (by omega) _ (by omega)]
    show _ = h2_ (n % 256) + 256 * dg h2_ K (n / 256)
    rw [e0, e2, ← ih]
    unfold h2_
    omega
/-- every digit's two halves are at most 4 -/
def nib : Nat → Nat → Prop
  | 0, _ => True
  | K + 1, n => n % 256 % 16 ≤ 4 ∧ n % 256 / 16 ≤ 4 ∧ nib K (n / 256)
theorem nib_16 : ∀ (K n : Nat), n < 256 ^ K → nib K n → n % 16 ≤ 4
  | 0, n, h, _ => by rw [Nat.pow_zero] at h; omega
  | K + 1, n, _, hn => by have := hn.1; omega
theorem g3_dg : ∀ (K n : Nat), n < 256 ^ K → nib K n → (n + n / 16) &&& mkm 15 K = dg h3_ K n
  | 0, n, h, _ => by
    rw [Nat.pow_zero] at h
    have : n = 0 := by omega
    subst this
    rfl
  | K + 1, n, h, hb => by
    obtain ⟨b1, b2, b3⟩ := hb
    rw [Nat.pow_succ] at h
    have hn : n / 256 < 256 ^ K := by omega
    have ih := g3_dg K (n / 256) hn b3
    have ht := nib_16 K (n / 256) hn b3
    have e : n + n / 16 = (n % 256 + n % 256 / 16 + 16 * (n / 256 % 16)) + 256 * (n / 256 + n / 256 / 16) := by omega
    show (n + n / 16) &&& (15 + 256 * mkm 15 K) = h3_ (n % 256) + 256 * dg h3_ K (n / 256)
    rw [e, and_dig (by omega) (by decide), f_0f _ (by omega) _ (by omega), ih]
    rfl
theorem dg_lt {f : Nat → Nat} (hf : ∀ b, b < 256 → f b < 256) : ∀ (K n : Nat), dg f K n < 256 ^ K
  | 0, _ => by rw [Nat.pow_zero]; show 0 < 1; decide
  | K + 1, n => by
    have h1 := dg_lt hf K (n / 256)
    have h2 := hf (n % 256) (by omega)
    rw [Nat.pow_succ]
    show f (n % 256) + 256 * dg f K (n / 256) < _
    omega
theorem dg_dg {f g : Nat → Nat} (hf : ∀ b, b < 256 → f b < 256) : ∀ (K n : Nat), dg g K (dg f K n) = dg (fun b => g (f b)) K n
  | 0, _ => rfl
  | K + 1, n => by
    have h2 := hf (n % 256) (by omega)
    have e1 : (f (n % 256) + 256 * dg f K (n / 256)) % 256 = f (n % 256) := by omega
    have e2 : (f (n % 256) + 256 * dg f K (n / 256)) / 256 = dg f K (n / 256) := by omega
    show g ((f (n % 256) + 256 * dg f K (n / 256)) % 256) + 256 * dg g K ((f (n % 256) + 256 * dg f K (n / 256)) / 256) = g (f (n % 256)) + 256 * dg (fun b => g (f b)) K (n / 256)
    rw [e1, e2, dg_dg hf K]
theorem dg_nib {f : Nat → Nat} (hf : ∀ b, b < 256 → f b < 256 ∧ f b % 16 ≤ 4 ∧ f b / 16 ≤ 4) : ∀ (K n : Nat), nib K (dg f K n)
  | 0, _ => trivial
  | K + 1, n => by
    have h2 := hf (n % 256) (by omega)
    have e1 : (f (n % 256) + 256 * dg f K (n / 256)) % 256 = f (n % 256) := by omega
    have e2 : (f (n % 256) + 256 * dg f K (n / 256)) / 256 = dg f K (n / 256) := by omega
    show (f (n % 256) + 256 * dg f K (n / 256)) % 256 % 16 ≤ 4 ∧ (f (n % 256) + 256 * dg f K (n / 256)) % 256 / 16 ≤ 4 ∧ nib K ((f (n % 256) + 256 * dg f K (n / 256)) / 256)
    rw [e1, e2]
    exact ⟨h2.2.1, h2.2.2, dg_nib hf K _⟩
theorem dg_cong {f g : Nat → Nat} (h : ∀ b, b < 256 → f b = g b) : ∀ (K n : Nat), dg f K n = dg g K n
  | 0, _ => rfl
  | K + 1, n => by
    show f (n % 256) + 256 * dg f K (n / 256) = g (n % 256) + 256 * dg g K (n / 256)
    rw [h _ (by omega), dg_cong h K]
theorem h1_lt : ∀ b, b < 256 → h1_ b < 256 := by decide +kernel
theorem h2_ok : ∀ b, b < 256 → h2_ (h1_ b) < 256 ∧ h2_ (h1_ b) % 16 ≤ 4 ∧ h2_ (h1_ b) / 16 ≤ 4 := by decide +kernel
theorem h3_pop : ∀ b, b < 256 → h3_ (h2_ (h1_ b)) = cnt b.testBit 8 := by decide +kernel
def bcn (K n : Nat) : Nat := (((n - (n / 2 &&& mkm 85 K)) &&& mkm 51 K) + ((n - (n / 2 &&& mkm 85 K)) / 4 &&& mkm 51 K))
theorem bcn_dg (K n : Nat) (h : n < 256 ^ K) : bcn K n = dg (fun b => h2_ (h1_ b)) K n ∧ (bcn K n + bcn K n / 16) &&& mkm 15 K = dg (fun b => cnt b.testBit 8) K n := by
  have e1 : bcn K n = dg (fun b => h2_ (h1_ b)) K n := by
    unfold bcn
    rw [g1_dg K n h, g2_dg K _ (dg_lt h1_lt K n), dg_dg h1_lt]
  refine ⟨e1, ?_⟩
  rw [e1, g3_dg K _ (dg_lt (fun b hb => (h2_ok b hb).1) K n) (dg_nib h2_ok K n), dg_dg (fun b hb => (h2_ok b hb).1)]
  exact dg_cong h3_pop K n
theorem cnt_add (f : Nat → Bool) (m : Nat) : ∀ n, cnt f (m + n) = cnt f m + cnt (fun k => f (m + k)) n
  | 0 => rfl
  | n + 1 => by
    show cnt f (m + n) + b2n (f (m + n)) = cnt f m + (cnt (fun k => f (m + k)) n + b2n (f (m + n)))
    rw [cnt_add f m n]
    omega
theorem cnt_cong {f g : Nat → Bool} : ∀ {n : Nat}, (∀ k, k < n → f k = g k) → cnt f n = cnt g n
  | 0, _ => rfl
  | n + 1, h => by
    show cnt f n + b2n (f n) = cnt g n + b2n (g n)
    rw [cnt_cong (fun k hk => h k (by omega)), h n (by omega)]
theorem cnt_dig (n : Nat) (m : Nat) : cnt n.testBit (8 + m) = cnt (n % 256).testBit 8 + cnt (n / 256).testBit m := by
  rw [cnt_add]
  have e : (256 : Nat) = 2 ^ 8 := rfl
  congr 1
  · refine cnt_cong (fun k hk => ?_)
    rw [e, Nat.testBit_mod_two_pow]
    simp [hk]
  · refine cnt_cong (fun k hk => ?_)
    rw [e, Nat.testBit_div_two_pow]
    rw [Nat.add_comm]
theorem c8_le (b : Nat) : cnt b.testBit 8 ≤ 8 := cnt_le _ 8
/-- the sum of the eight digits -/
theorem bc64 (n : Nat) (h : n < 2 ^ 64) (a4 a5 a6 : Nat) (h4 : a4 = dg (fun b => cnt b.testBit 8) 8 n + dg (fun b => cnt b.testBit 8) 8 n / 256) (h5 : a5 = a4 + a4 / 65536) (h6 : a6 = a5 + a5 / 4294967296) : a6 % 128 = pop n := by
  unfold pop
  rw [show (64 : Nat) = 8 + (8 + (8 + (8 + (8 + (8 + (8 + (8 + 0))))))) from rfl]
  simp only [cnt_dig]
  simp only [dg] at h4
  have p0 := c8_le (n % 256)
  have p1 := c8_le (n / 256 % 256)
  have p2 := c8_le (n / 256 / 256 % 256)
  have p3 := c8_le (n / 256 / 256 / 256 % 256)
  have p4 := c8_le (n / 256 / 256 / 256 / 256 % 256)
  have p5 := c8_le (n / 256 / 256 / 256 / 256 / 256 % 256)
  have p6 := c8_le (n / 256 / 256 / 256 / 256 / 256 / 256 % 256)
  have p7 := c8_le (n / 256 / 256 / 256 / 256 / 256 / 256 / 256 % 256)
  generalize cnt (n % 256).testBit 8 = q0 at *
  generalize cnt (n / 256 % 256).testBit 8 = q1 at *
  generalize cnt (n / 256 / 256 % 256).testBit 8 = q2 at *
  generalize cnt (n / 256 / 256 / 256 % 256).testBit 8 = q3 at *
  generalize cnt (n / 256 / 256 / 256 / 256 % 256).testBit 8 = q4 at *
  generalize cnt (n / 256 / 256 / 256 / 256 / 256 % 256).testBit 8 = q5 at *
  generalize cnt (n / 256 / 256 / 256 / 256 / 256 / 256 % 256).testBit 8 = q6 at *
  generalize cnt (n / 256 / 256 / 256 / 256 / 256 / 256 / 256 % 256).testBit 8 = q7 at *
  show _ = q0 + (q1 + (q2 + (q3 + (q4 + (q5 + (q6 + (q7 + 0)))))))
  have e3 : (q0 + 256 * (q1 + 256 * (q2 + 256 * (q3 + 256 * (q4 + 256 * (q5 + 256 * (q6 + 256 * (q7 + 256 * 0)))))))) / 256 = q1 + 256 * (q2 + 256 * (q3 + 256 * (q4 + 256 * (q5 + 256 * (q6 + 256 * q7))))) := by omega
  rw [e3] at h4
  have e4 : a4 / 65536 = (q2 + q3) + 256 * ((q3 + q4) + 256 * ((q4 + q5) + 256 * ((q5 + q6) + 256 * ((q6 + q7) + 256 * q7)))) := by omega
  have e5 : a5 / 4294967296 = (q4 + q5 + (q6 + q7)) + 256 * ((q5 + q6 + q7) + 256 * ((q6 + q7) + 256 * q7)) := by omega
  omega
