/-! ===== quotients of whole numbers are no NaN ===== -/
/-- a datum that is no NaN, as rounding leaves it -/
def okD (f : FP.Core.Fmt) : FP.Core.Datum → Prop
  | .nan => False
  | .inf _ => True
  | .fin _ c q => c < 2 * f.tails ∧ q ≤ f.qmax
theorem f32_t : FP.Core.b32.tails = 8388608 := by decide
theorem f32_e : FP.Core.b32.exps = 256 := by decide
theorem f32_p : (2 : Nat) ^ FP.Core.b32.p = 16777216 := by decide
theorem f32_n : FP.Core.b32.qmin = -149 := by decide
theorem f32_x : FP.Core.b32.qmax = 104 := by decide
theorem f64_t : FP.Core.b64.tails = 4503599627370496 := by decide
theorem f64_e : FP.Core.b64.exps = 2048 := by decide
theorem f64_p : (2 : Nat) ^ FP.Core.b64.p = 9007199254740992 := by decide
theorem f64_n : FP.Core.b64.qmin = -1074 := by decide
theorem f64_x : FP.Core.b64.qmax = 971 := by decide
theorem rr_ok {f : FP.Core.Fmt} (h1 : 2 ^ f.p = 2 * f.tails) (h2 : f.qmin ≤ f.qmax) (h3 : 0 < f.tails) (s : Bool) (n d : Nat) (e : Int) : okD f (FP.Core.roundRatio f s n d e) := by
  unfold FP.Core.roundRatio
  split
  · exact ⟨by omega, h2⟩
  · unfold FP.Core.roundAt FP.Core.settle FP.Core.bound
    split
    · split
      · exact ⟨by omega, by assumption⟩
      · trivial
    · split
      · exact ⟨by omega, by assumption⟩
      · trivial
theorem rr32 (s : Bool) (n d : Nat) (e : Int) : okD FP.Core.b32 (FP.Core.roundRatio FP.Core.b32 s n d e) := rr_ok (by decide) (by decide) (by decide) s n d e
theorem rr64 (s : Bool) (n d : Nat) (e : Int) : okD FP.Core.b64 (FP.Core.roundRatio FP.Core.b64 s n d e) := rr_ok (by decide) (by decide) (by decide) s n d e
def nzD : FP.Core.Datum → Bool
  | .fin _ c _ => decide (c ≠ 0)
  | _ => false
theorem quo_ok {f : FP.Core.Fmt} (hr : ∀ s n d e, okD f (FP.Core.roundRatio f s n d e)) {x y : FP.Core.Datum} (hx : x ≠ .nan) (hy : nzD y = true) : okD f (FP.Core.quotient f x y) := by
  cases y with
  | nan => cases hy
  | inf t => cases hy
  | fin t d r =>
    have hd : d ≠ 0 := of_decide_eq_true hy
    cases x with
    | nan => exact absurd rfl hx
    | inf s => exact trivial
    | fin s c q =>
      show okD f (if d = 0 then (if c = 0 then .nan else .inf (s != t)) else FP.Core.roundRatio f (s != t) c d (q - r))
      rw [if_neg hd]
      exact hr _ _ _ _
theorem rnd_ok {f : FP.Core.Fmt} (hr : ∀ s n d e, okD f (FP.Core.roundRatio f s n d e)) {x : FP.Core.Datum} (hx : x ≠ .nan) : okD f (FP.Core.round f x) := by
  cases x with
  | nan => exact absurd rfl hx
  | inf s => exact trivial
  | fin s c q => exact hr _ _ _ _
theorem enc32 {d : FP.Core.Datum} (h : okD FP.Core.b32 d) : ∃ s E T, FP.Core.encode FP.Core.b32 d = (s * 256 + E) * 8388608 + T ∧ s < 2 ∧ T < 8388608 ∧ (E < 255 ∨ E = 255 ∧ T = 0) := by
  cases d with
  | nan => exact h.elim
  | inf s =>
    refine ⟨s.toNat, 255, 0, ?_, by cases s <;> decide, by decide, .inr ⟨rfl, rfl⟩⟩
    unfold FP.Core.encode FP.Core.assemble
    rw [f32_e, f32_t]
  | fin s c q =>
    obtain ⟨h1, h2⟩ := h
    rw [f32_t] at h1
    rw [f32_x] at h2
    unfold FP.Core.encode FP.Core.assemble
    dsimp only
    rw [f32_e, f32_t, f32_n]
    have hs : s.toNat < 2 := by cases s <;> decide
    split
    · exact ⟨s.toNat, 0, c, rfl, hs, by assumption, .inl (by decide)⟩
    · refine ⟨s.toNat, (q - -149).toNat + 1, c - 8388608, rfl, hs, by omega, .inl (by omega)⟩
theorem enc64 {d : FP.Core.Datum} (h : okD FP.Core.b64 d) : ∃ s E T, FP.Core.encode FP.Core.b64 d = (s * 2048 + E) * 4503599627370496 + T ∧ s < 2 ∧ T < 4503599627370496 ∧ (E < 2047 ∨ E = 2047 ∧ T = 0) := by
  cases d with
  | nan => exact h.elim
  | inf s =>
    refine ⟨s.toNat, 2047, 0, ?_, by cases s <;> decide, by decide, .inr ⟨rfl, rfl⟩⟩
    unfold FP.Core.encode FP.Core.assemble
    rw [f64_e, f64_t]
  | fin s c q =>
    obtain ⟨h1, h2⟩ := h
    rw [f64_t] at h1
    rw [f64_x] at h2
    unfold FP.Core.encode FP.Core.assemble
    dsimp only
    rw [f64_e, f64_t, f64_n]
    have hs : s.toNat < 2 := by cases s <;> decide
    split
    · exact ⟨s.toNat, 0, c, rfl, hs, by assumption, .inl (by decide)⟩
    · refine ⟨s.toNat, (q - -1074).toNat + 1, c - 4503599627370496, rfl, hs, by omega, .inl (by omega)⟩
theorem tn32 {n : Nat} (h : n < 2 ^ 32) : (UInt32.ofNat n).toNat = n := by
  rw [UInt32.toNat_ofNat']
  exact Nat.mod_eq_of_lt h
theorem tn64 {n : Nat} (h : n < 2 ^ 64) : (UInt64.ofNat n).toNat = n := by
  rw [UInt64.toNat_ofNat']
  exact Nat.mod_eq_of_lt h
theorem n32_of {d : FP.Core.Datum} (h : okD FP.Core.b32 d) : vf_n32 (UInt32.ofNat (FP.Core.encode FP.Core.b32 d)) := by
  obtain ⟨s, E, T, e, h1, h2, h3⟩ := enc32 h
  unfold vf_n32
  rw [e, UInt32.le_iff_toNat_le, UInt32.toNat_and, tn32 (by omega)]
  have e1 : ((s * 256 + E) * 8388608 + T) &&& 2147483647 = ((s * 256 + E) * 8388608 + T) % 2147483648 := Nat.and_two_pow_sub_one_eq_mod _ 31
  show ((s * 256 + E) * 8388608 + T) &&& 2147483647 ≤ 2139095040
  rw [e1]
  omega
theorem n64_of {d : FP.Core.Datum} (h : okD FP.Core.b64 d) : vf_n64 (UInt64.ofNat (FP.Core.encode FP.Core.b64 d)) := by
  obtain ⟨s, E, T, e, h1, h2, h3⟩ := enc64 h
  unfold vf_n64
  rw [e, UInt64.le_iff_toNat_le, UInt64.toNat_and, tn64 (by omega)]
  have e1 : ((s * 2048 + E) * 4503599627370496 + T) &&& 9223372036854775807 = ((s * 2048 + E) * 4503599627370496 + T) % 9223372036854775808 := Nat.and_two_pow_sub_one_eq_mod _ 63
  show ((s * 2048 + E) * 4503599627370496 + T) &&& 9223372036854775807 ≤ 9218868437227405312
  rw [e1]
  omega
theorem dec32 {d : FP.Core.Datum} (h : okD FP.Core.b32 d) : FP.Core.decode FP.Core.b32 (UInt32.ofNat (FP.Core.encode FP.Core.b32 d)).toNat ≠ .nan := by
  obtain ⟨s, E, T, e, h1, h2, h3⟩ := enc32 h
  rw [e, tn32 (by omega)]
  unfold FP.Core.decode FP.Core.fieldE FP.Core.fieldT
  rw [f32_e, f32_t]
  have e1 : ((s * 256 + E) * 8388608 + T) / 8388608 % 256 = E := by omega
  have e2 : ((s * 256 + E) * 8388608 + T) % 8388608 = T := by omega
  rw [e1, e2]
  by_cases c : E = 256 - 1
  · rw [if_pos c, if_pos (by omega)]
    exact fun q => by cases q
  · rw [if_neg c]
    split <;> exact fun q => by cases q
theorem dec64 {d : FP.Core.Datum} (h : okD FP.Core.b64 d) : FP.Core.decode FP.Core.b64 (UInt64.ofNat (FP.Core.encode FP.Core.b64 d)).toNat ≠ .nan := by
  obtain ⟨s, E, T, e, h1, h2, h3⟩ := enc64 h
  rw [e, tn64 (by omega)]
  unfold FP.Core.decode FP.Core.fieldE FP.Core.fieldT
  rw [f64_e, f64_t]
  have e1 : ((s * 2048 + E) * 4503599627370496 + T) / 4503599627370496 % 2048 = E := by omega
  have e2 : ((s * 2048 + E) * 4503599627370496 + T) % 4503599627370496 = T := by omega
  rw [e1, e2]
  by_cases c : E = 2048 - 1
  · rw [if_pos c, if_pos (by omega)]
    exact fun q => by cases q
  · rw [if_neg c]
    split <;> exact fun q => by cases q
theorem l2f_nn (a : Int64) : FP.Core.decode FP.Core.b32 (FP.l2f a).toNat ≠ .nan := dec32 (d := FP.Core.round FP.Core.b32 (FP.Core.ofInt a.toInt)) (rnd_ok rr32 (fun q => by cases q))
theorem i2d_nn (a : Int32) : FP.Core.decode FP.Core.b64 (FP.i2d a).toNat ≠ .nan := dec64 (d := FP.Core.round FP.Core.b64 (FP.Core.ofInt a.toInt)) (rnd_ok rr64 (fun q => by cases q))
theorem i2d_nz : ∀ n, n < 17 → n ≠ 0 → nzD (FP.Core.decode FP.Core.b64 (FP.i2d (nI n)).toNat) = true := by decide +kernel
/-- a whole number below 2^24 as a float -/
theorem l2f_ld {n : Nat} (h0 : n ≠ 0) : FP.Core.leading n 1 = (n.log2 : Int) := by
  have hL1 : 2 ^ n.log2 ≤ n := Nat.log2_self_le h0
  have e1 : Nat.log2 1 = 0 := by decide
  have e3 : ((n.log2 : Int) - (Nat.log2 1 : Int)).toNat = n.log2 := by rw [e1]; omega
  have e4 : (-((n.log2 : Int) - (Nat.log2 1 : Int))).toNat = 0 := by rw [e1]; omega
  show (if 1 * 2 ^ ((n.log2 : Int) - (Nat.log2 1 : Int)).toNat ≤ n * 2 ^ (-((n.log2 : Int) - (Nat.log2 1 : Int))).toNat then (n.log2 : Int) - (Nat.log2 1 : Int) else (n.log2 : Int) - (Nat.log2 1 : Int) - 1) = _
  rw [e3, e4, if_pos (by rw [Nat.pow_zero]; omega), e1]
  omega
theorem l2f_c {n : Nat} (h0 : n ≠ 0) (h : n < 2 ^ 24) : n * 2 ^ (23 - n.log2) < 16777216 ∧ 8388608 ≤ n * 2 ^ (23 - n.log2) := by
  have hL1 : 2 ^ n.log2 ≤ n := Nat.log2_self_le h0
  have hL2 : n < 2 ^ (n.log2 + 1) := Nat.lt_log2_self
  have hL : n.log2 < 24 := (Nat.log2_lt h0).mpr h
  constructor
  · have h1 := Nat.mul_lt_mul_of_pos_right hL2 (Nat.two_pow_pos (23 - n.log2))
    rw [← Nat.pow_add, show n.log2 + 1 + (23 - n.log2) = 24 by omega] at h1
    exact Nat.lt_of_lt_of_le h1 (by decide)
  · have h1 := Nat.mul_le_mul_right (2 ^ (23 - n.log2)) hL1
    rw [← Nat.pow_add, show n.log2 + (23 - n.log2) = 23 by omega] at h1
    exact Nat.le_trans (by decide) h1
theorem l2f_rnd {n : Nat} (h0 : n ≠ 0) (h : n < 2 ^ 24) : FP.Core.round FP.Core.b32 (FP.Core.ofInt (n : Int)) = .fin false (n * 2 ^ (23 - n.log2)) ((n.log2 : Int) - 23) := by
  have hL : n.log2 < 24 := (Nat.log2_lt h0).mpr h
  have hc := (l2f_c h0 h).1
  have hneg : decide ((n : Int) < 0) = false := decide_eq_false (by omega)
  have hq : FP.Core.quantum FP.Core.b32 n 1 0 = (n.log2 : Int) - 23 := by
    unfold FP.Core.quantum
    rw [l2f_ld h0, f32_n]
    show max (-149) ((n.log2 : Int) + 0 - ((24 : Int) - 1)) = _
    rw [Int.max_eq_right (by omega)]
    omega
  have hu : FP.Core.unitsNum n 0 ((n.log2 : Int) - 23) = n * 2 ^ (23 - n.log2) := by
    unfold FP.Core.unitsNum
    rw [show (0 - ((n.log2 : Int) - 23)).toNat = 23 - n.log2 by omega]
  have hd : FP.Core.unitsDen 1 0 ((n.log2 : Int) - 23) = 1 := by
    unfold FP.Core.unitsDen
    rw [show ((n.log2 : Int) - 23 - 0).toNat = 0 by omega]
  have hn : ∀ m, FP.Core.nearest m 1 = m := fun m => by
    unfold FP.Core.nearest
    rw [if_pos (by omega), Nat.div_one]
  show FP.Core.roundRatio FP.Core.b32 (decide ((n : Int) < 0)) n 1 0 = _
  rw [hneg]
  unfold FP.Core.roundRatio
  rw [if_neg h0]
  unfold FP.Core.roundAt
  rw [hq, hu, hd, hn]
  unfold FP.Core.settle FP.Core.bound
  rw [f32_p, if_pos hc, f32_x, if_pos (by omega)]
theorem nI_l64 {n : Nat} (h : n < 2 ^ 63) : (lN n).toInt = n := by
  unfold lN
  rw [Int64.toInt_ofNat_of_lt (by omega)]
theorem l2f_nz {n : Nat} (h0 : n ≠ 0) (h : n < 2 ^ 24) : nzD (FP.Core.decode FP.Core.b32 (FP.l2f (lN n)).toNat) = true := by
  have hL : n.log2 < 24 := (Nat.log2_lt h0).mpr h
  obtain ⟨hc1, hc2⟩ := l2f_c h0 h
  have e := l2f_rnd h0 h
  show nzD (FP.Core.decode FP.Core.b32 (UInt32.ofNat (FP.Core.encode FP.Core.b32 (FP.Core.round FP.Core.b32 (FP.Core.ofInt (lN n).toInt)))).toNat) = true
  rw [nI_l64 (by omega), e]
  generalize n * 2 ^ (23 - n.log2) = c at *
  generalize n.log2 = L at *
  have e2 : FP.Core.encode FP.Core.b32 (.fin false c ((L : Int) - 23)) = (L + 127) * 8388608 + (c - 8388608) := by
    unfold FP.Core.encode FP.Core.assemble
    dsimp only
    rw [f32_t, if_neg (by omega), f32_e, f32_n, show false.toNat = 0 from rfl]
    omega
  rw [e2, tn32 (by omega)]
  unfold FP.Core.decode FP.Core.fieldE FP.Core.fieldT
  rw [f32_e, f32_t]
  have e3 : ((L + 127) * 8388608 + (c - 8388608)) / 8388608 % 256 = L + 127 := by omega
  rw [e3, if_neg (by omega), if_neg (by omega)]
  unfold nzD
  dsimp only
  exact decide_eq_true (by omega)
theorem fdiv_n {a b : Nat} (hb0 : b ≠ 0) (hb : b < 2 ^ 24) : vf_n32 (FP.fdiv (FP.l2f (lN a)) (FP.l2f (lN b))) := n32_of (d := FP.Core.quotient FP.Core.b32 (FP.Core.decode FP.Core.b32 (FP.l2f (lN a)).toNat) (FP.Core.decode FP.Core.b32 (FP.l2f (lN b)).toNat)) (quo_ok rr32 (l2f_nn _) (l2f_nz hb0 hb))
theorem fdiv_nn {a b : Nat} (hb0 : b ≠ 0) (hb : b < 2 ^ 24) : FP.Core.decode FP.Core.b32 (FP.fdiv (FP.l2f (lN a)) (FP.l2f (lN b))).toNat ≠ .nan := dec32 (d := FP.Core.quotient FP.Core.b32 (FP.Core.decode FP.Core.b32 (FP.l2f (lN a)).toNat) (FP.Core.decode FP.Core.b32 (FP.l2f (lN b)).toNat)) (quo_ok rr32 (l2f_nn _) (l2f_nz hb0 hb))
theorem f2d_c {x : UInt32} (h : FP.Core.decode FP.Core.b32 x.toNat ≠ .nan) : FP.f2d x = FP.Core.f2d x := by
  unfold FP.f2d
  exact if_neg (fun q => h (of_decide_eq_true q))
theorem f2d_n {x : UInt32} (h : FP.Core.decode FP.Core.b32 x.toNat ≠ .nan) : vf_n64 (FP.f2d x) := f2d_c h ▸ n64_of (d := FP.Core.round FP.Core.b64 (FP.Core.decode FP.Core.b32 x.toNat)) (rnd_ok rr64 h)
theorem f2d_nn {x : UInt32} (h : FP.Core.decode FP.Core.b32 x.toNat ≠ .nan) : FP.Core.decode FP.Core.b64 (FP.f2d x).toNat ≠ .nan := f2d_c h ▸ dec64 (d := FP.Core.round FP.Core.b64 (FP.Core.decode FP.Core.b32 x.toNat)) (rnd_ok rr64 h)
theorem ddiv_n {a : Int32} {b : Nat} (hb0 : b ≠ 0) (hb : b < 17) : vf_n64 (FP.ddiv (FP.i2d a) (FP.i2d (nI b))) := n64_of (d := FP.Core.quotient FP.Core.b64 (FP.Core.decode FP.Core.b64 (FP.i2d a).toNat) (FP.Core.decode FP.Core.b64 (FP.i2d (nI b)).toNat)) (quo_ok rr64 (i2d_nn _) (i2d_nz b hb hb0))
theorem ddiv_nn {a : Int32} {b : Nat} (hb0 : b ≠ 0) (hb : b < 17) : FP.Core.decode FP.Core.b64 (FP.ddiv (FP.i2d a) (FP.i2d (nI b))).toNat ≠ .nan := dec64 (d := FP.Core.quotient FP.Core.b64 (FP.Core.decode FP.Core.b64 (FP.i2d a).toNat) (FP.Core.decode FP.Core.b64 (FP.i2d (nI b)).toNat)) (quo_ok rr64 (i2d_nn _) (i2d_nz b hb hb0))
/-- a double that is no NaN is equal to itself -/
theorem dcmp_self {x : UInt64} (h : FP.Core.decode FP.Core.b64 x.toNat ≠ .nan) : FP.dcmp x x = some .eq := by
  show FP.Core.order (FP.Core.decode FP.Core.b64 x.toNat) (FP.Core.decode FP.Core.b64 x.toNat) = some .eq
  generalize FP.Core.decode FP.Core.b64 x.toNat = d at *
  cases d with
  | nan => exact absurd rfl h
  | inf s => cases s <;> rfl
  | fin s c q =>
    unfold FP.Core.order
    dsimp only
    rw [show compare (FP.Core.signed s (FP.Core.inUnits c q (min q q))) (FP.Core.signed s (FP.Core.inUnits c q (min q q))) = .eq from by
      show compareOfLessAndEq _ _ = _
      unfold compareOfLessAndEq
      rw [if_neg (Int.lt_irrefl _), if_pos rfl]]
