/-! ===== the class's memory s and the model's t: all that stands beside a step's ===== -/
def vc (n : Nat) : Nat := if n = 0 then 45 else if n = 1 then 97 else 98
def RX (s τ : SG) : Prop := (∀ d, d < 4 → τ 36 0 0 d = s 1 0 0 d ∧ τ 37 0 0 d = s 2 0 0 d ∧ τ 38 0 0 d = s 3 0 0 d) ∧ (∀ p, p < 6 → τ 39 0 0 p = s 4 0 0 p) ∧ (∀ c, c < s 0 0 0 0 → τ 49 0 0 c = s 6 c 0 0) ∧ (∀ c, c < s 0 0 0 0 → ∀ p, p < 6 → τ 45 c 0 p = vc (s 8 c 0 p)) ∧ (∀ c, c < s 0 0 0 0 → ∀ p, p < 6 → s 8 c 0 p = 1 → ∀ x, x < 64 → τ 48 c p x = if (s 9 c 0 p).testBit x = true then s 11 c p x + 1 else 0) ∧ (∀ c, s 0 0 0 0 ≤ c → c < 16 → s 6 c 0 1 = 111 ∧ s 6 c 0 2 = 0 ∧ s 6 c 0 3 = 0 ∧ s 6 c 0 4 = 0 ∧ (∀ p, p < 6 → s 8 c 0 p = 0)) ∧ ∀ t, s 16 0 0 0 ≤ t → t < 12 → τ 35 0 0 t = 0
theorem dir_bit : ∀ d, d < 4 → ∀ p, p < 64 → (65535 * 2 ^ (d * 16)).testBit p = decide (p / 16 = d) := by decide +kernel
section REL
variable {s τ : SG} {c d p : Nat}
theorem mask_ask (h : RX s τ) (hB : BD s) (hc : c < s 0 0 0 0) (hd : d < 4) : mask τ c d = ask s c d := by
  have h1 : s 1 0 0 d < 6 := hB 1 0 0 d rfl
  unfold mask ask
  rw [(h.1 d hd).1, (h.1 d hd).2.1, h.2.1 _ h1, h.2.2.1 c hc]
theorem mtc_tch (hS : SM s τ) (hB : BD s) (hc : c < s 0 0 0 0) (hd : d < 4) : mtc τ c d = tch (s 6 c 0 3) d := by
  have hlt : s 6 c 0 3 < 2 ^ 64 := hB 6 c 0 3 rfl
  apply Bool.eq_iff_iff.mpr
  show (!allB _ 0 64) = true ↔ decide (s 6 c 0 3 &&& 65535 * 2 ^ (d * 16) ≠ 0) = true
  rw [decide_eq_true_iff, and_nz hlt, Bool.not_eq_true', ← Bool.not_eq_true, allB_iff]
  constructor
  · intro q
    apply Classical.byContradiction
    intro z
    apply q
    intro p _ hp
    rw [hS.bit hc (by omega)]
    cases e1 : (s 6 c 0 3).testBit p
    · rfl
    · cases e2 : decide (p / 16 = d)
      · rfl
      · exact absurd ⟨p, by omega, e1, by rw [dir_bit d hd p (by omega)]; exact e2⟩ z
  · rintro ⟨p, hp, e1, e2⟩ q
    rw [dir_bit d hd p hp] at e2
    have := q p (Nat.zero_le _) (by omega)
    rw [hS.bit hc hp, e1, e2] at this
    cases this
theorem mcv_cvA (h : RX s τ) (hS : SM s τ) (hc : c < s 0 0 0 0) (hd : d < 4) (hp : p < 6) (hv : s 8 c 0 p = 1) : mcv τ c d p = cvA s c p d := by
  have key : ∀ q, q < 64 → (s 6 c 0 3).testBit q = true → (decide (τ 48 c p q = τ 41 c 0 q) = cvr s c p q) := fun q hq hb => by
    rw [h.2.2.2.2.1 c hc p hp hv q hq, hS.2.1 c hc q hq, if_pos hb]
    unfold cvr
    cases e : (s 9 c 0 p).testBit q with
    | true =>
      rw [if_pos rfl, Bool.true_and]
      exact decide_eq_decide.mpr ⟨fun z => by omega, fun z => by omega⟩
    | false =>
      rw [if_neg (by decide), Bool.false_and]
      exact decide_eq_false (by omega)
  apply Bool.eq_iff_iff.mpr
  show allB _ 0 64 = true ↔ allB _ (d * 16) 16 = true
  rw [allB_iff, allB_iff]
  constructor
  · intro H q h1 h2
    have hq : q < 64 := by omega
    have := H q (Nat.zero_le _) (by omega)
    rw [hS.bit hc hq, show decide (q / 16 = d) = true from decide_eq_true (by omega), Bool.true_and] at this
    cases hb : (s 6 c 0 3).testBit q with
    | false => rfl
    | true =>
      rw [hb, key q hq hb] at this
      exact this
  · intro H q _ hq
    cases hb : (s 6 c 0 3).testBit q with
    | false => rw [hS.bit hc (by omega), hb, Bool.and_false]; rfl
    | true =>
      by_cases e : q / 16 = d
      · have := H q (by omega) (by omega)
        rw [hb] at this
        rw [hS.bit hc (by omega), hb, key q (by omega) hb, decide_eq_true e]
        exact this
      · rw [decide_eq_false e]
        rfl
theorem vc_45 (n : Nat) : vc n = 45 ↔ n = 0 := by
  unfold vc
  split
  · simp [*]
  · split <;> simp [*]
theorem vc_98 (n : Nat) : vc n = 98 ↔ ¬ n = 0 ∧ ¬ n = 1 := by
  unfold vc
  split
  · simp [*]
  · split <;> simp [*]
theorem mvd_vrd (h : RX s τ) (hS : SM s τ) (hB : BD s) (hc : c < s 0 0 0 0) (hd : d < 4) : mvd τ c d = vrd s c d := by
  have h7 := ask_lt hB c d
  unfold mvd vrd
  rw [mtc_tch hS hB hc hd, mask_ask h hB hc hd]
  by_cases e1 : tch (s 6 c 0 3) d = false
  · rw [if_pos e1, if_pos e1]
  rw [if_neg e1, if_neg e1]
  by_cases e2 : ask s c d = 0
  · rw [if_pos e2, if_pos e2]
  rw [if_neg e2, if_neg e2, h.2.2.2.1 c hc _ (by omega)]
  unfold vby
  have h3 : s 8 c 0 (ask s c d - 1) < 3 := hB 8 c 0 _ rfl
  by_cases e3 : s 8 c 0 (ask s c d - 1) = 0
  · rw [if_pos ((vc_45 _).mpr e3), if_pos e3]
  rw [if_neg (fun q => e3 ((vc_45 _).mp q)), if_neg e3]
  by_cases e4 : s 8 c 0 (ask s c d - 1) = 2
  · rw [if_pos ((vc_98 _).mpr ⟨e3, by omega⟩), if_pos e4]
  rw [if_neg (fun q => ((vc_98 _).mp q).2 (by omega)), if_neg e4, mcv_cvA h hS hc hd (by omega) (by omega)]
theorem mms_mis (h : RX s τ) (hS : SM s τ) (hB : BD s) (hc : c < s 0 0 0 0) : mms τ c 4 = mis s c 4 := cnt_ext 4 (fun d hd => by rw [mvd_vrd h hS hB hc hd])
theorem mhl_tfz (h : RX s τ) (hS : SM s τ) (hB : BD s) (hc : c < s 0 0 0 0) : mhl τ c = tfz s c := by
  unfold mhl tfz
  congr 1
  apply Bool.eq_iff_iff.mpr
  rw [allB_iff, allB_iff]
  constructor
  · intro H q h1 h2
    have := H q h1 h2
    rw [(h.1 q (by omega)).2.2, mtc_tch hS hB hc (by omega)] at this
    exact this
  · intro H q h1 h2
    rw [(h.1 q (by omega)).2.2, mtc_tch hS hB hc (by omega)]
    exact H q h1 h2
theorem cmy_pop {A : AS} (hR : RM s τ A) (hC : RC s A) (hn : s 0 0 0 0 ≤ 16) (hc : c < s 0 0 0 0) : cmy τ c 64 = pop (s 6 c 0 4) := cnt_ext 64 (fun x hx => by
  rw [hR.2.2.1 c (by omega) x hx, ← hC.2.2.1 c (by omega) x hx]
  cases (s 6 c 0 4).testBit x <;> rfl)
end REL
