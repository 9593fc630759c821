/-! ===== the model ===== -/
abbrev th (σ : SG) (n : Nat) : SG := up σ 30 0 0 0 n
theorem up_up (σ : SG) (k i j x v w : Nat) : up (up σ k i j x v) k i j x w = up σ k i j x w := by
  funext k' i' j' x'
  simp only [up]
  split <;> rfl
theorem th_k {σ : SG} {n k i j x : Nat} (h : k ≠ 30) : th σ n k i j x = σ k i j x := up_k h
theorem th_x {σ : SG} {n i j x : Nat} (h : x ≠ 0) : th σ n 30 i j x = σ 30 i j x := up_x h
theorem th_BD {σ : SG} (h : BD σ) {n : Nat} (hn : n < 5) : BD (th σ n) := BD.put h hn
theorem dm_toInt {n : Nat} (h : n < 2 ^ 31) : (dm n).toInt = (n : Int) - 1 := by
  cases n with
  | zero => decide
  | succ n =>
    show (nI n).toInt = _
    rw [nI_toInt (by omega)]
    omega
theorem dm_sub1 {n : Nat} (h : n < 2 ^ 31) : nI n - nI 1 = dm n := by
  cases n with
  | zero => decide
  | succ n =>
    have : nI (n + 1) = nI n + nI 1 := (nI_add n 1).symm
    rw [this, Int32.add_sub_cancel]
    rfl
theorem inRb {x : Int32} {n : Nat} (hn : n < 2147483648) (h0 : ¬ (0 : Int32) > x) (h1 : ¬ x > dm n) : ∃ k, inR x n = some k ∧ x = nI k ∧ k < n := by
  have h2 : ¬ x.toInt < 0 := fun q => h0 (Int32.lt_iff_toInt_lt.mpr (by rw [i32_0]; exact q))
  have h3 : ¬ (dm n).toInt < x.toInt := fun q => h1 (Int32.lt_iff_toInt_lt.mpr q)
  rw [dm_toInt hn] at h3
  have e : inR x n = some x.toInt.toNat := if_pos ⟨by omega, by omega⟩
  obtain ⟨e1, e2⟩ := inR_some e
  exact ⟨_, e, e1, e2⟩
theorem inRn0 {x : Int32} {n : Nat} (h : (0 : Int32) > x) : inR x n = none := inR_neg h
theorem inRn1 {x : Int32} {n : Nat} (hn : n < 2147483648) (h : x > dm n) : inR x n = none := by
  have h3 := Int32.lt_iff_toInt_lt.mp h
  rw [dm_toInt hn] at h3
  unfold inR
  rw [if_neg]
  omega
/-- what a test of a number against a bound says -/
abbrev isV (x : Int32) (n : Nat) (ok : KF) (ad : AD) (σ : SG) : Option Value → MT → Prop := fun v μ => (inR x n = none ∧ v = some (iv 0) ∧ μ = (ok, ad, σ)) ∨ ∃ k, inR x n = some k ∧ x = nI k ∧ k < n ∧ v = some (iv 1) ∧ μ = (ok, ad, σ)

theorem b_of1 : (1 : Nat) < 2 := by decide
theorem b_of0 : (0 : Nat) < 2 := by decide
set_option maxHeartbeats 4000000 in
set_option maxRecDepth 100000 in
theorem c_X6_thrown {l : Launch} (hl0 : l.stackTraces = false) {G : GT} {ok : KF} {ad : AD} {σ : SG} (hQ : OKM ok) (hB : BD σ) : Ct l G 0 yX6_thrown cX6_thrown 1 (some .int) [.ref (ad 30 0 0)] ok ad σ (Rt (some (iv (σ 30 0 0 0))) ok ad σ) (NX) 0 0 := by
  refine Ct.mk (by decide +kernel) hl0 (Nat.le_of_ble_eq_true rfl) (fun X hX hC hM => ?_)
  subst hX
  refine v_aload_n hC dX6_thrown_0 rfl ?_
  refine gf_X6_1 hC dX6_thrown_1 hQ ?_
  refine v_iret hC hM dX6_thrown_4 (by omega) (by omega) ?_
  exact ⟨rfl, rfl⟩

set_option maxHeartbeats 4000000 in
set_option maxRecDepth 100000 in
theorem c_X6_fails {l : Launch} (hl0 : l.stackTraces = false) {G : GT} {ok : KF} {ad : AD} {σ : SG} (hQ : OKM ok) (k : Nat) : Ct l G 0 yX6_fails cX6_fails 2 (some .int) [.ref (ad 30 0 0), iv k] ok ad σ (Rt (some (iv 0)) ok ad (th σ k)) (NX) 0 0 := by
  refine Ct.mk (by decide +kernel) hl0 (Nat.le_of_ble_eq_true rfl) (fun X hX hC hM => ?_)
  subst hX
  refine v_aload_n hC dX6_fails_0 rfl ?_
  refine v_iload_n hC dX6_fails_1 rfl ?_
  refine pf_X6_1 hC dX6_fails_2 hQ ?_
  refine v_iconst (v := nI 0) hC dX6_fails_5 (by decide) ?_
  refine v_iret hC hM dX6_fails_6 (by omega) (by omega) ?_
  exact ⟨rfl, rfl⟩

set_option maxHeartbeats 4000000 in
set_option maxRecDepth 100000 in
theorem c_X6_isWrong {l : Launch} (hl0 : l.stackTraces = false) {G : GT} {ok : KF} {ad : AD} {σ : SG} (hQ : OKM ok) (k : Nat) : Ct l G 0 yX6_isWrong cX6_isWrong 2 (some .boolean) [.ref (ad 30 0 0), iv k] ok ad σ (Rt (some (iv 0)) ok ad (th σ k)) (NX) 0 0 := by
  refine Ct.mk (by decide +kernel) hl0 (Nat.le_of_ble_eq_true rfl) (fun X hX hC hM => ?_)
  subst hX
  refine v_aload_n hC dX6_isWrong_0 rfl ?_
  refine v_iload_n hC dX6_isWrong_1 rfl ?_
  refine pf_X6_1 hC dX6_isWrong_2 hQ ?_
  refine v_iconst (v := nI 0) hC dX6_isWrong_5 (by decide) ?_
  refine v_zret hC hM dX6_isWrong_6 (nar_z b_of0) (by omega) (by omega) ?_
  exact ⟨rfl, rfl⟩

set_option maxHeartbeats 4000000 in
set_option maxRecDepth 100000 in
theorem c_X6_isBetween {l : Launch} (hl0 : l.stackTraces = false) {G : GT} {ok : KF} {ad : AD} {σ : SG} {x : Int32} {n : Nat} (hn : n < 2147483648) : Ct l G 0 yX6_isBetween cX6_isBetween 3 (some .boolean) [.int x, iv 0, .int (dm n)] ok ad σ (isV x n ok ad σ) (NX) 0 0 := by
  refine Ct.mk (by decide +kernel) hl0 (Nat.le_of_ble_eq_true rfl) (fun X hX hC hM => ?_)
  subst hX
  refine v_iload_n hC dX6_isBetween_0 rfl ?_
  refine v_iload_n hC dX6_isBetween_1 rfl ?_
  refine v_icmp_gt (tgt := 14) hC dX6_isBetween_2 (by decide) (fun c_2 => ?_) (fun c_2 => ?_)
  · refine v_iconst (v := nI 0) hC dX6_isBetween_14 (by decide) ?_
    refine v_zret hC hM dX6_isBetween_15 (by first | exact nar_z b_of1 | exact nar_z b_of0) (by omega) (by omega) ?_
    exact .inl ⟨inRn0 c_2, rfl, rfl⟩
  · refine v_iload_n hC dX6_isBetween_5 rfl ?_
    refine v_iload_n hC dX6_isBetween_6 rfl ?_
    refine v_icmp_gt (tgt := 14) hC dX6_isBetween_7 (by decide) (fun c_7 => ?_) (fun c_7 => ?_)
    · refine v_iconst (v := nI 0) hC dX6_isBetween_14 (by decide) ?_
      refine v_zret hC hM dX6_isBetween_15 (by first | exact nar_z b_of1 | exact nar_z b_of0) (by omega) (by omega) ?_
      exact .inl ⟨inRn1 hn c_7, rfl, rfl⟩
    · refine v_iconst (v := nI 1) hC dX6_isBetween_10 (by decide) ?_
      refine v_goto (tgt := 15) hC dX6_isBetween_11 (by decide) ?_
      refine v_zret hC hM dX6_isBetween_15 (by first | exact nar_z b_of1 | exact nar_z b_of0) (by omega) (by omega) ?_
      obtain ⟨k, h1, h2, h3⟩ := inRb hn c_2 c_7
      exact .inr ⟨k, h1, h2, h3, rfl, rfl⟩

set_option maxHeartbeats 4000000 in
set_option maxRecDepth 100000 in
theorem c_X6_isPerson {l : Launch} (hl0 : l.stackTraces = false) {G : GT} {ok : KF} {ad : AD} {σ : SG} {x : Int32} : Ct l G 1 yX6_isPerson cX6_isPerson 1 (some .boolean) [.int x] ok ad σ (isV x 6 ok ad σ) (NX) 0 0 := by
  refine Ct.mk (by decide +kernel) hl0 (Nat.le_of_ble_eq_true rfl) (fun X hX hC hM => ?_)
  subst hX
  refine v_iload_n hC dX6_isPerson_0 rfl ?_
  refine v_iconst (v := nI 0) hC dX6_isPerson_1 (by decide) ?_
  refine v_iconst (v := nI 5) hC dX6_isPerson_2 (by decide) ?_
  refine v_callS hC lk_X6_7 dX6_isPerson_3 (c_X6_isBetween hl0 (x := x) (n := 6) (by decide)) (by decide) (by decide) rfl rfl (Nat.le_of_ble_eq_true rfl) (by omega) (by omega) (fun v μ h => ?_) (fun _ _ h => h.elim)
  rcases h with ⟨h1, rfl, rfl⟩ | ⟨k, h1, rfl, h2, rfl, rfl⟩
  · dsimp only
    refine v_zret hC hM dX6_isPerson_6 (by first | exact nar_z b_of1 | exact nar_z b_of0) (by omega) (by omega) ?_
    exact .inl ⟨h1, rfl, rfl⟩
  · dsimp only
    refine v_zret hC hM dX6_isPerson_6 (by first | exact nar_z b_of1 | exact nar_z b_of0) (by omega) (by omega) ?_
    exact .inr ⟨k, h1, rfl, h2, rfl, rfl⟩

set_option maxHeartbeats 4000000 in
set_option maxRecDepth 100000 in
theorem c_X6_isDirectory {l : Launch} (hl0 : l.stackTraces = false) {G : GT} {ok : KF} {ad : AD} {σ : SG} {x : Int32} : Ct l G 1 yX6_isDirectory cX6_isDirectory 1 (some .boolean) [.int x] ok ad σ (isV x 4 ok ad σ) (NX) 0 0 := by
  refine Ct.mk (by decide +kernel) hl0 (Nat.le_of_ble_eq_true rfl) (fun X hX hC hM => ?_)
  subst hX
  refine v_iload_n hC dX6_isDirectory_0 rfl ?_
  refine v_iconst (v := nI 0) hC dX6_isDirectory_1 (by decide) ?_
  refine v_iconst (v := nI 3) hC dX6_isDirectory_2 (by decide) ?_
  refine v_callS hC lk_X6_7 dX6_isDirectory_3 (c_X6_isBetween hl0 (x := x) (n := 4) (by decide)) (by decide) (by decide) rfl rfl (Nat.le_of_ble_eq_true rfl) (by omega) (by omega) (fun v μ h => ?_) (fun _ _ h => h.elim)
  rcases h with ⟨h1, rfl, rfl⟩ | ⟨k, h1, rfl, h2, rfl, rfl⟩
  · dsimp only
    refine v_zret hC hM dX6_isDirectory_6 (by first | exact nar_z b_of1 | exact nar_z b_of0) (by omega) (by omega) ?_
    exact .inl ⟨h1, rfl, rfl⟩
  · dsimp only
    refine v_zret hC hM dX6_isDirectory_6 (by first | exact nar_z b_of1 | exact nar_z b_of0) (by omega) (by omega) ?_
    exact .inr ⟨k, h1, rfl, h2, rfl, rfl⟩

/-- what a test of a file and a span says -/
abbrev spV (x y : Int32) (ok : KF) (ad : AD) (σ : SG) : Option Value → MT → Prop := fun v μ => ((inR x 16 = none ∨ inR y 4 = none) ∧ v = some (iv 0) ∧ μ = (ok, ad, σ)) ∨ ∃ a b, inR x 16 = some a ∧ inR y 4 = some b ∧ x = nI a ∧ y = nI b ∧ a < 16 ∧ b < 4 ∧ v = some (iv 1) ∧ μ = (ok, ad, σ)
set_option maxHeartbeats 4000000 in
set_option maxRecDepth 100000 in
theorem c_X6_isSpan {l : Launch} (hl0 : l.stackTraces = false) {G : GT} {ok : KF} {ad : AD} {σ : SG} {x y : Int32} : Ct l G 1 yX6_isSpan cX6_isSpan 2 (some .boolean) [.int x, .int y] ok ad σ (spV x y ok ad σ) (NX) 0 0 := by
  refine Ct.mk (by decide +kernel) hl0 (Nat.le_of_ble_eq_true rfl) (fun X hX hC hM => ?_)
  subst hX
  refine v_iload_n hC dX6_isSpan_0 rfl ?_
  refine v_iconst (v := nI 0) hC dX6_isSpan_1 (by decide) ?_
  refine v_bipush (v := nI 15) hC dX6_isSpan_2 (by decide) ?_
  refine v_callS hC lk_X6_7 dX6_isSpan_4 (c_X6_isBetween hl0 (x := x) (n := 16) (by decide)) (by decide) (by decide) rfl rfl (Nat.le_of_ble_eq_true rfl) (by omega) (by omega) (fun v μ h => ?_) (fun _ _ h => h.elim)
  rcases h with ⟨h_a, rfl, rfl⟩ | ⟨a, h_a, rfl, b_a, rfl, rfl⟩
  · dsimp only
    refine v_if_eqN (tgt := 23) hC dX6_isSpan_7 (by decide) (by decide) (fun c_7 => ?_) (fun c_7 => absurd c_7 (by decide))
    refine v_iconst (v := nI 0) hC dX6_isSpan_23 (by decide) ?_
    refine v_zret hC hM dX6_isSpan_24 (by first | exact nar_z b_of1 | exact nar_z b_of0) (by omega) (by omega) ?_
    exact .inl ⟨.inl h_a, rfl, rfl⟩
  · dsimp only
    refine v_if_eqN (tgt := 23) hC dX6_isSpan_7 (by decide) (by decide) (fun c_7 => absurd c_7 (by decide)) (fun c_7 => ?_)
    refine v_iload_n hC dX6_isSpan_10 rfl ?_
    refine v_iconst (v := nI 0) hC dX6_isSpan_11 (by decide) ?_
    refine v_iconst (v := nI 3) hC dX6_isSpan_12 (by decide) ?_
    refine v_callS hC lk_X6_7 dX6_isSpan_13 (c_X6_isBetween hl0 (x := y) (n := 4) (by decide)) (by decide) (by decide) rfl rfl (Nat.le_of_ble_eq_true rfl) (by omega) (by omega) (fun v μ h => ?_) (fun _ _ h => h.elim)
    rcases h with ⟨h_b, rfl, rfl⟩ | ⟨b, h_b, rfl, b_b, rfl, rfl⟩
    · dsimp only
      refine v_if_eqN (tgt := 23) hC dX6_isSpan_16 (by decide) (by decide) (fun c_16 => ?_) (fun c_16 => absurd c_16 (by decide))
      refine v_iconst (v := nI 0) hC dX6_isSpan_23 (by decide) ?_
      refine v_zret hC hM dX6_isSpan_24 (by first | exact nar_z b_of1 | exact nar_z b_of0) (by omega) (by omega) ?_
      exact .inl ⟨.inr h_b, rfl, rfl⟩
    · dsimp only
      refine v_if_eqN (tgt := 23) hC dX6_isSpan_16 (by decide) (by decide) (fun c_16 => absurd c_16 (by decide)) (fun c_16 => ?_)
      refine v_iconst (v := nI 1) hC dX6_isSpan_19 (by decide) ?_
      refine v_goto (tgt := 24) hC dX6_isSpan_20 (by decide) ?_
      refine v_zret hC hM dX6_isSpan_24 (by first | exact nar_z b_of1 | exact nar_z b_of0) (by omega) (by omega) ?_
      exact .inr ⟨a, b, h_a, h_b, rfl, rfl, b_a, b_b, rfl, rfl⟩

set_option maxHeartbeats 4000000 in
set_option maxRecDepth 100000 in
theorem c_X6_isChange {l : Launch} (hl0 : l.stackTraces = false) {G : GT} {ok : KF} {ad : AD} {σ : SG} (hQ : OKM ok) (hB : BD σ) {x : Int32} : Ct l G 1 yX6_isChange cX6_isChange 2 (some .boolean) [.ref (ad 30 0 0), .int x] ok ad σ (isV x (σ 30 0 0 2) ok ad σ) (NX) 0 0 := by
  refine Ct.mk (by decide +kernel) hl0 (Nat.le_of_ble_eq_true rfl) (fun X hX hC hM => ?_)
  subst hX
  have hn17 : σ 30 0 0 2 < 17 := hB 30 0 0 2 rfl
  have hn : σ 30 0 0 2 < 2147483648 := by omega
  refine v_iload_n hC dX6_isChange_0 rfl ?_
  refine v_iconst (v := nI 0) hC dX6_isChange_1 (by decide) ?_
  refine v_aload_n hC dX6_isChange_2 rfl ?_
  refine gf_X6_89 hC dX6_isChange_3 hQ ?_
  refine v_iconst (v := nI 1) hC dX6_isChange_6 (by decide) ?_
  refine v_isub hC dX6_isChange_7 ?_
  rw [dm_sub1 (hn)]
  refine v_callS hC lk_X6_7 dX6_isChange_8 (c_X6_isBetween hl0 (x := x) (n := σ 30 0 0 2) hn) (by decide) (by decide) rfl rfl (Nat.le_of_ble_eq_true rfl) (by omega) (by omega) (fun v μ h => ?_) (fun _ _ h => h.elim)
  rcases h with ⟨h1, rfl, rfl⟩ | ⟨k, h1, rfl, h2, rfl, rfl⟩
  · dsimp only
    refine v_zret hC hM dX6_isChange_11 (by first | exact nar_z b_of1 | exact nar_z b_of0) (by omega) (by omega) ?_
    exact .inl ⟨h1, rfl, rfl⟩
  · dsimp only
    refine v_zret hC hM dX6_isChange_11 (by first | exact nar_z b_of1 | exact nar_z b_of0) (by omega) (by omega) ?_
    exact .inr ⟨k, h1, rfl, h2, rfl, rfl⟩

set_option maxHeartbeats 4000000 in
set_option maxRecDepth 100000 in
theorem c_X6_directoryOf {l : Launch} (hl0 : l.stackTraces = false) {G : GT} {ok : KF} {ad : AD} {σ : SG} {p : Nat} (hp : p < 64) : Ct l G 0 yX6_directoryOf cX6_directoryOf 1 (some .int) [iv p] ok ad σ (Rt (some (iv (p / 16))) ok ad σ) (NX) 0 0 := by
  refine Ct.mk (by decide +kernel) hl0 (Nat.le_of_ble_eq_true rfl) (fun X hX hC hM => ?_)
  subst hX
  refine v_iload_n hC dX6_directoryOf_0 rfl ?_
  refine v_bipush (v := nI 16) hC dX6_directoryOf_1 (by decide) ?_
  refine v_idivN hC dX6_directoryOf_3 (by first | omega | decide) (by decide) (by decide) ?_
  refine v_iret hC hM dX6_directoryOf_4 (by omega) (by omega) ?_
  exact ⟨rfl, rfl⟩

def emy (σ : SG) (c n : Nat) : Nat := cnt (fun p => decide (σ 41 c 0 p ≠ 0)) n
def cmy (σ : SG) (c n : Nat) : Nat := cnt (fun p => decide (σ 43 c 0 p ≠ 0)) n
set_option maxHeartbeats 4000000 in
set_option maxRecDepth 100000 in
theorem c_X6_editMany {l : Launch} (hl0 : l.stackTraces = false) {G : GT} {ok : KF} {ad : AD} {σ : SG} (hQ : OKM ok) (hB : BD σ) {c : Nat} (hc : c < 16) : Ct l G 0 yX6_editMany cX6_editMany 4 (some .int) [.ref (ad 30 0 0), iv c] ok ad σ (Rt (some (iv (emy σ c 64))) ok ad σ) (NX) 0 0 := by
  refine Ct.mk (by decide +kernel) hl0 (Nat.le_of_ble_eq_true rfl) (fun X hX hC hM => ?_)
  subst hX
  refine v_iconst (v := nI 0) hC dX6_editMany_0 (by decide) ?_
  refine v_istore_n hC dX6_editMany_1 (by decide) ?_
  refine v_iconst (v := nI 0) hC dX6_editMany_2 (by decide) ?_
  refine v_istore_n hC dX6_editMany_3 (by decide) ?_
  have key : ∀ p, p ≤ 64 → V X G 0 0 ok ad σ [(0, .ref (ad 30 0 0)), (1, iv c), (2, iv (emy σ c p)), (3, iv p)] 4 [] := by
    refine down (64) ?_ ?_
    · refine v_iload_n hC dX6_editMany_4 rfl ?_
      refine v_bipush (v := nI 64) hC dX6_editMany_5 (by decide) ?_
      refine v_icmp_geN (tgt := 35) hC dX6_editMany_7 (by decide) (by first | omega | exact hB _ _ _ _ rfl | exact hB.i _ _ _ _ rfl | assumption | exact b2n_31 _) (by first | omega | exact hB _ _ _ _ rfl | exact hB.i _ _ _ _ rfl | assumption | exact b2n_31 _) (fun c_7 => ?_) (fun c_7 => ?_)
      · refine v_iload_n hC dX6_editMany_35 rfl ?_
        refine v_iret hC hM dX6_editMany_36 (by omega) (by omega) ?_
        exact ⟨rfl, rfl⟩
      · exact absurd c_7 (by omega)
    · intro p hp ih 
      refine v_iload_n hC dX6_editMany_4 rfl ?_
      refine v_bipush (v := nI 64) hC dX6_editMany_5 (by decide) ?_
      refine v_icmp_geN (tgt := 35) hC dX6_editMany_7 (by decide) (by first | omega | exact hB _ _ _ _ rfl | exact hB.i _ _ _ _ rfl | assumption | exact b2n_31 _) (by first | omega | exact hB _ _ _ _ rfl | exact hB.i _ _ _ _ rfl | assumption | exact b2n_31 _) (fun c_7 => ?_) (fun c_7 => ?_)
      · exact absurd c_7 (by omega)
      · refine v_iload_n hC dX6_editMany_10 rfl ?_
        refine v_aload_n hC dX6_editMany_11 rfl ?_
        refine gf_X6_48 hC dX6_editMany_12 hQ ?_
        refine v_iload_n hC dX6_editMany_15 rfl ?_
        refine al_40 hC dX6_editMany_16 hQ (by first | omega | exact hB _ _ _ _ rfl | exact hB.i _ _ _ _ rfl | assumption | exact b2n_31 _) ?_
        refine v_iload_n hC dX6_editMany_17 rfl ?_
        refine al_41 hC dX6_editMany_18 hQ (by first | omega | exact hB _ _ _ _ rfl | exact hB.i _ _ _ _ rfl | assumption | exact b2n_31 _) (by first | omega | exact hB _ _ _ _ rfl | exact hB.i _ _ _ _ rfl | assumption | exact b2n_31 _) ?_
        refine v_if_geM (tgt := 26) hC dX6_editMany_19 (by decide) (by first | omega | exact hB _ _ _ _ rfl | exact hB.i _ _ _ _ rfl | assumption | exact b2n_31 _) (fun c_19 => ?_) (fun c_19 => ?_)
        · refine v_iconst (v := nI 1) hC dX6_editMany_26 (by decide) ?_
          refine v_iaddN hC dX6_editMany_27 ?_
          refine v_istore_n hC dX6_editMany_28 (by decide) ?_
          refine v_iincN hC dX6_editMany_29 rfl (by decide) ?_
          refine v_goto (tgt := 4) hC dX6_editMany_32 (by decide) ?_
          rw [show emy σ c (p + 1) = emy σ c p + 1 from by show emy σ c p + b2n (decide _) = _; rw [decide_eq_true c_19] <;> rfl] at ih
          exact v_sub rfl ih
        · refine v_iconst (v := nI 0) hC dX6_editMany_22 (by decide) ?_
          refine v_goto (tgt := 27) hC dX6_editMany_23 (by decide) ?_
          refine v_iaddN hC dX6_editMany_27 ?_
          refine v_istore_n hC dX6_editMany_28 (by decide) ?_
          refine v_iincN hC dX6_editMany_29 rfl (by decide) ?_
          refine v_goto (tgt := 4) hC dX6_editMany_32 (by decide) ?_
          rw [show emy σ c (p + 1) = emy σ c p + 0 from by show emy σ c p + b2n (decide _) = _; rw [decide_eq_false (fun q => q c_19)] <;> rfl] at ih
          exact v_sub rfl ih
  exact v_sub rfl (key 0 (Nat.zero_le _))

set_option maxHeartbeats 4000000 in
set_option maxRecDepth 100000 in
theorem c_X6_clashMany {l : Launch} (hl0 : l.stackTraces = false) {G : GT} {ok : KF} {ad : AD} {σ : SG} (hQ : OKM ok) (hB : BD σ) {c : Nat} (hc : c < 16) : Ct l G 0 yX6_clashMany cX6_clashMany 4 (some .int) [.ref (ad 30 0 0), iv c] ok ad σ (Rt (some (iv (cmy σ c 64))) ok ad σ) (NX) 0 0 := by
  refine Ct.mk (by decide +kernel) hl0 (Nat.le_of_ble_eq_true rfl) (fun X hX hC hM => ?_)
  subst hX
  refine v_iconst (v := nI 0) hC dX6_clashMany_0 (by decide) ?_
  refine v_istore_n hC dX6_clashMany_1 (by decide) ?_
  refine v_iconst (v := nI 0) hC dX6_clashMany_2 (by decide) ?_
  refine v_istore_n hC dX6_clashMany_3 (by decide) ?_
  have key : ∀ p, p ≤ 64 → V X G 0 0 ok ad σ [(0, .ref (ad 30 0 0)), (1, iv c), (2, iv (cmy σ c p)), (3, iv p)] 4 [] := by
    refine down (64) ?_ ?_
    · refine v_iload_n hC dX6_clashMany_4 rfl ?_
      refine v_bipush (v := nI 64) hC dX6_clashMany_5 (by decide) ?_
      refine v_icmp_geN (tgt := 35) hC dX6_clashMany_7 (by decide) (by first | omega | exact hB _ _ _ _ rfl | exact hB.i _ _ _ _ rfl | assumption | exact b2n_31 _) (by first | omega | exact hB _ _ _ _ rfl | exact hB.i _ _ _ _ rfl | assumption | exact b2n_31 _) (fun c_7 => ?_) (fun c_7 => ?_)
      · refine v_iload_n hC dX6_clashMany_35 rfl ?_
        refine v_iret hC hM dX6_clashMany_36 (by omega) (by omega) ?_
        exact ⟨rfl, rfl⟩
      · exact absurd c_7 (by omega)
    · intro p hp ih 
      refine v_iload_n hC dX6_clashMany_4 rfl ?_
      refine v_bipush (v := nI 64) hC dX6_clashMany_5 (by decide) ?_
      refine v_icmp_geN (tgt := 35) hC dX6_clashMany_7 (by decide) (by first | omega | exact hB _ _ _ _ rfl | exact hB.i _ _ _ _ rfl | assumption | exact b2n_31 _) (by first | omega | exact hB _ _ _ _ rfl | exact hB.i _ _ _ _ rfl | assumption | exact b2n_31 _) (fun c_7 => ?_) (fun c_7 => ?_)
      · exact absurd c_7 (by omega)
      · refine v_iload_n hC dX6_clashMany_10 rfl ?_
        refine v_aload_n hC dX6_clashMany_11 rfl ?_
        refine gf_X6_53 hC dX6_clashMany_12 hQ ?_
        refine v_iload_n hC dX6_clashMany_15 rfl ?_
        refine al_42 hC dX6_clashMany_16 hQ (by first | omega | exact hB _ _ _ _ rfl | exact hB.i _ _ _ _ rfl | assumption | exact b2n_31 _) ?_
        refine v_iload_n hC dX6_clashMany_17 rfl ?_
        refine al_43 hC dX6_clashMany_18 hQ (by first | omega | exact hB _ _ _ _ rfl | exact hB.i _ _ _ _ rfl | assumption | exact b2n_31 _) (by first | omega | exact hB _ _ _ _ rfl | exact hB.i _ _ _ _ rfl | assumption | exact b2n_31 _) ?_
        refine v_if_eqN (tgt := 26) hC dX6_clashMany_19 (by decide) (by first | omega | exact hB _ _ _ _ rfl | exact hB.i _ _ _ _ rfl | assumption | exact b2n_31 _) (fun c_19 => ?_) (fun c_19 => ?_)
        · refine v_iconst (v := nI 0) hC dX6_clashMany_26 (by decide) ?_
          refine v_iaddN hC dX6_clashMany_27 ?_
          refine v_istore_n hC dX6_clashMany_28 (by decide) ?_
          refine v_iincN hC dX6_clashMany_29 rfl (by decide) ?_
          refine v_goto (tgt := 4) hC dX6_clashMany_32 (by decide) ?_
          rw [show cmy σ c (p + 1) = cmy σ c p + 0 from by show cmy σ c p + b2n (decide _) = _; rw [decide_eq_false (fun q => q c_19)] <;> rfl] at ih
          exact v_sub rfl ih
        · refine v_iconst (v := nI 1) hC dX6_clashMany_22 (by decide) ?_
          refine v_goto (tgt := 27) hC dX6_clashMany_23 (by decide) ?_
          refine v_iaddN hC dX6_clashMany_27 ?_
          refine v_istore_n hC dX6_clashMany_28 (by decide) ?_
          refine v_iincN hC dX6_clashMany_29 rfl (by decide) ?_
          refine v_goto (tgt := 4) hC dX6_clashMany_32 (by decide) ?_
          rw [show cmy σ c (p + 1) = cmy σ c p + 1 from by show cmy σ c p + b2n (decide _) = _; rw [decide_eq_true c_19] <;> rfl] at ih
          exact v_sub rfl ih
  exact v_sub rfl (key 0 (Nat.zero_le _))

theorem emy_le (σ : SG) (c n : Nat) : emy σ c n ≤ n := cnt_le _ _
theorem cmy_le (σ : SG) (c n : Nat) : cmy σ c n ≤ n := cnt_le _ _
/-- who is asked: 0 for nobody, else the person and one -/
def mask (σ : SG) (c d : Nat) : Nat := if σ 39 0 0 (σ 36 0 0 d) = 0 ∧ σ 36 0 0 d ≠ σ 49 0 0 c then σ 36 0 0 d + 1 else if σ 37 0 0 d = σ 49 0 0 c then 0 else σ 37 0 0 d + 1
theorem mask_lt {σ : SG} (h : BD σ) (c d : Nat) : mask σ c d < 7 := by
  have h1 : σ 36 0 0 d < 6 := h 36 0 0 d rfl
  have h2 : σ 37 0 0 d < 6 := h 37 0 0 d rfl
  unfold mask
  split
  · omega
  · split <;> omega

set_option maxHeartbeats 4000000 in
set_option maxRecDepth 100000 in
theorem c_X6_ask {l : Launch} (hl0 : l.stackTraces = false) {G : GT} {ok : KF} {ad : AD} {σ : SG} (hQ : OKM ok) (hB : BD σ) {c : Nat} (hc : c < 16) {d : Nat} (hd : d < 4) : Ct l G 0 yX6_ask cX6_ask 4 (some .int) [.ref (ad 30 0 0), iv c, iv d] ok ad σ (Rt (some (.int (dm (mask σ c d)))) ok ad σ) (NX) 0 0 := by
  refine Ct.mk (by decide +kernel) hl0 (Nat.le_of_ble_eq_true rfl) (fun X hX hC hM => ?_)
  subst hX
  refine v_aload_n hC dX6_ask_0 rfl ?_
  refine gf_X6_34 hC dX6_ask_1 hQ ?_
  refine v_iload_n hC dX6_ask_4 rfl ?_
  refine al_36 hC dX6_ask_5 hQ (by first | omega | exact hB _ _ _ _ rfl | exact hB.i _ _ _ _ rfl | assumption | exact b2n_31 _) ?_
  refine v_istore_n hC dX6_ask_6 (by decide) ?_
  refine v_aload_n hC dX6_ask_7 rfl ?_
  refine gf_X6_43 hC dX6_ask_8 hQ ?_
  refine v_iload_n hC dX6_ask_11 rfl ?_
  refine al_39 hC dX6_ask_12 hQ (by first | omega | exact hB _ _ _ _ rfl | exact hB.i _ _ _ _ rfl | assumption | exact b2n_31 _) ?_
  refine v_if_neN (tgt := 28) hC dX6_ask_13 (by decide) (by first | omega | exact hB _ _ _ _ rfl | exact hB.i _ _ _ _ rfl | assumption | exact b2n_31 _) (fun c_13 => ?_) (fun c_13 => ?_)
  · refine v_aload_n hC dX6_ask_28 rfl ?_
    refine gf_X6_37 hC dX6_ask_29 hQ ?_
    refine v_iload_n hC dX6_ask_32 rfl ?_
    refine al_37 hC dX6_ask_33 hQ (by first | omega | exact hB _ _ _ _ rfl | exact hB.i _ _ _ _ rfl | assumption | exact b2n_31 _) ?_
    refine v_aload_n hC dX6_ask_34 rfl ?_
    refine gf_X6_66 hC dX6_ask_35 hQ ?_
    refine v_iload_n hC dX6_ask_38 rfl ?_
    refine al_49 hC dX6_ask_39 hQ (by first | omega | exact hB _ _ _ _ rfl | exact hB.i _ _ _ _ rfl | assumption | exact b2n_31 _) ?_
    refine v_icmp_neN (tgt := 47) hC dX6_ask_40 (by decide) (by first | omega | exact hB _ _ _ _ rfl | exact hB.i _ _ _ _ rfl | assumption | exact b2n_31 _) (by first | omega | exact hB _ _ _ _ rfl | exact hB.i _ _ _ _ rfl | assumption | exact b2n_31 _) (fun c_40 => ?_) (fun c_40 => ?_)
    · refine v_aload_n hC dX6_ask_47 rfl ?_
      refine gf_X6_37 hC dX6_ask_48 hQ ?_
      refine v_iload_n hC dX6_ask_51 rfl ?_
      refine al_37 hC dX6_ask_52 hQ (by first | omega | exact hB _ _ _ _ rfl | exact hB.i _ _ _ _ rfl | assumption | exact b2n_31 _) ?_
      refine v_iret hC hM dX6_ask_53 (by omega) (by omega) ?_
      exact ⟨by rw [show mask σ c d = σ 37 0 0 d + 1 from (if_neg (fun q => c_13 q.1)).trans (if_neg c_40)] <;> rfl, rfl⟩
    · refine v_iconst (v := dm 0) hC dX6_ask_43 (by decide) ?_
      refine v_goto (tgt := 53) hC dX6_ask_44 (by decide) ?_
      refine v_iret hC hM dX6_ask_53 (by omega) (by omega) ?_
      exact ⟨by rw [show mask σ c d = 0 from (if_neg (fun q => c_13 q.1)).trans (if_pos c_40)] <;> rfl, rfl⟩
  · refine v_iload_n hC dX6_ask_16 rfl ?_
    refine v_aload_n hC dX6_ask_17 rfl ?_
    refine gf_X6_66 hC dX6_ask_18 hQ ?_
    refine v_iload_n hC dX6_ask_21 rfl ?_
    refine al_49 hC dX6_ask_22 hQ (by first | omega | exact hB _ _ _ _ rfl | exact hB.i _ _ _ _ rfl | assumption | exact b2n_31 _) ?_
    refine v_icmp_eqN (tgt := 28) hC dX6_ask_23 (by decide) (by first | omega | exact hB _ _ _ _ rfl | exact hB.i _ _ _ _ rfl | assumption | exact b2n_31 _) (by first | omega | exact hB _ _ _ _ rfl | exact hB.i _ _ _ _ rfl | assumption | exact b2n_31 _) (fun c_23 => ?_) (fun c_23 => ?_)
    · refine v_aload_n hC dX6_ask_28 rfl ?_
      refine gf_X6_37 hC dX6_ask_29 hQ ?_
      refine v_iload_n hC dX6_ask_32 rfl ?_
      refine al_37 hC dX6_ask_33 hQ (by first | omega | exact hB _ _ _ _ rfl | exact hB.i _ _ _ _ rfl | assumption | exact b2n_31 _) ?_
      refine v_aload_n hC dX6_ask_34 rfl ?_
      refine gf_X6_66 hC dX6_ask_35 hQ ?_
      refine v_iload_n hC dX6_ask_38 rfl ?_
      refine al_49 hC dX6_ask_39 hQ (by first | omega | exact hB _ _ _ _ rfl | exact hB.i _ _ _ _ rfl | assumption | exact b2n_31 _) ?_
      refine v_icmp_neN (tgt := 47) hC dX6_ask_40 (by decide) (by first | omega | exact hB _ _ _ _ rfl | exact hB.i _ _ _ _ rfl | assumption | exact b2n_31 _) (by first | omega | exact hB _ _ _ _ rfl | exact hB.i _ _ _ _ rfl | assumption | exact b2n_31 _) (fun c_40 => ?_) (fun c_40 => ?_)
      · refine v_aload_n hC dX6_ask_47 rfl ?_
        refine gf_X6_37 hC dX6_ask_48 hQ ?_
        refine v_iload_n hC dX6_ask_51 rfl ?_
        refine al_37 hC dX6_ask_52 hQ (by first | omega | exact hB _ _ _ _ rfl | exact hB.i _ _ _ _ rfl | assumption | exact b2n_31 _) ?_
        refine v_iret hC hM dX6_ask_53 (by omega) (by omega) ?_
        exact ⟨by rw [show mask σ c d = σ 37 0 0 d + 1 from (if_neg (fun q => q.2 c_23)).trans (if_neg c_40)] <;> rfl, rfl⟩
      · refine v_iconst (v := dm 0) hC dX6_ask_43 (by decide) ?_
        refine v_goto (tgt := 53) hC dX6_ask_44 (by decide) ?_
        refine v_iret hC hM dX6_ask_53 (by omega) (by omega) ?_
        exact ⟨by rw [show mask σ c d = 0 from (if_neg (fun q => q.2 c_23)).trans (if_pos c_40)] <;> rfl, rfl⟩
    · refine v_iload_n hC dX6_ask_26 rfl ?_
      refine v_iret hC hM dX6_ask_27 (by omega) (by omega) ?_
      exact ⟨by rw [show mask σ c d = σ 36 0 0 d + 1 from if_pos ⟨c_13, c_23⟩] <;> rfl, rfl⟩

def mtc (σ : SG) (c d : Nat) : Bool := !allB (fun p => !(decide (σ 41 c 0 p ≠ 0) && decide (p / 16 = d))) 0 64
set_option maxHeartbeats 4000000 in
set_option maxRecDepth 100000 in
theorem c_X6_touches {l : Launch} (hl0 : l.stackTraces = false) {G : GT} {ok : KF} {ad : AD} {σ : SG} (hQ : OKM ok) (hB : BD σ) {c : Nat} (hc : c < 16) {d : Nat} (hd : d < 4) : Ct l G 1 yX6_touches cX6_touches 4 (some .boolean) [.ref (ad 30 0 0), iv c, iv d] ok ad σ (Rt (some (iv (b2n (mtc σ c d)))) ok ad σ) (NX) 0 0 := by
  refine Ct.mk (by decide +kernel) hl0 (Nat.le_of_ble_eq_true rfl) (fun X hX hC hM => ?_)
  subst hX
  refine v_iconst (v := nI 0) hC dX6_touches_0 (by decide) ?_
  refine v_istore_n hC dX6_touches_1 (by decide) ?_
  have key : ∀ p, p ≤ 64 → (∀ q, q < p → (!(decide (σ 41 c 0 q ≠ 0) && decide (q / 16 = d))) = true) → V X G 0 0 ok ad σ [(0, .ref (ad 30 0 0)), (1, iv c), (2, iv d), (3, iv p)] 2 [] := by
    refine down (64) ?_ ?_
    · intro hq
      refine v_iload_n hC dX6_touches_2 rfl ?_
      refine v_bipush (v := nI 64) hC dX6_touches_3 (by decide) ?_
      refine v_icmp_geN (tgt := 35) hC dX6_touches_5 (by decide) (by first | omega | exact hB _ _ _ _ rfl | exact hB.i _ _ _ _ rfl | assumption | exact b2n_31 _) (by first | omega | exact hB _ _ _ _ rfl | exact hB.i _ _ _ _ rfl | assumption | exact b2n_31 _) (fun c_5 => ?_) (fun c_5 => ?_)
      · refine v_iconst (v := nI 0) hC dX6_touches_35 (by decide) ?_
        refine v_zret hC hM dX6_touches_36 (by first | exact nar_z b_of1 | exact nar_z b_of0) (by omega) (by omega) ?_
        exact ⟨by rw [show mtc σ c d = false from by unfold mtc; rw [(allB_iff _ 0 64).mpr (fun q _ h => hq q (by omega))]; rfl] <;> rfl, rfl⟩
      · exact absurd c_5 (by omega)
    · intro p hp ih hq
      refine v_iload_n hC dX6_touches_2 rfl ?_
      refine v_bipush (v := nI 64) hC dX6_touches_3 (by decide) ?_
      refine v_icmp_geN (tgt := 35) hC dX6_touches_5 (by decide) (by first | omega | exact hB _ _ _ _ rfl | exact hB.i _ _ _ _ rfl | assumption | exact b2n_31 _) (by first | omega | exact hB _ _ _ _ rfl | exact hB.i _ _ _ _ rfl | assumption | exact b2n_31 _) (fun c_5 => ?_) (fun c_5 => ?_)
      · exact absurd c_5 (by omega)
      · refine v_aload_n hC dX6_touches_8 rfl ?_
        refine gf_X6_48 hC dX6_touches_9 hQ ?_
        refine v_iload_n hC dX6_touches_12 rfl ?_
        refine al_40 hC dX6_touches_13 hQ (by first | omega | exact hB _ _ _ _ rfl | exact hB.i _ _ _ _ rfl | assumption | exact b2n_31 _) ?_
        refine v_iload_n hC dX6_touches_14 rfl ?_
        refine al_41 hC dX6_touches_15 hQ (by first | omega | exact hB _ _ _ _ rfl | exact hB.i _ _ _ _ rfl | assumption | exact b2n_31 _) (by first | omega | exact hB _ _ _ _ rfl | exact hB.i _ _ _ _ rfl | assumption | exact b2n_31 _) ?_
        refine v_if_ltM (tgt := 29) hC dX6_touches_16 (by decide) (by first | omega | exact hB _ _ _ _ rfl | exact hB.i _ _ _ _ rfl | assumption | exact b2n_31 _) (fun c_16 => ?_) (fun c_16 => ?_)
        · refine v_iincN hC dX6_touches_29 rfl (by decide) ?_
          refine v_goto (tgt := 2) hC dX6_touches_32 (by decide) ?_
          refine v_sub rfl (ih (fun q h2 => ?_))
          by_cases e : q = p
          · subst e
            simp [c_16]
          · exact hq q (by omega)
        · refine v_iload_n hC dX6_touches_19 rfl ?_
          refine v_callS_r0 hC lk_X6_120 dX6_touches_20 (c_X6_directoryOf hl0 (by first | omega | exact hB _ _ _ _ rfl | exact hB.i _ _ _ _ rfl | assumption | exact b2n_31 _)) (by decide) (by decide) rfl rfl (Nat.le_of_ble_eq_true rfl) (by omega) (by omega) ?_
          refine v_iload_n hC dX6_touches_23 rfl ?_
          refine v_icmp_neN (tgt := 29) hC dX6_touches_24 (by decide) (by first | omega | exact hB _ _ _ _ rfl | exact hB.i _ _ _ _ rfl | assumption | exact b2n_31 _) (by first | omega | exact hB _ _ _ _ rfl | exact hB.i _ _ _ _ rfl | assumption | exact b2n_31 _) (fun c_24 => ?_) (fun c_24 => ?_)
          · refine v_iincN hC dX6_touches_29 rfl (by decide) ?_
            refine v_goto (tgt := 2) hC dX6_touches_32 (by decide) ?_
            refine v_sub rfl (ih (fun q h2 => ?_))
            by_cases e : q = p
            · subst e
              simp [c_24]
            · exact hq q (by omega)
          · refine v_iconst (v := nI 1) hC dX6_touches_27 (by decide) ?_
            refine v_zret hC hM dX6_touches_28 (by first | exact nar_z b_of1 | exact nar_z b_of0) (by omega) (by omega) ?_
            exact ⟨by rw [show mtc σ c d = true from by unfold mtc; rw [allB_no (q := p) (Nat.zero_le _) (by omega) (by simp [c_16, c_24])]; rfl] <;> rfl, rfl⟩
  exact v_sub rfl (key 0 (Nat.zero_le _) (fun q h => absurd h (by omega)))

def mcv (σ : SG) (c d p : Nat) : Bool := allB (fun s => !(decide (s / 16 = d) && decide (σ 41 c 0 s ≠ 0)) || decide (σ 48 c p s = σ 41 c 0 s)) 0 64
set_option maxHeartbeats 4000000 in
set_option maxRecDepth 100000 in
theorem c_X6_isCovered {l : Launch} (hl0 : l.stackTraces = false) {G : GT} {ok : KF} {ad : AD} {σ : SG} (hQ : OKM ok) (hB : BD σ) {c : Nat} (hc : c < 16) {d p : Nat} (hd : d < 4) (hp : p < 6) : Ct l G 1 yX6_isCovered cX6_isCovered 5 (some .boolean) [.ref (ad 30 0 0), iv c, iv d, iv p] ok ad σ (Rt (some (iv (b2n (mcv σ c d p)))) ok ad σ) (NX) 0 0 := by
  refine Ct.mk (by decide +kernel) hl0 (Nat.le_of_ble_eq_true rfl) (fun X hX hC hM => ?_)
  subst hX
  refine v_iconst (v := nI 0) hC dX6_isCovered_0 (by decide) ?_
  refine v_istore hC dX6_isCovered_1 (by decide) ?_
  have key : ∀ s, s ≤ 64 → (∀ q, q < s → (!(decide (q / 16 = d) && decide (σ 41 c 0 q ≠ 0)) || decide (σ 48 c p q = σ 41 c 0 q)) = true) → V X G 0 0 ok ad σ [(0, .ref (ad 30 0 0)), (1, iv c), (2, iv d), (3, iv p), (4, iv s)] 3 [] := by
    refine down (64) ?_ ?_
    · intro hq
      refine v_iload hC dX6_isCovered_3 rfl ?_
      refine v_bipush (v := nI 64) hC dX6_isCovered_5 (by decide) ?_
      refine v_icmp_geN (tgt := 62) hC dX6_isCovered_7 (by decide) (by first | omega | exact hB _ _ _ _ rfl | exact hB.i _ _ _ _ rfl | assumption | exact b2n_31 _) (by first | omega | exact hB _ _ _ _ rfl | exact hB.i _ _ _ _ rfl | assumption | exact b2n_31 _) (fun c_7 => ?_) (fun c_7 => ?_)
      · refine v_iconst (v := nI 1) hC dX6_isCovered_62 (by decide) ?_
        refine v_zret hC hM dX6_isCovered_63 (by first | exact nar_z b_of1 | exact nar_z b_of0) (by omega) (by omega) ?_
        exact ⟨by rw [show mcv σ c d p = true from (allB_iff _ 0 64).mpr (fun q _ h => hq q (by omega))] <;> rfl, rfl⟩
      · exact absurd c_7 (by omega)
    · intro s hp ih hq
      refine v_iload hC dX6_isCovered_3 rfl ?_
      refine v_bipush (v := nI 64) hC dX6_isCovered_5 (by decide) ?_
      refine v_icmp_geN (tgt := 62) hC dX6_isCovered_7 (by decide) (by first | omega | exact hB _ _ _ _ rfl | exact hB.i _ _ _ _ rfl | assumption | exact b2n_31 _) (by first | omega | exact hB _ _ _ _ rfl | exact hB.i _ _ _ _ rfl | assumption | exact b2n_31 _) (fun c_7 => ?_) (fun c_7 => ?_)
      · exact absurd c_7 (by omega)
      · refine v_iload hC dX6_isCovered_10 rfl ?_
        refine v_callS_r0 hC lk_X6_120 dX6_isCovered_12 (c_X6_directoryOf hl0 (by first | omega | exact hB _ _ _ _ rfl | exact hB.i _ _ _ _ rfl | assumption | exact b2n_31 _)) (by decide) (by decide) rfl rfl (Nat.le_of_ble_eq_true rfl) (by omega) (by omega) ?_
        refine v_iload_n hC dX6_isCovered_15 rfl ?_
        refine v_icmp_neN (tgt := 56) hC dX6_isCovered_16 (by decide) (by first | omega | exact hB _ _ _ _ rfl | exact hB.i _ _ _ _ rfl | assumption | exact b2n_31 _) (by first | omega | exact hB _ _ _ _ rfl | exact hB.i _ _ _ _ rfl | assumption | exact b2n_31 _) (fun c_16 => ?_) (fun c_16 => ?_)
        · refine v_iincN hC dX6_isCovered_56 rfl (by decide) ?_
          refine v_goto (tgt := 3) hC dX6_isCovered_59 (by decide) ?_
          refine v_sub rfl (ih (fun q h2 => ?_))
          by_cases e : q = s
          · subst e
            simp [c_16]
          · exact hq q (by omega)
        · refine v_aload_n hC dX6_isCovered_19 rfl ?_
          refine gf_X6_48 hC dX6_isCovered_20 hQ ?_
          refine v_iload_n hC dX6_isCovered_23 rfl ?_
          refine al_40 hC dX6_isCovered_24 hQ (by first | omega | exact hB _ _ _ _ rfl | exact hB.i _ _ _ _ rfl | assumption | exact b2n_31 _) ?_
          refine v_iload hC dX6_isCovered_25 rfl ?_
          refine al_41 hC dX6_isCovered_27 hQ (by first | omega | exact hB _ _ _ _ rfl | exact hB.i _ _ _ _ rfl | assumption | exact b2n_31 _) (by first | omega | exact hB _ _ _ _ rfl | exact hB.i _ _ _ _ rfl | assumption | exact b2n_31 _) ?_
          refine v_if_ltM (tgt := 56) hC dX6_isCovered_28 (by decide) (by first | omega | exact hB _ _ _ _ rfl | exact hB.i _ _ _ _ rfl | assumption | exact b2n_31 _) (fun c_28 => ?_) (fun c_28 => ?_)
          · refine v_iincN hC dX6_isCovered_56 rfl (by decide) ?_
            refine v_goto (tgt := 3) hC dX6_isCovered_59 (by decide) ?_
            refine v_sub rfl (ih (fun q h2 => ?_))
            by_cases e : q = s
            · subst e
              simp [c_28]
            · exact hq q (by omega)
          · refine v_aload_n hC dX6_isCovered_31 rfl ?_
            refine gf_X6_63 hC dX6_isCovered_32 hQ ?_
            refine v_iload_n hC dX6_isCovered_35 rfl ?_
            refine al_46 hC dX6_isCovered_36 hQ (by first | omega | exact hB _ _ _ _ rfl | exact hB.i _ _ _ _ rfl | assumption | exact b2n_31 _) ?_
            refine v_iload_n hC dX6_isCovered_37 rfl ?_
            refine al_47 hC dX6_isCovered_38 hQ (by first | omega | exact hB _ _ _ _ rfl | exact hB.i _ _ _ _ rfl | assumption | exact b2n_31 _) (by first | omega | exact hB _ _ _ _ rfl | exact hB.i _ _ _ _ rfl | assumption | exact b2n_31 _) ?_
            refine v_iload hC dX6_isCovered_39 rfl ?_
            refine al_48 hC dX6_isCovered_41 hQ (by first | omega | exact hB _ _ _ _ rfl | exact hB.i _ _ _ _ rfl | assumption | exact b2n_31 _) (by first | omega | exact hB _ _ _ _ rfl | exact hB.i _ _ _ _ rfl | assumption | exact b2n_31 _) (by first | omega | exact hB _ _ _ _ rfl | exact hB.i _ _ _ _ rfl | assumption | exact b2n_31 _) ?_
            refine v_aload_n hC dX6_isCovered_42 rfl ?_
            refine gf_X6_48 hC dX6_isCovered_43 hQ ?_
            refine v_iload_n hC dX6_isCovered_46 rfl ?_
            refine al_40 hC dX6_isCovered_47 hQ (by first | omega | exact hB _ _ _ _ rfl | exact hB.i _ _ _ _ rfl | assumption | exact b2n_31 _) ?_
            refine v_iload hC dX6_isCovered_48 rfl ?_
            refine al_41 hC dX6_isCovered_50 hQ (by first | omega | exact hB _ _ _ _ rfl | exact hB.i _ _ _ _ rfl | assumption | exact b2n_31 _) (by first | omega | exact hB _ _ _ _ rfl | exact hB.i _ _ _ _ rfl | assumption | exact b2n_31 _) ?_
            refine v_icmp_eqM (tgt := 56) hC dX6_isCovered_51 (by decide) (by first | omega | exact hB _ _ _ _ rfl | exact hB.i _ _ _ _ rfl | assumption | exact b2n_31 _) (by first | omega | exact hB _ _ _ _ rfl | exact hB.i _ _ _ _ rfl | assumption | exact b2n_31 _) (fun c_51 => ?_) (fun c_51 => ?_)
            · refine v_iincN hC dX6_isCovered_56 rfl (by decide) ?_
              refine v_goto (tgt := 3) hC dX6_isCovered_59 (by decide) ?_
              refine v_sub rfl (ih (fun q h2 => ?_))
              by_cases e : q = s
              · subst e
                simp [c_51]
              · exact hq q (by omega)
            · refine v_iconst (v := nI 0) hC dX6_isCovered_54 (by decide) ?_
              refine v_zret hC hM dX6_isCovered_55 (by first | exact nar_z b_of1 | exact nar_z b_of0) (by omega) (by omega) ?_
              exact ⟨by rw [show mcv σ c d p = false from allB_no (q := s) (Nat.zero_le _) (by omega) (by simp [c_16, c_28, c_51])] <;> rfl, rfl⟩
  exact v_sub rfl (key 0 (Nat.zero_le _) (fun q h => absurd h (by omega)))

/-- the verdict of a change in a directory -/
def mvd (σ : SG) (c d : Nat) : Nat := if mtc σ c d = false then 45 else if mask σ c d = 0 then 102 else if σ 45 c 0 (mask σ c d - 1) = 45 then 63 else if σ 45 c 0 (mask σ c d - 1) = 98 then 110 else if mcv σ c d (mask σ c d - 1) = true then 121 else 115
theorem mvd_lt (σ : SG) (c d : Nat) : mvd σ c d < 65536 := by
  unfold mvd
  split
  · decide
  split
  · decide
  split
  · decide
  split
  · decide
  split <;> decide
theorem dm_pos {n : Nat} (h : n ≠ 0) : dm n = nI (n - 1) := by
  cases n with
  | zero => exact absurd rfl h
  | succ n => rfl

set_option maxHeartbeats 4000000 in
set_option maxRecDepth 100000 in
theorem c_X6_verdictOf {l : Launch} (hl0 : l.stackTraces = false) {G : GT} {ok : KF} {ad : AD} {σ : SG} (hQ : OKM ok) (hB : BD σ) {c : Nat} (hc : c < 16) {d : Nat} (hd : d < 4) : Ct l G 2 yX6_verdictOf cX6_verdictOf 4 (some .char) [.ref (ad 30 0 0), iv c, iv d] ok ad σ (Rt (some (iv (mvd σ c d))) ok ad σ) (NX) 0 0 := by
  refine Ct.mk (by decide +kernel) hl0 (Nat.le_of_ble_eq_true rfl) (fun X hX hC hM => ?_)
  subst hX
  have hmk := mask_lt hB c d
  have mk31 : mask σ c d < 2 ^ 31 := by omega
  refine v_aload_n hC dX6_verdictOf_0 rfl ?_
  refine v_iload_n hC dX6_verdictOf_1 rfl ?_
  refine v_iload_n hC dX6_verdictOf_2 rfl ?_
  refine v_callV_r0 hC lk_X6_123 dX6_verdictOf_3 (c_X6_touches hl0 hQ hB (by first | omega | exact hB _ _ _ _ rfl | exact hB.i _ _ _ _ rfl | assumption | exact b2n_31 _ | exact mk31) (by first | omega | exact hB _ _ _ _ rfl | exact hB.i _ _ _ _ rfl | assumption | exact b2n_31 _ | exact mk31)) (by decide) (by decide) hQ.k30 rfl rfl rfl rfl (Nat.le_of_ble_eq_true rfl) (by omega) (by omega) ?_
  refine v_if_neN (tgt := 12) hC dX6_verdictOf_6 (by decide) (by first | omega | exact hB _ _ _ _ rfl | exact hB.i _ _ _ _ rfl | assumption | exact b2n_31 _ | exact mk31) (fun c_6 => ?_) (fun c_6 => ?_)
  · refine v_aload_n hC dX6_verdictOf_12 rfl ?_
    refine v_iload_n hC dX6_verdictOf_13 rfl ?_
    refine v_iload_n hC dX6_verdictOf_14 rfl ?_
    refine v_callV_r0 hC lk_X6_126 dX6_verdictOf_15 (c_X6_ask hl0 hQ hB (by first | omega | exact hB _ _ _ _ rfl | exact hB.i _ _ _ _ rfl | assumption | exact b2n_31 _ | exact mk31) (by first | omega | exact hB _ _ _ _ rfl | exact hB.i _ _ _ _ rfl | assumption | exact b2n_31 _ | exact mk31)) (by decide) (by decide) hQ.k30 rfl rfl rfl rfl (Nat.le_of_ble_eq_true rfl) (by omega) (by omega) ?_
    refine v_istore_n hC dX6_verdictOf_18 (by decide) ?_
    refine v_iload_n hC dX6_verdictOf_19 rfl ?_
    refine v_if_geM (tgt := 26) hC dX6_verdictOf_20 (by decide) (by first | omega | exact hB _ _ _ _ rfl | exact hB.i _ _ _ _ rfl | assumption | exact b2n_31 _ | exact mk31) (fun c_20 => ?_) (fun c_20 => ?_)
    · have hmp : mask σ c d - 1 < 6 := by omega
      rw [dm_pos c_20]
      refine v_aload_n hC dX6_verdictOf_26 rfl ?_
      refine gf_X6_58 hC dX6_verdictOf_27 hQ ?_
      refine v_iload_n hC dX6_verdictOf_30 rfl ?_
      refine al_44 hC dX6_verdictOf_31 hQ (by first | omega | exact hB _ _ _ _ rfl | exact hB.i _ _ _ _ rfl | assumption | exact b2n_31 _ | exact mk31) ?_
      refine v_iload_n hC dX6_verdictOf_32 rfl ?_
      refine al_45 hC dX6_verdictOf_33 hQ (by first | omega | exact hB _ _ _ _ rfl | exact hB.i _ _ _ _ rfl | assumption | exact b2n_31 _ | exact mk31) (by first | omega | exact hB _ _ _ _ rfl | exact hB.i _ _ _ _ rfl | assumption | exact b2n_31 _ | exact mk31) ?_
      refine v_bipush (v := nI 45) hC dX6_verdictOf_34 (by decide) ?_
      refine v_icmp_neN (tgt := 42) hC dX6_verdictOf_36 (by decide) (by first | omega | exact hB _ _ _ _ rfl | exact hB.i _ _ _ _ rfl | assumption | exact b2n_31 _ | exact mk31) (by first | omega | exact hB _ _ _ _ rfl | exact hB.i _ _ _ _ rfl | assumption | exact b2n_31 _ | exact mk31) (fun c_36 => ?_) (fun c_36 => ?_)
      · refine v_aload_n hC dX6_verdictOf_42 rfl ?_
        refine gf_X6_58 hC dX6_verdictOf_43 hQ ?_
        refine v_iload_n hC dX6_verdictOf_46 rfl ?_
        refine al_44 hC dX6_verdictOf_47 hQ (by first | omega | exact hB _ _ _ _ rfl | exact hB.i _ _ _ _ rfl | assumption | exact b2n_31 _ | exact mk31) ?_
        refine v_iload_n hC dX6_verdictOf_48 rfl ?_
        refine al_45 hC dX6_verdictOf_49 hQ (by first | omega | exact hB _ _ _ _ rfl | exact hB.i _ _ _ _ rfl | assumption | exact b2n_31 _ | exact mk31) (by first | omega | exact hB _ _ _ _ rfl | exact hB.i _ _ _ _ rfl | assumption | exact b2n_31 _ | exact mk31) ?_
        refine v_bipush (v := nI 98) hC dX6_verdictOf_50 (by decide) ?_
        refine v_icmp_neN (tgt := 58) hC dX6_verdictOf_52 (by decide) (by first | omega | exact hB _ _ _ _ rfl | exact hB.i _ _ _ _ rfl | assumption | exact b2n_31 _ | exact mk31) (by first | omega | exact hB _ _ _ _ rfl | exact hB.i _ _ _ _ rfl | assumption | exact b2n_31 _ | exact mk31) (fun c_52 => ?_) (fun c_52 => ?_)
        · refine v_aload_n hC dX6_verdictOf_58 rfl ?_
          refine v_iload_n hC dX6_verdictOf_59 rfl ?_
          refine v_iload_n hC dX6_verdictOf_60 rfl ?_
          refine v_iload_n hC dX6_verdictOf_61 rfl ?_
          refine v_callV_r0 hC lk_X6_130 dX6_verdictOf_62 (c_X6_isCovered hl0 hQ hB (by first | omega | exact hB _ _ _ _ rfl | exact hB.i _ _ _ _ rfl | assumption | exact b2n_31 _ | exact mk31) (by first | omega | exact hB _ _ _ _ rfl | exact hB.i _ _ _ _ rfl | assumption | exact b2n_31 _ | exact mk31) (by first | omega | exact hB _ _ _ _ rfl | exact hB.i _ _ _ _ rfl | assumption | exact b2n_31 _ | exact mk31)) (by decide) (by decide) hQ.k30 rfl rfl rfl rfl (Nat.le_of_ble_eq_true rfl) (by omega) (by omega) ?_
          refine v_if_eqN (tgt := 73) hC dX6_verdictOf_65 (by decide) (by first | omega | exact hB _ _ _ _ rfl | exact hB.i _ _ _ _ rfl | assumption | exact b2n_31 _ | exact mk31) (fun c_65 => ?_) (fun c_65 => ?_)
          · refine v_bipush (v := nI 115) hC dX6_verdictOf_73 (by decide) ?_
            refine v_zret hC hM dX6_verdictOf_75 (nar_c (by decide)) (by omega) (by omega) ?_
            exact ⟨by rw [show mvd σ c d = 115 from (if_neg (by rw [b2n_1 c_6]; decide)).trans ((if_neg c_20).trans ((if_neg c_36).trans ((if_neg c_52).trans (if_neg (by rw [b2n_0 c_65]; decide)))))] <;> rfl, rfl⟩
          · refine v_bipush (v := nI 121) hC dX6_verdictOf_68 (by decide) ?_
            refine v_goto (tgt := 75) hC dX6_verdictOf_70 (by decide) ?_
            refine v_zret hC hM dX6_verdictOf_75 (nar_c (by decide)) (by omega) (by omega) ?_
            exact ⟨by rw [show mvd σ c d = 121 from (if_neg (by rw [b2n_1 c_6]; decide)).trans ((if_neg c_20).trans ((if_neg c_36).trans ((if_neg c_52).trans (if_pos (b2n_1 c_65)))))] <;> rfl, rfl⟩
        · refine v_bipush (v := nI 110) hC dX6_verdictOf_55 (by decide) ?_
          refine v_zret hC hM dX6_verdictOf_57 (nar_c (by decide)) (by omega) (by omega) ?_
          exact ⟨by rw [show mvd σ c d = 110 from (if_neg (by rw [b2n_1 c_6]; decide)).trans ((if_neg c_20).trans ((if_neg c_36).trans (if_pos c_52)))] <;> rfl, rfl⟩
      · refine v_bipush (v := nI 63) hC dX6_verdictOf_39 (by decide) ?_
        refine v_zret hC hM dX6_verdictOf_41 (nar_c (by decide)) (by omega) (by omega) ?_
        exact ⟨by rw [show mvd σ c d = 63 from (if_neg (by rw [b2n_1 c_6]; decide)).trans ((if_neg c_20).trans (if_pos c_36))] <;> rfl, rfl⟩
    · refine v_bipush (v := nI 102) hC dX6_verdictOf_23 (by decide) ?_
      refine v_zret hC hM dX6_verdictOf_25 (nar_c (by decide)) (by omega) (by omega) ?_
      exact ⟨by rw [show mvd σ c d = 102 from (if_neg (by rw [b2n_1 c_6]; decide)).trans (if_pos c_20)] <;> rfl, rfl⟩
  · refine v_bipush (v := nI 45) hC dX6_verdictOf_9 (by decide) ?_
    refine v_zret hC hM dX6_verdictOf_11 (nar_c (by decide)) (by omega) (by omega) ?_
    exact ⟨by rw [show mvd σ c d = 45 from if_pos (b2n_0 c_6)] <;> rfl, rfl⟩

