/-! ===== arguments of any value ===== -/
def inR (x : Int32) (N : Nat) : Option Nat := if 0 ≤ x.toInt ∧ x.toInt < (N : Int) then some x.toInt.toNat else none
theorem inR_nI {n N : Nat} (h : n < N) (hN : N ≤ 2147483648) : inR (nI n) N = some n := by
  unfold inR
  rw [nI_toInt (by omega), if_pos (by omega)]
  simp
theorem inR_some {x : Int32} {n N : Nat} (h : inR x N = some n) : x = nI n ∧ n < N := by
  unfold inR at h
  split at h
  · rename_i c
    cases h
    refine ⟨?_, by omega⟩
    apply Int32.toInt_inj.mp
    have h2 : x.toInt < 2 ^ 31 := Int32.toInt_lt x
    rw [nI_toInt (by omega)]
    omega
  · cases h
theorem i32_0 : (0 : Int32).toInt = 0 := by decide
theorem inR_neg {x : Int32} {N : Nat} (h : x < 0) : inR x N = none := by
  unfold inR
  rw [if_neg]
  have := Int32.lt_iff_toInt_lt.mp h
  rw [i32_0] at this
  omega
theorem inR_ge {x : Int32} {N : Nat} (hN : N < 2147483648) (h : ¬ x < nI N) : inR x N = none := by
  unfold inR
  rw [if_neg]
  have h2 : ¬ x.toInt < (nI N).toInt := fun q => h (Int32.lt_iff_toInt_lt.mpr q)
  rw [nI_toInt (by omega)] at h2
  omega
theorem inR_ok {x : Int32} {N : Nat} (hN : N < 2147483648) (h0 : ¬ x < 0) (h : x < nI N) : ∃ n, inR x N = some n ∧ x = nI n ∧ n < N := by
  have h1 : ¬ x.toInt < 0 := fun q => h0 (Int32.lt_iff_toInt_lt.mpr (by rw [i32_0]; exact q))
  have h2 := Int32.lt_iff_toInt_lt.mp h
  rw [nI_toInt (by omega)] at h2
  have e : inR x N = some x.toInt.toNat := if_pos ⟨by omega, h2⟩
  exact ⟨_, e, inR_some e⟩
abbrev eIOB : String := "java/lang/IndexOutOfBoundsException"
abbrev eIAE : String := "java/lang/IllegalArgumentException"
abbrev eISE : String := "java/lang/IllegalStateException"
abbrev eUOE : String := "java/lang/UnsupportedOperationException"
abbrev eARE : String := "java/lang/ArithmeticException"
abbrev eNSE : String := "java/util/NoSuchElementException"
/-- what a check of x against N says -/
abbrev chV (x : Int32) (N : Nat) (ok : KF) (ad : AD) (σ : SG) : Option Value → MT → Prop := fun v μ => v = none ∧ μ = (ok, ad, σ) ∧ ∃ n, inR x N = some n ∧ x = nI n ∧ n < N
abbrev chX (E : String) (x : Int32) (N : Nat) (ok : KF) (ad : AD) (σ : SG) : String → MT → Prop := fun e μ => e = E ∧ μ = (ok, ad, σ) ∧ inR x N = none
/-- what a call of the class does: an exception, or an answer and the memory behind it -/
abbrev OC : Type := String ⊕ (Nat × SG)
abbrev oV (f : OC) (ok : KF) (ad : AD) : Option Value → MT → Prop := fun v μ => ∃ r τ, f = .inr (r, τ) ∧ v = some (iv r) ∧ μ = (ok, ad, τ)
abbrev oX (f : OC) (ok : KF) (ad : AD) (σ : SG) : String → MT → Prop := fun e μ => f = .inl e ∧ μ = (ok, ad, σ)

set_option maxHeartbeats 4000000 in
set_option maxRecDepth 100000 in
theorem c_X5_checkDirectory {l : Launch} (hl0 : l.stackTraces = false) {G : GT} {ok : KF} {ad : AD} {σ : SG} (x : Int32) : Ct l G 2 yX5_checkDirectory cX5_checkDirectory 1 (none) [.int x] ok ad σ (chV x 4 ok ad σ) (chX eIOB x 4 ok ad σ) 1 6 := by
  refine Ct.mk (by decide +kernel) hl0 (Nat.le_of_ble_eq_true rfl) (fun X hX hC hM => ?_)
  subst hX
  refine v_iload_n hC dX5_checkDirectory_0 rfl ?_
  refine v_if_lt (tgt := 9) hC dX5_checkDirectory_1 (by decide) (fun c_1 => ?_) (fun c_1 => ?_)
  · exact v_thrW (text := "there is no such directory") hC hM tw_IOB (by decide +kernel) (⟨rfl, rfl, inR_neg c_1⟩) (by omega) (by omega) (Nat.le_of_ble_eq_true rfl) dX5_checkDirectory_9 dX5_checkDirectory_12 dX5_checkDirectory_13 dX5_checkDirectory_16 dX5_checkDirectory_19
  · refine v_iload_n hC dX5_checkDirectory_4 rfl ?_
    refine v_iconst (v := nI 4) hC dX5_checkDirectory_5 (by decide) ?_
    refine v_icmp_lt (tgt := 20) hC dX5_checkDirectory_6 (by decide) (fun c_6 => ?_) (fun c_6 => ?_)
    · refine v_vret hC hM dX5_checkDirectory_20 (by omega) (by omega) ?_
      exact ⟨rfl, rfl, inR_ok (by decide) c_1 c_6⟩
    · exact v_thrW (text := "there is no such directory") hC hM tw_IOB (by decide +kernel) (⟨rfl, rfl, inR_ge (by decide) c_6⟩) (by omega) (by omega) (Nat.le_of_ble_eq_true rfl) dX5_checkDirectory_9 dX5_checkDirectory_12 dX5_checkDirectory_13 dX5_checkDirectory_16 dX5_checkDirectory_19

set_option maxHeartbeats 4000000 in
set_option maxRecDepth 100000 in
theorem c_X5_checkPerson {l : Launch} (hl0 : l.stackTraces = false) {G : GT} {ok : KF} {ad : AD} {σ : SG} (x : Int32) : Ct l G 2 yX5_checkPerson cX5_checkPerson 1 (none) [.int x] ok ad σ (chV x 6 ok ad σ) (chX eIAE x 6 ok ad σ) 1 6 := by
  refine Ct.mk (by decide +kernel) hl0 (Nat.le_of_ble_eq_true rfl) (fun X hX hC hM => ?_)
  subst hX
  refine v_iload_n hC dX5_checkPerson_0 rfl ?_
  refine v_if_lt (tgt := 10) hC dX5_checkPerson_1 (by decide) (fun c_1 => ?_) (fun c_1 => ?_)
  · exact v_thrW (text := "there is no such person") hC hM tw_IAE (by decide +kernel) (⟨rfl, rfl, inR_neg c_1⟩) (by omega) (by omega) (Nat.le_of_ble_eq_true rfl) dX5_checkPerson_10 dX5_checkPerson_13 dX5_checkPerson_14 dX5_checkPerson_17 dX5_checkPerson_20
  · refine v_iload_n hC dX5_checkPerson_4 rfl ?_
    refine v_bipush (v := nI 6) hC dX5_checkPerson_5 (by decide) ?_
    refine v_icmp_lt (tgt := 21) hC dX5_checkPerson_7 (by decide) (fun c_7 => ?_) (fun c_7 => ?_)
    · refine v_vret hC hM dX5_checkPerson_21 (by omega) (by omega) ?_
      exact ⟨rfl, rfl, inR_ok (by decide) c_1 c_7⟩
    · exact v_thrW (text := "there is no such person") hC hM tw_IAE (by decide +kernel) (⟨rfl, rfl, inR_ge (by decide) c_7⟩) (by omega) (by omega) (Nat.le_of_ble_eq_true rfl) dX5_checkPerson_10 dX5_checkPerson_13 dX5_checkPerson_14 dX5_checkPerson_17 dX5_checkPerson_20

set_option maxHeartbeats 4000000 in
set_option maxRecDepth 100000 in
theorem c_X5_checkIndex {l : Launch} (hl0 : l.stackTraces = false) {G : GT} {ok : KF} {ad : AD} {σ : SG} (hO : OKC ok) (hB : BD σ) {w : Nat} (hw : w < 2) (x : Int32) : Ct l G 2 yX5_checkIndex cX5_checkIndex 2 (none) [.ref (ad 12 w 0), .int x] ok ad σ (chV x (σ 12 w 0 0) ok ad σ) (chX eIOB x (σ 12 w 0 0) ok ad σ) 1 6 := by
  refine Ct.mk (by decide +kernel) hl0 (Nat.le_of_ble_eq_true rfl) (fun X hX hC hM => ?_)
  subst hX
  have hs := hB 12 w 0 0 rfl
  have hs2 : σ 12 w 0 0 < 17 := hs
  refine v_iload_n hC dX5_checkIndex_0 rfl ?_
  refine v_if_lt (tgt := 12) hC dX5_checkIndex_1 (by decide) (fun c_1 => ?_) (fun c_1 => ?_)
  · exact v_thrW (text := "there is no such change") hC hM tw_IOB (by decide +kernel) (⟨rfl, rfl, inR_neg c_1⟩) (by omega) (by omega) (Nat.le_of_ble_eq_true rfl) dX5_checkIndex_12 dX5_checkIndex_15 dX5_checkIndex_16 dX5_checkIndex_19 dX5_checkIndex_22
  · refine v_iload_n hC dX5_checkIndex_4 rfl ?_
    refine v_aload_n hC dX5_checkIndex_5 rfl ?_
    refine gf_X5_159 hC dX5_checkIndex_6 hO (by first | omega | exact hB _ _ _ _ rfl | exact hB.i _ _ _ _ rfl | assumption | exact and_lt (hB _ _ _ _ rfl) | exact b2n_31 _) ?_
    refine v_icmp_lt (tgt := 23) hC dX5_checkIndex_9 (by decide) (fun c_9 => ?_) (fun c_9 => ?_)
    · refine v_vret hC hM dX5_checkIndex_23 (by omega) (by omega) ?_
      exact ⟨rfl, rfl, inR_ok (by omega) c_1 c_9⟩
    · exact v_thrW (text := "there is no such change") hC hM tw_IOB (by decide +kernel) (⟨rfl, rfl, inR_ge (by omega) c_9⟩) (by omega) (by omega) (Nat.le_of_ble_eq_true rfl) dX5_checkIndex_12 dX5_checkIndex_15 dX5_checkIndex_16 dX5_checkIndex_19 dX5_checkIndex_22

set_option maxHeartbeats 4000000 in
set_option maxRecDepth 100000 in
theorem c_X5_checkOpen {l : Launch} (hl0 : l.stackTraces = false) {G : GT} {ok : KF} {ad : AD} {σ : SG} (hO : OKC ok) (hB : BD σ) {i : Nat} (hi : i < 16) : Ct l G 2 yX5_checkOpen cX5_checkOpen 1 (none) [.ref (ad 6 i 0)] ok ad σ (fun v μ => v = none ∧ μ = (ok, ad, σ) ∧ σ 6 i 0 1 = 111) (fun e μ => e = eISE ∧ μ = (ok, ad, σ) ∧ σ 6 i 0 1 ≠ 111) 1 6 := by
  refine Ct.mk (by decide +kernel) hl0 (Nat.le_of_ble_eq_true rfl) (fun X hX hC hM => ?_)
  subst hX
  refine v_aload_n hC dX5_checkOpen_0 rfl ?_
  refine gf_X5_113 hC dX5_checkOpen_1 hO (by first | omega | exact hB _ _ _ _ rfl | exact hB.i _ _ _ _ rfl | assumption | exact and_lt (hB _ _ _ _ rfl) | exact b2n_31 _) ?_
  refine v_bipush (v := nI 111) hC dX5_checkOpen_4 (by decide) ?_
  refine v_icmp_eqN (tgt := 20) hC dX5_checkOpen_6 (by decide) (by first | omega | exact hB _ _ _ _ rfl | exact hB.i _ _ _ _ rfl | assumption | exact and_lt (hB _ _ _ _ rfl) | exact b2n_31 _) (by first | omega | exact hB _ _ _ _ rfl | exact hB.i _ _ _ _ rfl | assumption | exact and_lt (hB _ _ _ _ rfl) | exact b2n_31 _) (fun c_6 => ?_) (fun c_6 => ?_)
  · refine v_vret hC hM dX5_checkOpen_20 (by omega) (by omega) ?_
    exact ⟨rfl, rfl, c_6⟩
  · exact v_thrW (text := "the change is not open") hC hM tw_ISE (by decide +kernel) (⟨rfl, rfl, c_6⟩) (by omega) (by omega) (Nat.le_of_ble_eq_true rfl) dX5_checkOpen_9 dX5_checkOpen_12 dX5_checkOpen_13 dX5_checkOpen_16 dX5_checkOpen_19

set_option maxHeartbeats 4000000 in
set_option maxRecDepth 100000 in
theorem c_X5_checkMerged {l : Launch} (hl0 : l.stackTraces = false) {G : GT} {ok : KF} {ad : AD} {σ : SG} (hO : OKC ok) (hB : BD σ) {i : Nat} (hi : i < 16) : Ct l G 2 yX5_checkMerged cX5_checkMerged 1 (none) [.ref (ad 6 i 0)] ok ad σ (fun v μ => v = none ∧ μ = (ok, ad, σ) ∧ σ 6 i 0 1 = 109) (fun e μ => e = eISE ∧ μ = (ok, ad, σ) ∧ σ 6 i 0 1 ≠ 109) 1 6 := by
  refine Ct.mk (by decide +kernel) hl0 (Nat.le_of_ble_eq_true rfl) (fun X hX hC hM => ?_)
  subst hX
  refine v_aload_n hC dX5_checkMerged_0 rfl ?_
  refine gf_X5_113 hC dX5_checkMerged_1 hO (by first | omega | exact hB _ _ _ _ rfl | exact hB.i _ _ _ _ rfl | assumption | exact and_lt (hB _ _ _ _ rfl) | exact b2n_31 _) ?_
  refine v_bipush (v := nI 109) hC dX5_checkMerged_4 (by decide) ?_
  refine v_icmp_eqN (tgt := 20) hC dX5_checkMerged_6 (by decide) (by first | omega | exact hB _ _ _ _ rfl | exact hB.i _ _ _ _ rfl | assumption | exact and_lt (hB _ _ _ _ rfl) | exact b2n_31 _) (by first | omega | exact hB _ _ _ _ rfl | exact hB.i _ _ _ _ rfl | assumption | exact and_lt (hB _ _ _ _ rfl) | exact b2n_31 _) (fun c_6 => ?_) (fun c_6 => ?_)
  · refine v_vret hC hM dX5_checkMerged_20 (by omega) (by omega) ?_
    exact ⟨rfl, rfl, c_6⟩
  · exact v_thrW (text := "the change is not merged") hC hM tw_ISE (by decide +kernel) (⟨rfl, rfl, c_6⟩) (by omega) (by omega) (Nat.le_of_ble_eq_true rfl) dX5_checkMerged_9 dX5_checkMerged_12 dX5_checkMerged_13 dX5_checkMerged_16 dX5_checkMerged_19

set_option maxHeartbeats 4000000 in
set_option maxRecDepth 100000 in
theorem c_X5_placeOf {l : Launch} (hl0 : l.stackTraces = false) {G : GT} {ok : KF} {ad : AD} {σ : SG} (x y : Int32) : Ct l G 2 yX5_placeOf cX5_placeOf 2 (some .int) [.int x, .int y] ok ad σ (fun v μ => μ = (ok, ad, σ) ∧ ∃ a b, inR x 16 = some a ∧ inR y 4 = some b ∧ x = nI a ∧ y = nI b ∧ a < 16 ∧ b < 4 ∧ v = some (iv (a * 4 + b))) (fun e μ => e = eIOB ∧ μ = (ok, ad, σ) ∧ (inR x 16 = none ∨ inR y 4 = none)) 1 6 := by
  refine Ct.mk (by decide +kernel) hl0 (Nat.le_of_ble_eq_true rfl) (fun X hX hC hM => ?_)
  subst hX
  refine v_iload_n hC dX5_placeOf_0 rfl ?_
  refine v_if_lt (tgt := 19) hC dX5_placeOf_1 (by decide) (fun c_1 => ?_) (fun c_1 => ?_)
  · exact v_thrW (text := "there is no such file or span") hC hM tw_IOB (by decide +kernel) (⟨rfl, rfl, .inl (inR_neg c_1)⟩) (by omega) (by omega) (Nat.le_of_ble_eq_true rfl) dX5_placeOf_19 dX5_placeOf_22 dX5_placeOf_23 dX5_placeOf_26 dX5_placeOf_29
  · refine v_iload_n hC dX5_placeOf_4 rfl ?_
    refine v_bipush (v := nI 16) hC dX5_placeOf_5 (by decide) ?_
    refine v_icmp_ge (tgt := 19) hC dX5_placeOf_7 (by decide) (fun c_7 => ?_) (fun c_7 => ?_)
    · exact v_thrW (text := "there is no such file or span") hC hM tw_IOB (by decide +kernel) (⟨rfl, rfl, .inl (inR_ge (by decide) (fun q => absurd (Int32.not_lt.mpr c_7) (fun z => z q)))⟩) (by omega) (by omega) (Nat.le_of_ble_eq_true rfl) dX5_placeOf_19 dX5_placeOf_22 dX5_placeOf_23 dX5_placeOf_26 dX5_placeOf_29
    · refine v_iload_n hC dX5_placeOf_10 rfl ?_
      refine v_if_lt (tgt := 19) hC dX5_placeOf_11 (by decide) (fun c_11 => ?_) (fun c_11 => ?_)
      · exact v_thrW (text := "there is no such file or span") hC hM tw_IOB (by decide +kernel) (⟨rfl, rfl, .inr (inR_neg c_11)⟩) (by omega) (by omega) (Nat.le_of_ble_eq_true rfl) dX5_placeOf_19 dX5_placeOf_22 dX5_placeOf_23 dX5_placeOf_26 dX5_placeOf_29
      · refine v_iload_n hC dX5_placeOf_14 rfl ?_
        refine v_iconst (v := nI 4) hC dX5_placeOf_15 (by decide) ?_
        refine v_icmp_lt (tgt := 30) hC dX5_placeOf_16 (by decide) (fun c_16 => ?_) (fun c_16 => ?_)
        · obtain ⟨a, ha1, rfl, ha2⟩ := inR_ok (by decide) c_1 (Int32.not_le.mp c_7)
          obtain ⟨b, hb1, rfl, hb2⟩ := inR_ok (by decide) c_11 c_16
          refine v_iload_n hC dX5_placeOf_30 rfl ?_
          refine v_iconst (v := nI 4) hC dX5_placeOf_31 (by decide) ?_
          refine v_imulN hC dX5_placeOf_32 ?_
          refine v_iload_n hC dX5_placeOf_33 rfl ?_
          refine v_iaddN hC dX5_placeOf_34 ?_
          refine v_iret hC hM dX5_placeOf_35 (by omega) (by omega) ?_
          exact ⟨rfl, a, b, ha1, hb1, rfl, rfl, ha2, hb2, rfl⟩
        · exact v_thrW (text := "there is no such file or span") hC hM tw_IOB (by decide +kernel) (⟨rfl, rfl, .inr (inR_ge (by decide) c_16)⟩) (by omega) (by omega) (Nat.le_of_ble_eq_true rfl) dX5_placeOf_19 dX5_placeOf_22 dX5_placeOf_23 dX5_placeOf_26 dX5_placeOf_29

set_option maxHeartbeats 4000000 in
set_option maxRecDepth 100000 in
theorem c_X5_changeOf {l : Launch} (hl0 : l.stackTraces = false) {G : GT} {ok : KF} {ad : AD} {σ : SG} (hO : OKC ok) (hB : BD σ) (x : Int32) : Ct l G 2 yX5_changeOf cX5_changeOf 2 (some (.object "Branchyard$Change")) [.ref (ad 0 0 0), .int x] ok ad σ (fun v μ => μ = (ok, ad, σ) ∧ ∃ i, inR x (σ 0 0 0 0) = some i ∧ x = nI i ∧ i < σ 0 0 0 0 ∧ i < 16 ∧ v = some (.ref (ad 6 i 0))) (chX eNSE x (σ 0 0 0 0) ok ad σ) 1 6 := by
  refine Ct.mk (by decide +kernel) hl0 (Nat.le_of_ble_eq_true rfl) (fun X hX hC hM => ?_)
  subst hX
  have hs2 : σ 0 0 0 0 < 17 := hB 0 0 0 0 rfl
  refine v_iload_n hC dX5_changeOf_0 rfl ?_
  refine v_if_lt (tgt := 12) hC dX5_changeOf_1 (by decide) (fun c_1 => ?_) (fun c_1 => ?_)
  · exact v_thrYW (text := "there is no such change") hC hM tw_NSE (by decide +kernel) (⟨rfl, rfl, inR_neg c_1⟩) (by omega) (by omega) (Nat.le_of_ble_eq_true rfl) dX5_changeOf_12 dX5_changeOf_15 dX5_changeOf_16 dX5_changeOf_19 dX5_changeOf_22
  · refine v_iload_n hC dX5_changeOf_4 rfl ?_
    refine v_aload_n hC dX5_changeOf_5 rfl ?_
    refine gf_X5_70 hC dX5_changeOf_6 hO ?_
    refine v_icmp_lt (tgt := 23) hC dX5_changeOf_9 (by decide) (fun c_9 => ?_) (fun c_9 => ?_)
    · obtain ⟨i, hi1, rfl, hi2⟩ := inR_ok (by omega) c_1 c_9
      have hi : i < 16 := by omega
      refine v_aload_n hC dX5_changeOf_23 rfl ?_
      refine gf_X5_25 hC dX5_changeOf_24 hO ?_
      refine v_iload_n hC dX5_changeOf_27 rfl ?_
      refine al_5 hC dX5_changeOf_28 hO (by first | omega | exact hB _ _ _ _ rfl | exact hB.i _ _ _ _ rfl | assumption | exact and_lt (hB _ _ _ _ rfl) | exact b2n_31 _) ?_
      refine v_aret hC hM dX5_changeOf_29 (.inl ⟨_, rfl⟩) (.inr ⟨_, rfl⟩) (by omega) (by omega) ?_
      exact ⟨rfl, i, hi1, rfl, hi2, hi, rfl⟩
    · exact v_thrYW (text := "there is no such change") hC hM tw_NSE (by decide +kernel) (⟨rfl, rfl, inR_ge (by omega) c_9⟩) (by omega) (by omega) (Nat.le_of_ble_eq_true rfl) dX5_changeOf_12 dX5_changeOf_15 dX5_changeOf_16 dX5_changeOf_19 dX5_changeOf_22

