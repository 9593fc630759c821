/-- a place's value by the first n merged changes -/
def rpl (σ : SG) (p : Nat) : Nat → Nat
  | 0 => 0
  | n + 1 => if (σ 6 (σ 13 1 0 n) 0 3).testBit p = true then σ 7 (σ 13 1 0 n) 0 p else rpl σ p n
theorem rpl_lt {σ : SG} (h : BD σ) (p : Nat) : ∀ n, rpl σ p n < 100
  | 0 => by show 0 < 100; decide
  | n + 1 => by
    unfold rpl
    split
    · exact h 7 _ 0 p rfl
    · exact rpl_lt h p n

set_option maxHeartbeats 4000000 in
set_option maxRecDepth 100000 in
theorem c_X5_replayedValue {l : Launch} (hl0 : l.stackTraces = false) {G : GT} {ok : KF} {ad : AD} {σ : SG} (hO : OKC ok) (hB : BD σ) {p : Nat} (hp64 : p < 64) : Ct l G 2 yX5_replayedValue cX5_replayedValue 5 (some .int) [.ref (ad 0 0 0), iv p] ok ad σ (Rt (some (iv (rpl σ p (σ 12 1 0 0)))) ok ad σ) (NX) 0 0 := by
  refine Ct.mk (by decide +kernel) hl0 (Nat.le_of_ble_eq_true rfl) (fun X hX hC hM => ?_)
  subst hX
  have hsz : σ 12 1 0 0 < 17 := hB 12 1 0 0 rfl
  refine v_iconst (v := nI 0) hC dX5_replayedValue_0 (by decide) ?_
  refine v_istore_n hC dX5_replayedValue_1 (by decide) ?_
  refine v_iconst (v := nI 0) hC dX5_replayedValue_2 (by decide) ?_
  refine v_istore_n hC dX5_replayedValue_3 (by decide) ?_
  have key : ∀ n, n ≤ σ 12 1 0 0 → V X G 0 0 ok ad σ [(0, .ref (ad 0 0 0)), (1, iv p), (2, iv (rpl σ p n)), (3, iv n)] 4 [] := by
    refine down (σ 12 1 0 0) ?_ ?_
    · refine v_iload_n hC dX5_replayedValue_4 rfl ?_
      refine v_aload_n hC dX5_replayedValue_5 rfl ?_
      refine gf_X5_36 hC dX5_replayedValue_6 hO ?_
      refine gf_X5_159 hC dX5_replayedValue_9 hO (i := 1) (by decide) ?_
      refine v_icmp_geN (tgt := 53) hC dX5_replayedValue_12 (by decide) (by first | omega | exact hB _ _ _ _ rfl | exact hB.i _ _ _ _ rfl | assumption | exact b2n_31 _ | exact hB 13 1 0 _ rfl) (by first | omega | exact hB _ _ _ _ rfl | exact hB.i _ _ _ _ rfl | assumption | exact b2n_31 _ | exact hB 13 1 0 _ rfl) (fun c_12 => ?_) (fun c_12 => ?_)
      · refine v_iload_n hC dX5_replayedValue_53 rfl ?_
        refine v_iret hC hM dX5_replayedValue_54 (by omega) (by omega) ?_
        exact ⟨rfl, rfl⟩
      · exact absurd c_12 (by omega)
    · intro n hp ih 
      refine v_iload_n hC dX5_replayedValue_4 rfl ?_
      refine v_aload_n hC dX5_replayedValue_5 rfl ?_
      refine gf_X5_36 hC dX5_replayedValue_6 hO ?_
      refine gf_X5_159 hC dX5_replayedValue_9 hO (i := 1) (by decide) ?_
      refine v_icmp_geN (tgt := 53) hC dX5_replayedValue_12 (by decide) (by first | omega | exact hB _ _ _ _ rfl | exact hB.i _ _ _ _ rfl | assumption | exact b2n_31 _ | exact hB 13 1 0 _ rfl) (by first | omega | exact hB _ _ _ _ rfl | exact hB.i _ _ _ _ rfl | assumption | exact b2n_31 _ | exact hB 13 1 0 _ rfl) (fun c_12 => ?_) (fun c_12 => ?_)
      · exact absurd c_12 (by omega)
      · refine v_aload_n hC dX5_replayedValue_15 rfl ?_
        refine gf_X5_25 hC dX5_replayedValue_16 hO ?_
        refine v_aload_n hC dX5_replayedValue_19 rfl ?_
        refine gf_X5_36 hC dX5_replayedValue_20 hO ?_
        refine v_iload_n hC dX5_replayedValue_23 rfl ?_
        refine v_callVN_r0 hC lk_X5_171 dX5_replayedValue_24 (c_X2_at hl0 hO hB (by decide) (by omega)) (by decide) (by decide) (hO.k12 (i := 1) (by decide)) rfl rfl rfl rfl (Nat.le_of_ble_eq_true rfl) (by omega) (by omega) ?_
        have hc16 : σ 13 1 0 n < 16 := hB 13 1 0 n rfl
        refine al_5 hC dX5_replayedValue_27 hO (by first | omega | exact hB _ _ _ _ rfl | exact hB.i _ _ _ _ rfl | assumption | exact b2n_31 _ | exact hB 13 1 0 _ rfl) ?_
        refine v_astore hC dX5_replayedValue_28 (by decide) ?_
        refine v_aload hC dX5_replayedValue_30 rfl ?_
        refine v_iload_n hC dX5_replayedValue_32 rfl ?_
        refine v_callVN_r0 hC lk_X5_104 dX5_replayedValue_33 (c_X1_hasEdit hl0 hO hB hc16 hp64) (by decide) (by decide) (hO.k6 hc16) rfl rfl rfl rfl (Nat.le_of_ble_eq_true rfl) (by omega) (by omega) ?_
        refine v_if_eqN (tgt := 47) hC dX5_replayedValue_36 (by decide) (by first | omega | exact hB _ _ _ _ rfl | exact hB.i _ _ _ _ rfl | assumption | exact b2n_31 _ | exact hB 13 1 0 _ rfl) (fun c_36 => ?_) (fun c_36 => ?_)
        · refine v_iincN hC dX5_replayedValue_47 rfl (by decide) ?_
          refine v_goto (tgt := 4) hC dX5_replayedValue_50 (by decide) ?_
          have e1 : rpl σ p (n + 1) = rpl σ p n := if_neg (by rw [b2n_0 c_36]; decide)
          rw [e1] at ih
          exact v_sub rfl ih
        · refine v_aload hC dX5_replayedValue_39 rfl ?_
          refine gf_X5_223 hC dX5_replayedValue_41 hO (by first | omega | exact hB _ _ _ _ rfl | exact hB.i _ _ _ _ rfl | assumption | exact b2n_31 _ | exact hB 13 1 0 _ rfl) ?_
          refine v_iload_n hC dX5_replayedValue_44 rfl ?_
          refine al_7 hC dX5_replayedValue_45 hO (by first | omega | exact hB _ _ _ _ rfl | exact hB.i _ _ _ _ rfl | assumption | exact b2n_31 _ | exact hB 13 1 0 _ rfl) (by first | omega | exact hB _ _ _ _ rfl | exact hB.i _ _ _ _ rfl | assumption | exact b2n_31 _ | exact hB 13 1 0 _ rfl) ?_
          refine v_istore_n hC dX5_replayedValue_46 (by decide) ?_
          refine v_iincN hC dX5_replayedValue_47 rfl (by decide) ?_
          refine v_goto (tgt := 4) hC dX5_replayedValue_50 (by decide) ?_
          have e1 : rpl σ p (n + 1) = σ 7 (σ 13 1 0 n) 0 p := if_pos (b2n_1 c_36)
          rw [e1] at ih
          exact v_sub rfl ih
  exact v_sub rfl (key 0 (Nat.zero_le _))

def k_valueByMerges (σ : SG) (f s : Int32) : OC := gR f 16 eIOB fun f => gR s 4 eIOB fun s => .inr (rpl σ (f * 4 + s) (σ 12 1 0 0), σ)
set_option maxHeartbeats 4000000 in
set_option maxRecDepth 100000 in
theorem c_X5_valueByMerges {l : Launch} (hl0 : l.stackTraces = false) {G : GT} {ok : KF} {ad : AD} {σ : SG} (hO : OKC ok) (hB : BD σ) (f : Int32) (s : Int32) : Ct l G 5 yX5_valueByMerges cX5_valueByMerges 3 (some .int) [.ref (ad 0 0 0), .int f, .int s] ok ad σ (oV (k_valueByMerges σ f s) ok ad) (oX (k_valueByMerges σ f s) ok ad σ) 4 24 := by
  refine Ct.mk (by decide +kernel) hl0 (Nat.le_of_ble_eq_true rfl) (fun X hX hC hM => ?_)
  subst hX
  refine v_aload_n hC dX5_valueByMerges_0 rfl ?_
  refine v_iload_n hC dX5_valueByMerges_1 rfl ?_
  refine v_iload_n hC dX5_valueByMerges_2 rfl ?_
  refine v_callS hC lk_X5_86 dX5_valueByMerges_3 (c_X5_placeOf hl0 f s) (by decide) (by decide) rfl rfl (Nat.le_of_ble_eq_true rfl) (by omega) (by omega) (fun v μ h => ?_) (fun E μ h => ?_)
  rotate_left
  · obtain ⟨rfl, rfl, he⟩ := h
    refine v_out hC hM (by omega) (by omega) ⟨?_, rfl⟩
    rcases he with he | he
    · simp [k_valueByMerges, gR, he]
    · cases hx : inR f 16 <;> simp [k_valueByMerges, gR, he, hx]
  obtain ⟨rfl, f, s, h_f, h_s, rfl, rfl, b_f, b_s, rfl⟩ := h
  dsimp only
  refine v_callV_r0 hC lk_X5_220 dX5_valueByMerges_6 (c_X5_replayedValue hl0 hO hB (by omega)) (by decide) (by decide) hO.k0 rfl rfl rfl rfl (Nat.le_of_ble_eq_true rfl) (by omega) (by omega) ?_
  refine v_iret hC hM dX5_valueByMerges_9 (by omega) (by omega) ?_
  exact ⟨_, _, by simp [k_valueByMerges, gR, h_f, h_s], rfl, rfl⟩

/-- what goes along with a change, among the first n merged: the set of them, and the places they edit -/
def gal (σ : SG) (a : Nat) : Nat → Nat × Nat
  | 0 => (0, 0)
  | n + 1 => if σ 13 1 0 n = a ∨ σ 6 (σ 13 1 0 n) 0 3 &&& (gal σ a n).2 ≠ 0 then ((gal σ a n).1 ||| 1 * 2 ^ σ 13 1 0 n, (gal σ a n).2 ||| σ 6 (σ 13 1 0 n) 0 3) else gal σ a n
theorem gal_lt {σ : SG} (h : BD σ) (a : Nat) : ∀ n, (gal σ a n).1 < 2 ^ 16 ∧ (gal σ a n).2 < 2 ^ 64
  | 0 => by show 0 < 2 ^ 16 ∧ 0 < 2 ^ 64; decide
  | n + 1 => by
    obtain ⟨h1, h2⟩ := gal_lt h a n
    have hc : σ 13 1 0 n < 16 := h 13 1 0 n rfl
    unfold gal
    split
    · exact ⟨Nat.or_lt_two_pow h1 (by rw [Nat.one_mul]; exact Nat.pow_lt_pow_right (by decide) hc), Nat.or_lt_two_pow h2 (h 6 _ 0 3 rfl)⟩
    · exact ⟨h1, h2⟩

set_option maxHeartbeats 4000000 in
set_option maxRecDepth 100000 in
theorem c_X5_goingAlong {l : Launch} (hl0 : l.stackTraces = false) {G : GT} {ok : KF} {ad : AD} {σ : SG} (hO : OKC ok) (hB : BD σ) {a : Nat} (ha : a < 16) : Ct l G 2 yX5_goingAlong cX5_goingAlong 8 (some .int) [.ref (ad 0 0 0), iv a] ok ad σ (Rt (some (iv (gal σ a (σ 12 1 0 0)).1)) ok ad σ) (NX) 0 0 := by
  refine Ct.mk (by decide +kernel) hl0 (Nat.le_of_ble_eq_true rfl) (fun X hX hC hM => ?_)
  subst hX
  have hsz : σ 12 1 0 0 < 17 := hB 12 1 0 0 rfl
  have hgl := gal_lt hB a
  refine v_iconst (v := nI 0) hC dX5_goingAlong_0 (by decide) ?_
  refine v_istore_n hC dX5_goingAlong_1 (by decide) ?_
  refine v_lconst (v := lN 0) hC dX5_goingAlong_2 (by decide) ?_
  refine v_lstore_n hC dX5_goingAlong_3 (by decide) ?_
  refine v_iconst (v := nI 0) hC dX5_goingAlong_4 (by decide) ?_
  refine v_istore hC dX5_goingAlong_5 (by decide) ?_
  have key : ∀ n, n ≤ σ 12 1 0 0 → V X G 0 0 ok ad σ [(0, .ref (ad 0 0 0)), (1, iv a), (2, iv (gal σ a n).1), (3, jv (gal σ a n).2), (5, iv n)] 7 [] := by
    refine down (σ 12 1 0 0) ?_ ?_
    · refine v_iload hC dX5_goingAlong_7 rfl ?_
      refine v_aload_n hC dX5_goingAlong_9 rfl ?_
      refine gf_X5_36 hC dX5_goingAlong_10 hO ?_
      refine gf_X5_159 hC dX5_goingAlong_13 hO (i := 1) (by decide) ?_
      refine v_icmp_geN (tgt := 78) hC dX5_goingAlong_16 (by decide) (by first | omega | exact and_lt (hB _ _ _ _ rfl) | exact hB _ _ _ _ rfl | assumption | decide) (by first | omega | exact and_lt (hB _ _ _ _ rfl) | exact hB _ _ _ _ rfl | assumption | decide) (fun c_16 => ?_) (fun c_16 => ?_)
      · refine v_iload_n hC dX5_goingAlong_78 rfl ?_
        refine v_iret hC hM dX5_goingAlong_79 (by omega) (by omega) ?_
        exact ⟨rfl, rfl⟩
      · exact absurd c_16 (by omega)
    · intro n hp ih 
      refine v_iload hC dX5_goingAlong_7 rfl ?_
      refine v_aload_n hC dX5_goingAlong_9 rfl ?_
      refine gf_X5_36 hC dX5_goingAlong_10 hO ?_
      refine gf_X5_159 hC dX5_goingAlong_13 hO (i := 1) (by decide) ?_
      refine v_icmp_geN (tgt := 78) hC dX5_goingAlong_16 (by decide) (by first | omega | exact and_lt (hB _ _ _ _ rfl) | exact hB _ _ _ _ rfl | assumption | decide) (by first | omega | exact and_lt (hB _ _ _ _ rfl) | exact hB _ _ _ _ rfl | assumption | decide) (fun c_16 => ?_) (fun c_16 => ?_)
      · exact absurd c_16 (by omega)
      · refine v_aload_n hC dX5_goingAlong_19 rfl ?_
        refine gf_X5_36 hC dX5_goingAlong_20 hO ?_
        refine v_iload hC dX5_goingAlong_23 rfl ?_
        refine v_callVN_r0 hC lk_X5_171 dX5_goingAlong_25 (c_X2_at hl0 hO hB (by decide) (by omega)) (by decide) (by decide) (hO.k12 (i := 1) (by decide)) rfl rfl rfl rfl (Nat.le_of_ble_eq_true rfl) (by omega) (by omega) ?_
        have hc16 : σ 13 1 0 n < 16 := hB 13 1 0 n rfl
        refine v_istore hC dX5_goingAlong_28 (by decide) ?_
        refine v_aload_n hC dX5_goingAlong_30 rfl ?_
        refine gf_X5_25 hC dX5_goingAlong_31 hO ?_
        refine v_iload hC dX5_goingAlong_34 rfl ?_
        refine al_5 hC dX5_goingAlong_36 hO (by first | omega | exact and_lt (hB _ _ _ _ rfl) | exact hB _ _ _ _ rfl | assumption | decide) ?_
        refine v_astore hC dX5_goingAlong_37 (by decide) ?_
        refine v_iload hC dX5_goingAlong_39 rfl ?_
        refine v_iload_n hC dX5_goingAlong_41 rfl ?_
        refine v_icmp_eqN (tgt := 57) hC dX5_goingAlong_42 (by decide) (by first | omega | exact and_lt (hB _ _ _ _ rfl) | exact hB _ _ _ _ rfl | assumption | decide) (by first | omega | exact and_lt (hB _ _ _ _ rfl) | exact hB _ _ _ _ rfl | assumption | decide) (fun c_42 => ?_) (fun c_42 => ?_)
        · refine v_iload_n hC dX5_goingAlong_57 rfl ?_
          refine v_iconst (v := nI 1) hC dX5_goingAlong_58 (by decide) ?_
          refine v_iload hC dX5_goingAlong_59 rfl ?_
          refine v_ishlN hC dX5_goingAlong_61 (by omega) ?_
          refine v_iorN hC dX5_goingAlong_62 ?_
          refine v_istore_n hC dX5_goingAlong_63 (by decide) ?_
          refine v_lload_n hC dX5_goingAlong_64 rfl ?_
          refine v_aload hC dX5_goingAlong_65 rfl ?_
          refine gf_X5_142 hC dX5_goingAlong_67 hO (by first | omega | exact and_lt (hB _ _ _ _ rfl) | exact hB _ _ _ _ rfl | assumption | decide) ?_
          refine v_lorN hC dX5_goingAlong_70 ?_
          refine v_lstore_n hC dX5_goingAlong_71 (by decide) ?_
          refine v_iincN hC dX5_goingAlong_72 rfl (by decide) ?_
          refine v_goto (tgt := 7) hC dX5_goingAlong_75 (by decide) ?_
          have e1 : gal σ a (n + 1) = ((gal σ a n).1 ||| 1 * 2 ^ σ 13 1 0 n, (gal σ a n).2 ||| σ 6 (σ 13 1 0 n) 0 3) := if_pos (.inl c_42)
          rw [e1] at ih
          exact v_sub rfl ih
        · refine v_aload hC dX5_goingAlong_45 rfl ?_
          refine gf_X5_142 hC dX5_goingAlong_47 hO (by first | omega | exact and_lt (hB _ _ _ _ rfl) | exact hB _ _ _ _ rfl | assumption | decide) ?_
          refine v_lload_n hC dX5_goingAlong_50 rfl ?_
          refine v_landN hC dX5_goingAlong_51 ?_
          refine v_lconst (v := lN 0) hC dX5_goingAlong_52 (by decide) ?_
          refine v_lcmp hC dX5_goingAlong_53 ?_
          refine v_if_eqJ (tgt := 72) hC dX5_goingAlong_54 (by decide) (by first | omega | exact and_lt (hB _ _ _ _ rfl) | exact hB _ _ _ _ rfl | assumption | decide) (by first | omega | exact and_lt (hB _ _ _ _ rfl) | exact hB _ _ _ _ rfl | assumption | decide) (fun c_54 => ?_) (fun c_54 => ?_)
          · refine v_iincN hC dX5_goingAlong_72 rfl (by decide) ?_
            refine v_goto (tgt := 7) hC dX5_goingAlong_75 (by decide) ?_
            have e1 : gal σ a (n + 1) = gal σ a n := if_neg (fun q => q.elim c_42 (fun q => q c_54))
            rw [e1] at ih
            exact v_sub rfl ih
          · refine v_iload_n hC dX5_goingAlong_57 rfl ?_
            refine v_iconst (v := nI 1) hC dX5_goingAlong_58 (by decide) ?_
            refine v_iload hC dX5_goingAlong_59 rfl ?_
            refine v_ishlN hC dX5_goingAlong_61 (by omega) ?_
            refine v_iorN hC dX5_goingAlong_62 ?_
            refine v_istore_n hC dX5_goingAlong_63 (by decide) ?_
            refine v_lload_n hC dX5_goingAlong_64 rfl ?_
            refine v_aload hC dX5_goingAlong_65 rfl ?_
            refine gf_X5_142 hC dX5_goingAlong_67 hO (by first | omega | exact and_lt (hB _ _ _ _ rfl) | exact hB _ _ _ _ rfl | assumption | decide) ?_
            refine v_lorN hC dX5_goingAlong_70 ?_
            refine v_lstore_n hC dX5_goingAlong_71 (by decide) ?_
            refine v_iincN hC dX5_goingAlong_72 rfl (by decide) ?_
            refine v_goto (tgt := 7) hC dX5_goingAlong_75 (by decide) ?_
            have e1 : gal σ a (n + 1) = ((gal σ a n).1 ||| 1 * 2 ^ σ 13 1 0 n, (gal σ a n).2 ||| σ 6 (σ 13 1 0 n) 0 3) := if_pos (.inr c_54)
            rw [e1] at ih
            exact v_sub rfl ih
  exact v_sub rfl (key 0 (Nat.zero_le _))

def k_along (σ : SG) (c : Int32) : OC := gR c (σ 0 0 0 0) eNSE fun c => if σ 6 c 0 1 ≠ 109 then .inl eISE else .inr (ipop (gal σ c (σ 12 1 0 0)).1, σ)
set_option maxHeartbeats 4000000 in
set_option maxRecDepth 100000 in
theorem c_X5_along {l : Launch} (hl0 : l.stackTraces = false) {G : GT} {ok : KF} {ad : AD} {σ : SG} (hO : OKC ok) (hB : BD σ) (c : Int32) : Ct l G 5 yX5_along cX5_along 2 (some .int) [.ref (ad 0 0 0), .int c] ok ad σ (oV (k_along σ c) ok ad) (oX (k_along σ c) ok ad σ) 4 24 := by
  refine Ct.mk (by decide +kernel) hl0 (Nat.le_of_ble_eq_true rfl) (fun X hX hC hM => ?_)
  subst hX
  refine v_aload_n hC dX5_along_0 rfl ?_
  refine v_iload_n hC dX5_along_1 rfl ?_
  refine v_callV hC lk_X5_82 dX5_along_2 (c_X5_changeOf hl0 hO hB c) (by decide) (by decide) hO.k0 rfl rfl rfl rfl (Nat.le_of_ble_eq_true rfl) (by omega) (by omega) (fun v μ h => ?_) (fun E μ h => ?_)
  rotate_left
  · obtain ⟨rfl, rfl, he⟩ := h
    exact v_out hC hM (by omega) (by omega) ⟨by simp [k_along, gR, he], rfl⟩
  obtain ⟨rfl, c, h_c, rfl, b_c, b2_c, rfl⟩ := h
  dsimp only
  refine v_callS hC lk_X5_226 dX5_along_5 (c_X5_checkMerged hl0 hO hB b2_c) (by decide) (by decide) rfl rfl (Nat.le_of_ble_eq_true rfl) (by omega) (by omega) (fun v μ h => ?_) (fun E μ h => ?_)
  rotate_left
  · obtain ⟨rfl, rfl, he⟩ := h
    exact v_out hC hM (by omega) (by omega) ⟨by simp [k_along, gR, h_c, he], rfl⟩
  obtain ⟨rfl, rfl, hop⟩ := h
  dsimp only
  refine v_aload_n hC dX5_along_8 rfl ?_
  refine v_iload_n hC dX5_along_9 rfl ?_
  refine v_callV_r0 hC lk_X5_229 dX5_along_10 (c_X5_goingAlong hl0 hO hB b2_c) (by decide) (by decide) hO.k0 rfl rfl rfl rfl (Nat.le_of_ble_eq_true rfl) (by omega) (by omega) ?_
  refine v_callS_r0 hC lk_X5_232 dX5_along_13 (c_J6_bitCount_0f7a4 hl0 (Nat.lt_trans (gal_lt hB c _).1 (by decide))) (by decide) (by decide) rfl rfl (Nat.le_of_ble_eq_true rfl) (by omega) (by omega) ?_
  refine v_iret hC hM dX5_along_16 (by omega) (by omega) ?_
  exact ⟨_, _, by simp [k_along, gR, h_c, hop], rfl, rfl⟩

/-- the trunk is good and is what the merged changes make it -/
def snd (σ : SG) : Bool := allB (fun d => apv σ (σ 15 0 0) d (nT σ)) 0 4 && allB (fun p => decide (σ 15 0 0 p = rpl σ p (σ 12 1 0 0))) 0 64

set_option maxHeartbeats 4000000 in
set_option maxRecDepth 100000 in
theorem c_X5_isSound {l : Launch} (hl0 : l.stackTraces = false) {G : GT} {ok : KF} {ad : AD} {σ : SG} (hO : OKC ok) (hB : BD σ) : Ct l G 4 yX5_isSound cX5_isSound 2 (some .boolean) [.ref (ad 0 0 0)] ok ad σ (Rt (some (iv (b2n (snd σ)))) ok ad σ) (NX) 0 0 := by
  refine Ct.mk (by decide +kernel) hl0 (Nat.le_of_ble_eq_true rfl) (fun X hX hC hM => ?_)
  subst hX
  refine v_iconst (v := nI 0) hC dX5_isSound_0 (by decide) ?_
  refine v_istore_n hC dX5_isSound_1 (by decide) ?_
  have second : (∀ q, q < 4 → apv σ (σ 15 0 0) q (nT σ) = true) → V X G 0 0 ok ad σ [(0, .ref (ad 0 0 0))] 30 [] := by
    intro hd4
    refine v_iconst (v := nI 0) hC dX5_isSound_30 (by decide) ?_
    refine v_istore_n hC dX5_isSound_31 (by decide) ?_
    have key : ∀ p, p ≤ 64 → (∀ q, q < p → σ 15 0 0 q = rpl σ q (σ 12 1 0 0)) → V X G 0 0 ok ad σ [(0, .ref (ad 0 0 0)), (1, iv p)] 32 [] := by
      refine down (64) ?_ ?_
      · intro hq
        refine v_iload_n hC dX5_isSound_32 rfl ?_
        refine v_bipush (v := nI 64) hC dX5_isSound_33 (by decide) ?_
        refine v_icmp_geN (tgt := 60) hC dX5_isSound_35 (by decide) (by first | omega | exact hB _ _ _ _ rfl | exact hB.i _ _ _ _ rfl | assumption | exact b2n_31 _) (by first | omega | exact hB _ _ _ _ rfl | exact hB.i _ _ _ _ rfl | assumption | exact b2n_31 _) (fun c_35 => ?_) (fun c_35 => ?_)
        · refine v_iconst (v := nI 1) hC dX5_isSound_60 (by decide) ?_
          refine v_zret hC hM dX5_isSound_61 rfl (by omega) (by omega) ?_
          exact ⟨by rw [show snd σ = true from by unfold snd; rw [(allB_iff _ 0 4).mpr (fun q _ h => hd4 q (by omega)), (allB_iff _ 0 64).mpr (fun q _ h => decide_eq_true (hq q (by omega)))]; rfl] <;> rfl, rfl⟩
        · exact absurd c_35 (by omega)
      · intro p hp ih hq
        refine v_iload_n hC dX5_isSound_32 rfl ?_
        refine v_bipush (v := nI 64) hC dX5_isSound_33 (by decide) ?_
        refine v_icmp_geN (tgt := 60) hC dX5_isSound_35 (by decide) (by first | omega | exact hB _ _ _ _ rfl | exact hB.i _ _ _ _ rfl | assumption | exact b2n_31 _) (by first | omega | exact hB _ _ _ _ rfl | exact hB.i _ _ _ _ rfl | assumption | exact b2n_31 _) (fun c_35 => ?_) (fun c_35 => ?_)
        · exact absurd c_35 (by omega)
        · refine v_aload_n hC dX5_isSound_38 rfl ?_
          refine gf_X5_42 hC dX5_isSound_39 hO ?_
          refine v_iload_n hC dX5_isSound_42 rfl ?_
          refine al_15 hC dX5_isSound_43 hO (by first | omega | exact hB _ _ _ _ rfl | exact hB.i _ _ _ _ rfl | assumption | exact b2n_31 _) (by first | omega | exact hB _ _ _ _ rfl | exact hB.i _ _ _ _ rfl | assumption | exact b2n_31 _) ?_
          refine v_aload_n hC dX5_isSound_44 rfl ?_
          refine v_iload_n hC dX5_isSound_45 rfl ?_
          refine v_callV_r0 hC lk_X5_220 dX5_isSound_46 (c_X5_replayedValue hl0 hO hB hp) (by decide) (by decide) hO.k0 rfl rfl rfl rfl (Nat.le_of_ble_eq_true rfl) (by omega) (by omega) ?_
          have hr := rpl_lt hB p (σ 12 1 0 0)
          refine v_icmp_eqN (tgt := 54) hC dX5_isSound_49 (by decide) (by first | omega | exact hB _ _ _ _ rfl | exact hB.i _ _ _ _ rfl | assumption | exact b2n_31 _) (by first | omega | exact hB _ _ _ _ rfl | exact hB.i _ _ _ _ rfl | assumption | exact b2n_31 _) (fun c_49 => ?_) (fun c_49 => ?_)
          · refine v_iincN hC dX5_isSound_54 rfl (by decide) ?_
            refine v_goto (tgt := 32) hC dX5_isSound_57 (by decide) ?_
            refine v_sub rfl (ih (fun q h2 => ?_))
            by_cases e : q = p
            · subst e
              exact c_49
            · exact hq q (by omega)
          · refine v_iconst (v := nI 0) hC dX5_isSound_52 (by decide) ?_
            refine v_zret hC hM dX5_isSound_53 rfl (by omega) (by omega) ?_
            exact ⟨by rw [show snd σ = false from by unfold snd; rw [allB_no (f := fun p => decide (σ 15 0 0 p = rpl σ p (σ 12 1 0 0))) (q := p) (Nat.zero_le _) (by omega) (decide_eq_false c_49), Bool.and_false]] <;> rfl, rfl⟩
    exact v_sub rfl (key 0 (Nat.zero_le _) (fun q h => absurd h (by omega)))
  have key : ∀ d, d ≤ 4 → (∀ q, q < d → apv σ (σ 15 0 0) q (nT σ) = true) → V X G 0 0 ok ad σ [(0, .ref (ad 0 0 0)), (1, iv d)] 2 [] := by
    refine down (4) ?_ ?_
    · intro hq
      refine v_iload_n hC dX5_isSound_2 rfl ?_
      refine v_iconst (v := nI 4) hC dX5_isSound_3 (by decide) ?_
      refine v_icmp_geN (tgt := 30) hC dX5_isSound_4 (by decide) (by first | omega | exact hB _ _ _ _ rfl | exact hB.i _ _ _ _ rfl | assumption | exact b2n_31 _) (by first | omega | exact hB _ _ _ _ rfl | exact hB.i _ _ _ _ rfl | assumption | exact b2n_31 _) (fun c_4 => ?_) (fun c_4 => ?_)
      · exact v_sub rfl (second hq)
      · exact absurd c_4 (by omega)
    · intro d hp ih hq
      refine v_iload_n hC dX5_isSound_2 rfl ?_
      refine v_iconst (v := nI 4) hC dX5_isSound_3 (by decide) ?_
      refine v_icmp_geN (tgt := 30) hC dX5_isSound_4 (by decide) (by first | omega | exact hB _ _ _ _ rfl | exact hB.i _ _ _ _ rfl | assumption | exact b2n_31 _) (by first | omega | exact hB _ _ _ _ rfl | exact hB.i _ _ _ _ rfl | assumption | exact b2n_31 _) (fun c_4 => ?_) (fun c_4 => ?_)
      · exact absurd c_4 (by omega)
      · refine v_aload_n hC dX5_isSound_7 rfl ?_
        refine gf_X5_51 hC dX5_isSound_8 hO ?_
        refine v_iload_n hC dX5_isSound_11 rfl ?_
        refine v_aload_n hC dX5_isSound_12 rfl ?_
        refine gf_X5_42 hC dX5_isSound_13 hO ?_
        refine v_callVN_r0 hC lk_X5_251 dX5_isSound_16 (c_X4_allPass hl0 hO hB (w := 0) hp (by decide)) (by decide) (by decide) hO.k16 rfl rfl rfl rfl (Nat.le_of_ble_eq_true rfl) (by omega) (by omega) ?_
        rw [aps_apv]
        refine v_if_neN (tgt := 24) hC dX5_isSound_19 (by decide) (by first | omega | exact hB _ _ _ _ rfl | exact hB.i _ _ _ _ rfl | assumption | exact b2n_31 _) (fun c_19 => ?_) (fun c_19 => ?_)
        · refine v_iincN hC dX5_isSound_24 rfl (by decide) ?_
          refine v_goto (tgt := 2) hC dX5_isSound_27 (by decide) ?_
          refine v_sub rfl (ih (fun q h2 => ?_))
          by_cases e : q = d
          · subst e
            exact b2n_1 c_19
          · exact hq q (by omega)
        · refine v_iconst (v := nI 0) hC dX5_isSound_22 (by decide) ?_
          refine v_zret hC hM dX5_isSound_23 rfl (by omega) (by omega) ?_
          exact ⟨by rw [show snd σ = false from by unfold snd; rw [allB_no (q := d) (Nat.zero_le _) (by omega) (b2n_0 c_19)]; rfl] <;> rfl, rfl⟩
  exact v_sub rfl (key 0 (Nat.zero_le _) (fun q h => absurd h (by omega)))

