set_option maxHeartbeats 4000000 in
set_option maxRecDepth 100000 in
theorem c_J8_newLength_cabcc {l : Launch} (hl0 : l.stackTraces = false) {G : GT} {ok : KF} {ad : AD} {σ : SG} {o a b : Nat} (h0 : 0 < o + max a b) (h1 : o + max a b ≤ 100000) (ha : a < 2 ^ 31) (hb : b < 2 ^ 31) : Ct l G 1 yJ8_newLength_cabcc cJ8_newLength_cabcc 4 (some .int) [iv o, iv a, iv b] ok ad σ (Rt (some (iv (o + max a b))) ok ad σ) (NX) 0 0 := by
  refine Ct.mk (by decide +kernel) hl0 (Nat.le_of_ble_eq_true rfl) (fun X hX hC hM => ?_)
  subst hX
  refine v_iload_n hC dJ8_newLength_cabcc_0 rfl ?_
  refine v_iload_n hC dJ8_newLength_cabcc_1 rfl ?_
  refine v_iload_n hC dJ8_newLength_cabcc_2 rfl ?_
  refine v_max (a := a) (b := b) hC dJ8_newLength_cabcc_3 wm_4 ha hb (Nat.le_of_ble_eq_true rfl) (by omega) (by omega) ?_
  refine v_iaddN hC dJ8_newLength_cabcc_6 ?_
  refine v_istore_n hC dJ8_newLength_cabcc_7 (by decide) ?_
  refine v_iconst (v := nI 0) hC dJ8_newLength_cabcc_8 (by decide) ?_
  refine v_iload_n hC dJ8_newLength_cabcc_9 rfl ?_
  refine v_icmp_geN (tgt := 21) hC dJ8_newLength_cabcc_10 (by decide) (by first | omega | decide) (by first | omega | decide) (fun c_10 => ?_) (fun c_10 => ?_)
  · exact absurd c_10 (by omega)
  · refine v_iload_n hC dJ8_newLength_cabcc_13 rfl ?_
    refine v_ldcI (v := nI 2147483639) hC dJ8_newLength_cabcc_14 cn_200 ?_
    refine v_icmp_gtN (tgt := 21) hC dJ8_newLength_cabcc_16 (by decide) (by first | omega | decide) (by first | omega | decide) (fun c_16 => ?_) (fun c_16 => ?_)
    · exact absurd c_16 (by omega)
    · refine v_iload_n hC dJ8_newLength_cabcc_19 rfl ?_
      refine v_iret hC hM dJ8_newLength_cabcc_20 (by omega) (by omega) ?_
      exact ⟨rfl, rfl⟩

theorem v_stk {X : XT} {G : GT} {kc ks : Nat} {ok : KF} {ad : AD} {σ : SG} {l : List (Nat × Value)} {pc : Nat} {st st' : List Value} (h : st' = st) (k : V X G kc ks ok ad σ l pc st') : V X G kc ks ok ad σ l pc st := h ▸ k
/-- an array's room grown -/
def cpE (σ : SG) (e e' : Nat) : Nat → Nat := fun x => if x = 9000 then e' else if x < e then σ 55 e 0 x else 0
def nwE (e' : Nat) : Nat → Nat := fun x => if x = 9000 then e' else 0
theorem nwE_row (e' : Nat) (he : e' ≤ 4800) (cA : ClassId) : vp_cell cA (e', .inr (.inr (.inr (.inr fun x => rf (nwE e' x))))) = arrV cA e' (fun _ => .null) := by
  rw [vp_cell_q]
  exact arrV_congr (fun j hj => by
    unfold nwE
    rw [if_neg (by omega)]
    rfl)
set_option maxHeartbeats 4000000 in
set_option maxRecDepth 100000 in
theorem c_J7_copyOf_6403c {l : Launch} (hl0 : l.stackTraces = false) {G : GT} {ok : KF} {ad : AD} {σ : SG} (hQ : OKM ok) {e e' : Nat} (hk : ok 55 e 0) (h9 : σ 55 e 0 9000 = e) (hee : e ≤ e') (he : e' ≤ 4800) (hn : ¬ ok 55 e' 0) (hL : ∀ x, x < e → ∀ y, σ 55 e 0 x = y + 1 → ∃ c, ok 56 c 0 ∧ y = ad 56 c 0) : Ct l G 2 yJ7_copyOf_6403c cJ7_copyOf_6403c 4 (some (.array (.object "java/lang/Object"))) [.ref (ad 55 e 0), iv e', .ref (G.2.2.2 1)] ok ad σ (fun v μ => ∃ a, v = some (.ref a) ∧ μ = (okA ok 55 e' 0, adA ad 55 e' 0 a, upr σ 55 e' 0 (cpE σ e e'))) (NX) 1 e' := by
  refine Ct.mk (by decide +kernel) hl0 (Nat.le_of_ble_eq_true rfl) (fun X hX hC hM => ?_)
  subst hX
  have hd : ∀ a k' i' j', ok k' i' j' → ∀ s, enck G.2.2.1 (adA ad 55 e' 0 a) k' i' j' s = enck G.2.2.1 ad k' i' j' s := fun a k' i' j' _ s => enck_dyn (.inr (.inr (.inr (by decide)))) k' i' j' s
  have hne : ¬ (55 = 55 ∧ e = e' ∧ (0 : Nat) = 0) := fun q => hn (by rw [← q.2.1]; exact hk)
  refine v_aload_n hC dJ7_copyOf_6403c_0 rfl ?_
  refine v_ldcM hC dJ7_copyOf_6403c_1 wg_6 ?_
  refine v_acmp_ne (rx := some (G.2.2.2 1)) (ry := some (G.2.2.2 1)) (tgt := 13) hC dJ7_copyOf_6403c_3 (by decide) (fun q => absurd rfl q) (fun _ => ?_)
  refine v_iload_n hC dJ7_copyOf_6403c_6 rfl ?_
  refine v_anew (C := "java/lang/Object") (a0 := (e', .inr (.inr (.inr (.inr fun x => rf (nwE e' x)))))) (σ1 := upr σ 55 e' 0 (nwE e')) 12 55 e' 0 hC dJ7_copyOf_6403c_7 wg_7 ao_O rfl (by omega) (by omega) (by omega) (by omega) hn hd (fun _ _ _ h => upr_off _ _ h) (fun a => by rw [upr_row]; rfl) (nwE_row e' he _) (fun a => ?_)
  refine v_goto (tgt := 24) hC dJ7_copyOf_6403c_10 (by decide) ?_
  refine v_astore_n hC dJ7_copyOf_6403c_24 (by decide) ?_
  refine v_aload_n hC dJ7_copyOf_6403c_25 rfl ?_
  refine v_iconst (v := nI 0) hC dJ7_copyOf_6403c_26 (by decide) ?_
  refine v_aload_n hC dJ7_copyOf_6403c_27 rfl ?_
  refine v_iconst (v := nI 0) hC dJ7_copyOf_6403c_28 (by decide) ?_
  refine v_aload_n hC dJ7_copyOf_6403c_29 rfl ?_
  have hsrc : upr σ 55 e' 0 (nwE e') 55 e 0 = σ 55 e 0 := upr_off _ _ hne
  have hadd : adA ad 55 e' 0 a 55 e 0 = ad 55 e 0 := adA_off _ _ hne
  have hkk : okA ok 55 e' 0 55 e 0 := .inl hk
  rw [show (Value.ref (ad 55 e 0)) = Value.ref (adA ad 55 e' 0 a 55 e 0) by rw [hadd]]
  refine v_alenN (N := e) (c := G.2.2.1 12) (a := .inr (.inr (.inr (.inr fun x => rf (σ 55 e 0 x))))) 12 rfl hC dJ7_copyOf_6403c_30 hkk (by rw [hsrc]; show eQ _ (σ 55 e 0 9000) _ = _; rw [h9]) ?_
  refine v_iload_n hC dJ7_copyOf_6403c_31 rfl ?_
  refine v_min (a := e) (b := e') hC dJ7_copyOf_6403c_32 wm_1 (by omega) (by omega) (Nat.le_of_ble_eq_true rfl) (by omega) (by omega) ?_
  rw [Nat.min_eq_left hee]
  have hada : adA ad 55 e' 0 a 55 e' 0 = a := adA_self _ _ _ _ _
  refine v_stk (st' := iv e :: iv 0 :: .ref (adA ad 55 e' 0 a 55 e' 0) :: iv 0 :: .ref (adA ad 55 e' 0 a 55 e 0) :: []) (by rw [hada]) ?_
  refine v_copyq (k := 55) (i := e) (j := 0) (k2 := 55) (i2 := e') (j2 := 0) (m := e) (N := e) (N2 := e') (f := fun x => rf (σ 55 e 0 x)) (g := fun x => rf (nwE e' x)) (f1 := fun x => rf (cpE σ e e' x)) (σ1 := upr σ 55 e' 0 (cpE σ e e')) (ad := adA ad 55 e' 0 a) hC dJ7_copyOf_6403c_35 ac_J7_150 hkk (.inr ⟨rfl, rfl, rfl⟩) (fun q => hne ⟨rfl, q.2.1.symm, rfl⟩) (by rw [hsrc]; show eQ _ (σ 55 e 0 9000) _ = _; rw [h9]) (by rw [upr_row]; rfl) (Nat.le_refl _) hee (by omega) (fun x hx y hy => ?_) (fun _ _ _ h => by rw [upr_off _ _ h, upr_off _ _ h]) (by rw [upr_row]; rfl) (fun x => ?_) (Nat.le_of_ble_eq_true rfl) ?_
  · obtain ⟨c, g1, g2⟩ := hL x hx y (by
      cases hz : σ 55 e 0 x with
      | zero => rw [hz] at hy; cases hy
      | succ z => rw [hz] at hy; cases hy; rfl)
    refine ⟨56, c, 0, _, .inl g1, by rw [adA_off _ _ (by omega)]; exact g2, rfl⟩
  · unfold cpE nwE
    by_cases q : x < e
    · rw [if_neg (by omega), if_pos q, if_pos q]
    · rw [if_neg (c := x < e) q, if_neg (c := x < e) q]
  refine v_aload_n hC dJ7_copyOf_6403c_38 rfl ?_
  refine v_aret hC hM dJ7_copyOf_6403c_39 (.inr ⟨_, rfl⟩) (.inr ⟨_, rfl⟩) (by omega) (by omega) ?_
  exact ⟨a, rfl, rfl⟩

set_option maxHeartbeats 4000000 in
set_option maxRecDepth 100000 in
theorem c_J7_copyOf_1904c {l : Launch} (hl0 : l.stackTraces = false) {G : GT} {ok : KF} {ad : AD} {σ : SG} (hQ : OKM ok) {e e' : Nat} (hk : ok 55 e 0) (h9 : σ 55 e 0 9000 = e) (hee : e ≤ e') (he : e' ≤ 4800) (hn : ¬ ok 55 e' 0) (hL : ∀ x, x < e → ∀ y, σ 55 e 0 x = y + 1 → ∃ c, ok 56 c 0 ∧ y = ad 56 c 0) : Ct l G 3 yJ7_copyOf_1904c cJ7_copyOf_1904c 2 (some (.array (.object "java/lang/Object"))) [.ref (ad 55 e 0), iv e'] ok ad σ (fun v μ => ∃ a, v = some (.ref a) ∧ μ = (okA ok 55 e' 0, adA ad 55 e' 0 a, upr σ 55 e' 0 (cpE σ e e'))) (NX) 1 e' := by
  refine Ct.mk (by decide +kernel) hl0 (Nat.le_of_ble_eq_true rfl) (fun X hX hC hM => ?_)
  subst hX
  refine v_aload_n hC dJ7_copyOf_1904c_0 rfl ?_
  refine v_iload_n hC dJ7_copyOf_1904c_1 rfl ?_
  refine v_aload_n hC dJ7_copyOf_1904c_2 rfl ?_
  refine v_getC (k := 55) (i := e) (j := 0) (x := (e, .inr (.inr (.inr (.inr fun x => rf (σ 55 e 0 x)))))) hC dJ7_copyOf_1904c_3 wg_1 hk (by show eQ _ (σ 55 e 0 9000) _ = _; rw [h9]) (Nat.le_of_ble_eq_true rfl) ?_
  refine v_callS hC lk_J7_300 dJ7_copyOf_1904c_6 (c_J7_copyOf_6403c hl0 hQ hk h9 hee he hn hL) (by decide) (by decide) rfl rfl (Nat.le_of_ble_eq_true rfl) (by omega) (by omega) (fun v μ h => ?_) (fun _ _ h => h.elim)
  obtain ⟨a, rfl, rfl⟩ := h
  dsimp only
  refine v_aret hC hM dJ7_copyOf_1904c_9 (.inr ⟨_, rfl⟩) (.inr ⟨_, rfl⟩) (by omega) (by omega) ?_
  exact ⟨a, rfl, rfl⟩

def gw0 (σ : SG) (a : Nat) : SG := up (upr σ 55 10 0 (nwE 10)) 54 0 0 1 (a + 1)
def gwN (σ : SG) (e a : Nat) : SG := up (upr σ 55 (e + e / 2) 0 (cpE σ e (e + e / 2))) 54 0 0 1 (a + 1)
set_option maxHeartbeats 4000000 in
set_option maxRecDepth 100000 in
theorem c_grow1_0 {l : Launch} (hl0 : l.stackTraces = false) {G : GT} {ok : KF} {ad : AD} {σ : SG} (hQ : OKM ok) (h1 : σ 54 0 0 1 = G.2.2.2 0 + 1) (hn : ¬ ok 55 10 0) : Ct l G 4 yJx4a65c_grow_92f84 cJx4a65c_grow_92f84 4 (some (.array (.object "java/lang/Object"))) [.ref (ad 54 0 0), iv 1] ok ad σ (fun v μ => ∃ a, v = some (.ref a) ∧ μ = (okA ok 55 10 0, adA ad 55 10 0 a, gw0 σ a)) (NX) 1 10 := by
  refine Ct.mk (by decide +kernel) hl0 (Nat.le_of_ble_eq_true rfl) (fun X hX hC hM => ?_)
  subst hX
  have hd : ∀ a k' i' j', ok k' i' j' → ∀ s, enck G.2.2.1 (adA ad 55 10 0 a) k' i' j' s = enck G.2.2.1 ad k' i' j' s := fun a k' i' j' _ s => enck_dyn (.inr (.inr (.inr (by decide)))) k' i' j' s
  have hQ1 : OKM (okA ok 55 10 0) := fun k i j h => .inl (hQ k i j h)
  refine v_aload_n hC dJx4a65c_grow_92f84_0 rfl ?_
  refine gf_Jx4a65c_9 hC dJx4a65c_grow_92f84_1 hQ ?_
  rw [h1]
  refine v_alen0 hC dJx4a65c_grow_92f84_4 ?_
  refine v_istore_n hC dJx4a65c_grow_92f84_5 (by decide) ?_
  refine v_iload_n hC dJx4a65c_grow_92f84_6 rfl ?_
  refine v_if_gtN (tgt := 20) hC dJx4a65c_grow_92f84_7 (by decide) (by first | omega | decide) (fun c_7 => ?_) (fun c_7 => ?_)
  · exact absurd c_7 (by omega)
  · refine v_aload_n hC dJx4a65c_grow_92f84_10 rfl ?_
    refine gf_Jx4a65c_9 hC dJx4a65c_grow_92f84_11 hQ ?_
    rw [h1]
    refine v_gets39 hC dJx4a65c_grow_92f84_14 ?_
    refine v_acmp_eq (rx := some (G.2.2.2 0)) (ry := some (G.2.2.2 0)) (tgt := 45) hC dJx4a65c_grow_92f84_17 (by decide) (fun _ => ?_) (fun q => absurd rfl q)
    refine v_aload_n hC dJx4a65c_grow_92f84_45 rfl ?_
    refine v_bipush (v := nI 10) hC dJx4a65c_grow_92f84_46 (by decide) ?_
    refine v_iload_n hC dJx4a65c_grow_92f84_48 rfl ?_
    refine v_max (a := 10) (b := 1) hC dJx4a65c_grow_92f84_49 wm_7 (by decide) (by decide) (Nat.le_of_ble_eq_true rfl) (by omega) (by omega) ?_
    rw [show max 10 1 = 10 from rfl]
    refine v_anew (C := "java/lang/Object") (a0 := (10, .inr (.inr (.inr (.inr fun x => rf (nwE 10 x)))))) (σ1 := upr σ 55 10 0 (nwE 10)) 12 55 10 0 hC dJx4a65c_grow_92f84_52 wg_9 ao_O rfl (by decide) (by decide) (by omega) (by omega) hn hd (fun _ _ _ h => upr_off _ _ h) (fun a => by rw [upr_row]; rfl) (nwE_row 10 (by decide) _) (fun a => ?_)
    refine v_dup_x1 hC dJx4a65c_grow_92f84_55 rfl rfl ?_
    refine pf_Jx4a65c_9 (ad := adA ad 55 10 0 a) hC dJx4a65c_grow_92f84_56 hQ1 ?_
    refine v_aret hC hM dJx4a65c_grow_92f84_59 (.inr ⟨_, rfl⟩) (.inr ⟨_, rfl⟩) (by omega) (by omega) ?_
    exact ⟨a, rfl, rfl⟩

set_option maxHeartbeats 4000000 in
set_option maxRecDepth 100000 in
theorem c_grow1_N {l : Launch} (hl0 : l.stackTraces = false) {G : GT} {ok : KF} {ad : AD} {σ : SG} (hQ : OKM ok) {e : Nat} (he10 : 10 ≤ e) (he : e ≤ 3200) (hk : ok 55 e 0) (h1 : σ 54 0 0 1 = ad 55 e 0 + 1) (h9 : σ 55 e 0 9000 = e) (hn : ¬ ok 55 (e + e / 2) 0) (hL : ∀ x, x < e → ∀ y, σ 55 e 0 x = y + 1 → ∃ c, ok 56 c 0 ∧ y = ad 56 c 0) : Ct l G 4 yJx4a65c_grow_92f84 cJx4a65c_grow_92f84 4 (some (.array (.object "java/lang/Object"))) [.ref (ad 54 0 0), iv (e + 1)] ok ad σ (fun v μ => ∃ a, v = some (.ref a) ∧ μ = (okA ok 55 (e + e / 2) 0, adA ad 55 (e + e / 2) 0 a, gwN σ e a)) (NX) 1 (e + e / 2) := by
  refine Ct.mk (by decide +kernel) hl0 (Nat.le_of_ble_eq_true rfl) (fun X hX hC hM => ?_)
  subst hX
  have hQ1 : OKM (okA ok 55 (e + e / 2) 0) := fun k i j h => .inl (hQ k i j h)
  refine v_aload_n hC dJx4a65c_grow_92f84_0 rfl ?_
  refine gf_Jx4a65c_9 hC dJx4a65c_grow_92f84_1 hQ ?_
  rw [h1]
  refine v_alenN (N := e) (c := G.2.2.1 12) (a := .inr (.inr (.inr (.inr fun x => rf (σ 55 e 0 x))))) 12 rfl hC dJx4a65c_grow_92f84_4 hk (by show eQ _ (σ 55 e 0 9000) _ = _; rw [h9]) ?_
  refine v_istore_n hC dJx4a65c_grow_92f84_5 (by decide) ?_
  refine v_iload_n hC dJx4a65c_grow_92f84_6 rfl ?_
  refine v_if_gtN (tgt := 20) hC dJx4a65c_grow_92f84_7 (by decide) (by first | omega | decide) (fun c_7 => ?_) (fun c_7 => ?_)
  · refine v_iload_n hC dJx4a65c_grow_92f84_20 rfl ?_
    refine v_iload_n hC dJx4a65c_grow_92f84_21 rfl ?_
    refine v_iload_n hC dJx4a65c_grow_92f84_22 rfl ?_
    refine v_isubN hC dJx4a65c_grow_92f84_23 (by first | omega | decide) ?_
    rw [show e + 1 - e = 1 by omega]
    refine v_iload_n hC dJx4a65c_grow_92f84_24 rfl ?_
    refine v_iconst (v := nI 1) hC dJx4a65c_grow_92f84_25 (by decide) ?_
    refine v_ishr hC dJx4a65c_grow_92f84_26 ?_
    rw [shr_1 e (by omega)]
    refine v_callS_r0 hC lk_Jx4a65c_73 dJx4a65c_grow_92f84_27 (c_J8_newLength_cabcc hl0 (o := e) (a := 1) (b := e / 2) (by omega) (by omega) (by decide) (by omega)) (by decide) (by decide) rfl rfl (Nat.le_of_ble_eq_true rfl) (by omega) (by omega) ?_
    rw [Nat.max_eq_right (show 1 ≤ e / 2 by omega)]
    refine v_istore_n hC dJx4a65c_grow_92f84_30 (by decide) ?_
    refine v_aload_n hC dJx4a65c_grow_92f84_31 rfl ?_
    refine v_aload_n hC dJx4a65c_grow_92f84_32 rfl ?_
    refine gf_Jx4a65c_9 hC dJx4a65c_grow_92f84_33 hQ ?_
    rw [h1]
    refine v_iload_n hC dJx4a65c_grow_92f84_36 rfl ?_
    refine v_callS hC lk_Jx4a65c_66 dJx4a65c_grow_92f84_37 (c_J7_copyOf_1904c hl0 hQ hk h9 (by omega) (by omega) hn hL) (by decide) (by decide) rfl rfl (Nat.le_of_ble_eq_true rfl) (by omega) (by omega) (fun v μ h => ?_) (fun _ _ h => h.elim)
    obtain ⟨a, rfl, rfl⟩ := h
    dsimp only
    refine v_dup_x1 hC dJx4a65c_grow_92f84_40 rfl rfl ?_
    refine pf_Jx4a65c_9 (ad := adA ad 55 (e + e / 2) 0 a) hC dJx4a65c_grow_92f84_41 hQ1 ?_
    refine v_aret hC hM dJx4a65c_grow_92f84_44 (.inr ⟨_, rfl⟩) (.inr ⟨_, rfl⟩) (by omega) (by omega) ?_
    exact ⟨a, rfl, rfl⟩
  · exact absurd c_7 (by omega)

set_option maxHeartbeats 4000000 in
set_option maxRecDepth 100000 in
theorem c_grow_0 {l : Launch} (hl0 : l.stackTraces = false) {G : GT} {ok : KF} {ad : AD} {σ : SG} (hQ : OKM ok) (h2 : σ 54 0 0 2 = 0) (h1 : σ 54 0 0 1 = G.2.2.2 0 + 1) (hn : ¬ ok 55 10 0) : Ct l G 5 yJx4a65c_grow_d5877 cJx4a65c_grow_d5877 1 (some (.array (.object "java/lang/Object"))) [.ref (ad 54 0 0)] ok ad σ (fun v μ => ∃ a, v = some (.ref a) ∧ μ = (okA ok 55 10 0, adA ad 55 10 0 a, gw0 σ a)) (NX) 1 10 := by
  refine Ct.mk (by decide +kernel) hl0 (Nat.le_of_ble_eq_true rfl) (fun X hX hC hM => ?_)
  subst hX
  refine v_aload_n hC dJx4a65c_grow_d5877_0 rfl ?_
  refine v_aload_n hC dJx4a65c_grow_d5877_1 rfl ?_
  refine gf_Jx4a65c_48 hC dJx4a65c_grow_d5877_2 hQ ?_
  rw [h2]
  refine v_iconst (v := nI 1) hC dJx4a65c_grow_d5877_5 (by decide) ?_
  refine v_iaddN hC dJx4a65c_grow_d5877_6 ?_
  refine v_callV hC lk_Jx4a65c_69 dJx4a65c_grow_d5877_7 (c_grow1_0 hl0 hQ h1 hn) (by decide) (by decide) hQ.k54 rfl rfl rfl rfl (Nat.le_of_ble_eq_true rfl) (by omega) (by omega) (fun v μ h => ?_) (fun _ _ h => h.elim)
  obtain ⟨a, rfl, rfl⟩ := h
  dsimp only
  refine v_aret hC hM dJx4a65c_grow_d5877_10 (.inr ⟨_, rfl⟩) (.inr ⟨_, rfl⟩) (by omega) (by omega) ?_
  exact ⟨a, rfl, rfl⟩

set_option maxHeartbeats 4000000 in
set_option maxRecDepth 100000 in
theorem c_grow_N {l : Launch} (hl0 : l.stackTraces = false) {G : GT} {ok : KF} {ad : AD} {σ : SG} (hQ : OKM ok) {e : Nat} (h2 : σ 54 0 0 2 = e) (he10 : 10 ≤ e) (he : e ≤ 3200) (hk : ok 55 e 0) (h1 : σ 54 0 0 1 = ad 55 e 0 + 1) (h9 : σ 55 e 0 9000 = e) (hn : ¬ ok 55 (e + e / 2) 0) (hL : ∀ x, x < e → ∀ y, σ 55 e 0 x = y + 1 → ∃ c, ok 56 c 0 ∧ y = ad 56 c 0) : Ct l G 5 yJx4a65c_grow_d5877 cJx4a65c_grow_d5877 1 (some (.array (.object "java/lang/Object"))) [.ref (ad 54 0 0)] ok ad σ (fun v μ => ∃ a, v = some (.ref a) ∧ μ = (okA ok 55 (e + e / 2) 0, adA ad 55 (e + e / 2) 0 a, gwN σ e a)) (NX) 1 (e + e / 2) := by
  refine Ct.mk (by decide +kernel) hl0 (Nat.le_of_ble_eq_true rfl) (fun X hX hC hM => ?_)
  subst hX
  refine v_aload_n hC dJx4a65c_grow_d5877_0 rfl ?_
  refine v_aload_n hC dJx4a65c_grow_d5877_1 rfl ?_
  refine gf_Jx4a65c_48 hC dJx4a65c_grow_d5877_2 hQ ?_
  rw [h2]
  refine v_iconst (v := nI 1) hC dJx4a65c_grow_d5877_5 (by decide) ?_
  refine v_iaddN hC dJx4a65c_grow_d5877_6 ?_
  refine v_callV hC lk_Jx4a65c_69 dJx4a65c_grow_d5877_7 (c_grow1_N hl0 hQ he10 he hk h1 h9 hn hL) (by decide) (by decide) hQ.k54 rfl rfl rfl rfl (Nat.le_of_ble_eq_true rfl) (by omega) (by omega) (fun v μ h => ?_) (fun _ _ h => h.elim)
  obtain ⟨a, rfl, rfl⟩ := h
  dsimp only
  refine v_aret hC hM dJx4a65c_grow_d5877_10 (.inr ⟨_, rfl⟩) (.inr ⟨_, rfl⟩) (by omega) (by omega) ?_
  exact ⟨a, rfl, rfl⟩

