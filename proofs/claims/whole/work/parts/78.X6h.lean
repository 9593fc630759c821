/-- a cell under another key -/
theorem v_ren {X : XT} {G : GT} {kc ks : Nat} {ok : KF} {ad : AD} {σ1 σ2 : SG} {l : List (Nat × Value)} {pc : Nat} {st : List Value} {k1 i1 j1 k2 i2 j2 a : Nat} (hn1 : ¬ ok k1 i1 j1) (hn2 : ¬ ok k2 i2 j2) (hd1 : dynk k1) (hd2 : dynk k2) (he : enck G.2.2.1 ad k2 i2 j2 (σ2 k2 i2 j2) = enck G.2.2.1 ad k1 i1 j1 (σ1 k1 i1 j1)) (ho : ∀ k i j, ok k i j → σ2 k i j = σ1 k i j)
    (kk : V X G kc ks (okA ok k2 i2 j2) (adA ad k2 i2 j2 a) σ2 l pc st) : V X G kc ks (okA ok k1 i1 j1) (adA ad k1 i1 j1 a) σ1 l pc st := fun H locs ls hR hS hl => by
  have key1 : ∀ k i j, ok k i j → ¬ (k = k1 ∧ i = i1 ∧ j = j1) := fun k i j q e => hn1 (by obtain ⟨rfl, rfl, rfl⟩ := e; exact q)
  have key2 : ∀ k i j, ok k i j → ¬ (k = k2 ∧ i = i2 ∧ j = j2) := fun k i j q e => hn2 (by obtain ⟨rfl, rfl, rfl⟩ := e; exact q)
  refine kk H locs ls ⟨fun k i j q => ?_, fun k i j k' i' j' q q' e => ?_⟩ hS hl
  · rcases q with q | ⟨rfl, rfl, rfl⟩
    · have h1 := hR.1 k i j (.inl q)
      rw [adA_off ad a (key1 _ _ _ q), enck_dyn hd1] at h1
      rw [adA_off ad a (key2 _ _ _ q), enck_dyn hd2, ho _ _ _ q]
      exact h1
    · have h1 := hR.1 k1 i1 j1 (.inr ⟨rfl, rfl, rfl⟩)
      rw [adA_self, enck_dyn hd1] at h1
      rw [adA_self, enck_dyn hd2, he]
      exact h1
  · have sep : ∀ k i j, ok k i j → ad k i j ≠ a := fun k i j q z => key1 k i j q (hR.2 k i j k1 i1 j1 (.inl q) (.inr ⟨rfl, rfl, rfl⟩) (by rw [adA_self, adA_off ad a (key1 _ _ _ q)]; exact z))
    rcases q with q | ⟨rfl, rfl, rfl⟩ <;> rcases q' with q' | ⟨rfl, rfl, rfl⟩
    · rw [adA_off ad a (key2 _ _ _ q), adA_off ad a (key2 _ _ _ q')] at e
      exact hR.2 _ _ _ _ _ _ (.inl q) (.inl q') (by rw [adA_off ad a (key1 _ _ _ q), adA_off ad a (key1 _ _ _ q')]; exact e)
    · rw [adA_off ad a (key2 _ _ _ q), adA_self] at e
      exact absurd e (sep _ _ _ q)
    · rw [adA_off ad a (key2 _ _ _ q'), adA_self] at e
      exact absurd e.symm (sep _ _ _ q')
    · exact ⟨rfl, rfl, rfl⟩
def clS1 (σ : SG) (e p : Nat) : SG := upr (up σ 54 0 0 2 0) 55 e 0 (fun x => if x < p then 0 else σ 55 e 0 x)
theorem clS1_0 (σ : SG) (e : Nat) : clS1 σ e 0 = up σ 54 0 0 2 0 := by
  unfold clS1
  have : (fun x => if x < 0 then 0 else σ 55 e 0 x) = (up σ 54 0 0 2 0) 55 e 0 := by
    funext x
    rw [if_neg (by omega), up_k (by decide)]
  rw [this]
  exact upr_id _ 55 e 0
theorem clS1_s (σ : SG) (e p : Nat) : clS1 σ e (p + 1) = up (clS1 σ e p) 55 e 0 p 0 := by
  unfold clS1
  rw [upr_up]
  congr 1
  funext x
  by_cases h : x = p
  · rw [if_pos h, if_pos (by omega)]
  · rw [if_neg h]
    have : (x < p + 1) ↔ (x < p) := by omega
    simp only [this]
theorem clS1_row (σ : SG) (e p x : Nat) : clS1 σ e p 55 e 0 x = if x < p then 0 else σ 55 e 0 x := by
  unfold clS1
  rw [upr_same]
/-- the list emptied: what is then -/
def ClrP (G : GT) (ok : KF) (ad : AD) (σ : SG) (e : Nat) (μ : MT) : Prop := ∃ τ, μ = (ok, ad, mxS σ τ) ∧ BD (mxS σ τ) ∧ Arr G ok ad (mxS σ τ) [] e ∧ τ 30 0 0 5 = σ 30 0 0 5 ∧ τ 30 0 0 6 = σ 30 0 0 6
theorem ClrP.mk {G : GT} {ok : KF} {ad : AD} {σ σ' : SG} {e : Nat} (hs : ∀ k i j x, k ≠ 54 → k ≠ 55 → σ' k i j x = σ k i j x) (hB : BD σ') (h1 : Arr G ok ad σ' [] e) : ClrP G ok ad σ e (ok, ad, σ') := by
  have e3 : σ' = mxS σ σ' := mxS_of (fun k i j x q => hs k i j x (fun z => by subst z; cases q) (fun z => by subst z; cases q))
  exact ⟨σ', by rw [← e3], by rw [← e3]; exact hB, by rw [← e3]; exact h1, hs _ _ _ _ (by decide) (by decide), hs _ _ _ _ (by decide) (by decide)⟩
set_option maxHeartbeats 4000000 in
set_option maxRecDepth 100000 in
theorem c_alist_clear {l : Launch} (hl0 : l.stackTraces = false) {G : GT} {ok : KF} {ad : AD} {σ : SG} (hQ : OKM ok) (hB : BD σ) {K : List (List Nat)} {e : Nat} (hArr : Arr G ok ad σ K e) (hK : K.length ≤ 3100) (he : e ≤ 4700) : Ct l G 1 yJx4a65c_clear_da8c8 cJx4a65c_clear_da8c8 4 (none) [.ref (ad 54 0 0)] ok ad σ (fun v μ => v = none ∧ ClrP G ok ad σ e μ) (NX) 0 0 := by
  refine Ct.mk (by decide +kernel) hl0 (Nat.le_of_ble_eq_true rfl) (fun X hX hC hM => ?_)
  subst hX
  refine v_aload_n hC dJx4a65c_clear_da8c8_0 rfl ?_
  refine v_dup hC dJx4a65c_clear_da8c8_1 rfl ?_
  refine gf_Jx4a65c_63 hC dJx4a65c_clear_da8c8_2 hQ ?_
  refine v_iconst (v := nI 1) hC dJx4a65c_clear_da8c8_5 (by decide) ?_
  refine v_iaddN hC dJx4a65c_clear_da8c8_6 ?_
  refine pf_Jx4a65c_63 hC dJx4a65c_clear_da8c8_7 hQ ?_
  refine v_aload_n hC dJx4a65c_clear_da8c8_10 rfl ?_
  refine gf_Jx4a65c_9 hC dJx4a65c_clear_da8c8_11 hQ ?_
  have hBm : BD (up σ 54 0 0 0 (σ 54 0 0 0 + 1)) := BD.putp hB rfl
  generalize hσm : up σ 54 0 0 0 (σ 54 0 0 0 + 1) = σm at *
  have hmk : ∀ k i j x, k ≠ 54 → σm k i j x = σ k i j x := fun k i j x q => by rw [← hσm]; exact up_k q
  obtain ⟨hsz, hA⟩ := hArr
  have hszm : σm 54 0 0 2 = K.length := by rw [← hσm, up_x (by decide)]; exact hsz
  have h1m : σm 54 0 0 1 = σ 54 0 0 1 := by rw [← hσm, up_x (by decide)]
  rw [h1m]
  rcases hA with ⟨rfl, rfl, h1⟩ | ⟨h10, hk, h1, h9, hl, L, hL⟩
  · rw [h1]
    refine v_astore_n hC dJx4a65c_clear_da8c8_14 (by decide) ?_
    refine v_aload_n hC dJx4a65c_clear_da8c8_15 rfl ?_
    refine gf_Jx4a65c_48 hC dJx4a65c_clear_da8c8_16 hQ ?_
    rw [hszm]
    rw [show ([] : List (List Nat)).length = 0 from rfl]
    refine v_istore_n hC dJx4a65c_clear_da8c8_19 (by decide) ?_
    refine v_aload_n hC dJx4a65c_clear_da8c8_20 rfl ?_
    refine v_iconst (v := nI 0) hC dJx4a65c_clear_da8c8_21 (by decide) ?_
    refine v_dup_x1 hC dJx4a65c_clear_da8c8_22 rfl rfl ?_
    refine pf_Jx4a65c_48 hC dJx4a65c_clear_da8c8_23 hQ ?_
    refine v_istore_n hC dJx4a65c_clear_da8c8_26 (by decide) ?_
    refine v_iload_n hC dJx4a65c_clear_da8c8_27 rfl ?_
    refine v_iload_n hC dJx4a65c_clear_da8c8_28 rfl ?_
    refine v_icmp_geN (tgt := 42) hC dJx4a65c_clear_da8c8_29 (by decide) (by first | omega | decide) (by first | omega | decide) (fun c_29 => ?_) (fun c_29 => ?_)
    · refine v_vret hC hM dJx4a65c_clear_da8c8_42 (by omega) (by omega) ?_
      refine ⟨rfl, ClrP.mk (fun k i j x q1 q2 => by rw [up_k q1]; exact hmk _ _ _ _ q1) (BD.putp hBm rfl) ⟨up_same _ _ _ _ _ _, .inl ⟨rfl, rfl, ?_⟩⟩⟩
      rw [up_x (by decide), h1m]
      exact h1
    · exact absurd c_29 (by decide)
  · rw [h1]
    refine v_astore_n hC dJx4a65c_clear_da8c8_14 (by decide) ?_
    refine v_aload_n hC dJx4a65c_clear_da8c8_15 rfl ?_
    refine gf_Jx4a65c_48 hC dJx4a65c_clear_da8c8_16 hQ ?_
    rw [hszm]
    refine v_istore_n hC dJx4a65c_clear_da8c8_19 (by decide) ?_
    refine v_aload_n hC dJx4a65c_clear_da8c8_20 rfl ?_
    refine v_iconst (v := nI 0) hC dJx4a65c_clear_da8c8_21 (by decide) ?_
    refine v_dup_x1 hC dJx4a65c_clear_da8c8_22 rfl rfl ?_
    refine pf_Jx4a65c_48 hC dJx4a65c_clear_da8c8_23 hQ ?_
    refine v_istore_n hC dJx4a65c_clear_da8c8_26 (by decide) ?_
    have key : ∀ p, p ≤ K.length → V X G 0 0 ok ad (clS1 σm e p) [(0, .ref (ad 54 0 0)), (1, .ref (ad 55 e 0)), (2, iv K.length), (3, iv p)] 27 [] := by
      refine down (K.length) ?_ ?_
      · refine v_iload_n hC dJx4a65c_clear_da8c8_27 rfl ?_
        refine v_iload_n hC dJx4a65c_clear_da8c8_28 rfl ?_
        refine v_icmp_geN (tgt := 42) hC dJx4a65c_clear_da8c8_29 (by decide) (by first | omega | decide) (by first | omega | decide) (fun c_29 => ?_) (fun c_29 => ?_)
        · refine v_vret hC hM dJx4a65c_clear_da8c8_42 (by omega) (by omega) ?_
          refine ⟨rfl, ClrP.mk (fun k i j x q1 q2 => ?_) ?_ ⟨?_, .inr ⟨h10, hk, ?_, ?_, Nat.zero_le _, fun _ => 0, fun t ht => absurd ht (Nat.not_lt_zero _)⟩⟩⟩
          · unfold clS1
            rw [upr_k q2, up_k q1]
            exact hmk _ _ _ _ q1
          · exact BD.putr (BD.putp hBm rfl) (fun x q => by cases q)
          · unfold clS1
            rw [upr_k (by decide), up_same]
            rfl
          · unfold clS1
            rw [upr_k (by decide), up_x (by decide), h1m]
            exact h1
          · rw [clS1_row, if_neg (by omega), hmk _ _ _ _ (by decide)]
            exact h9
        · exact absurd c_29 (by omega)
      · intro p hp ih 
        refine v_iload_n hC dJx4a65c_clear_da8c8_27 rfl ?_
        refine v_iload_n hC dJx4a65c_clear_da8c8_28 rfl ?_
        refine v_icmp_geN (tgt := 42) hC dJx4a65c_clear_da8c8_29 (by decide) (by first | omega | decide) (by first | omega | decide) (fun c_29 => ?_) (fun c_29 => ?_)
        · exact absurd c_29 (by omega)
        · refine v_aload_n hC dJx4a65c_clear_da8c8_32 rfl ?_
          refine v_iload_n hC dJx4a65c_clear_da8c8_33 rfl ?_
          refine v_null hC dJx4a65c_clear_da8c8_34 ?_
          refine v_aastN (k := 55) (i := e) (j := 0) (N := e) (c := G.2.2.1 12) (x := p) (f := fun x => rf (clS1 σm e p 55 e 0 x)) (f1 := fun x => rf (clS1 σm e (p + 1) 55 e 0 x)) (σ1 := clS1 σm e (p + 1)) 12 rfl hC dJx4a65c_clear_da8c8_35 hk (by show eQ _ (clS1 σm e p 55 e 0 9000) _ = _; rw [clS1_row, if_neg (by omega), hmk _ _ _ _ (by decide), h9]) (by omega) (by omega) (fun _ _ _ h => by rw [clS1_s]; exact funext fun x' => congrFun (up_off _ _ _ h) x') (by show eQ _ (clS1 σm e (p + 1) 55 e 0 9000) _ = _; rw [clS1_row, if_neg (by omega), hmk _ _ _ _ (by decide), h9]) (fun x => ?_) ?_
          · rw [clS1_s]
            by_cases q : x = p
            · rw [if_pos q, q, up_same]
              rfl
            · rw [if_neg q, up_x q]
          refine v_iincN hC dJx4a65c_clear_da8c8_36 rfl (by decide) ?_
          refine v_goto (tgt := 27) hC dJx4a65c_clear_da8c8_39 (by decide) ?_
          exact v_sub rfl ih
    have k1 := key 0 (Nat.zero_le _)
    rw [clS1_0] at k1
    exact v_sub rfl k1

def itr0 (σ : SG) (a : Nat) : SG := up (up (up σ 98 0 0 3 (a + 1)) 98 0 0 1 4294967295) 98 0 0 2 (σ 54 0 0 0)
set_option maxHeartbeats 4000000 in
set_option maxRecDepth 100000 in
theorem c_Jx35411_init_45d68 {l : Launch} (hl0 : l.stackTraces = false) {G : GT} {ok : KF} {ad : AD} {σ : SG} (hQ : OKM ok) (h98 : ok 98 0 0) : Ct l G 0 yJx35411_init_45d68 cJx35411_init_45d68 2 (none) [.ref (ad 98 0 0), .ref (ad 54 0 0)] ok ad σ (Rt none ok ad (itr0 σ (ad 54 0 0))) (NX) 0 0 := by
  refine Ct.mk (by decide +kernel) hl0 (Nat.le_of_ble_eq_true rfl) (fun X hX hC hM => ?_)
  subst hX
  refine v_aload_n hC dJx35411_init_45d68_0 rfl ?_
  refine v_aload_n hC dJx35411_init_45d68_1 rfl ?_
  refine pr_Jx35411_1 (v := ad 54 0 0 + 1) hC hM.2.1 dJx35411_init_45d68_2 h98 ?_
  refine v_aload_n hC dJx35411_init_45d68_5 rfl ?_
  refine v_objInit hC dJx35411_init_45d68_6 oi_Jx35411 (Nat.le_of_ble_eq_true rfl) ?_
  refine v_aload_n hC dJx35411_init_45d68_9 rfl ?_
  refine v_iconst (v := nI 4294967295) hC dJx35411_init_45d68_10 (by decide) ?_
  refine pr_Jx35411_13 hC dJx35411_init_45d68_11 h98 ?_
  refine v_aload_n hC dJx35411_init_45d68_14 rfl ?_
  refine v_aload_n hC dJx35411_init_45d68_15 rfl ?_
  refine gr_Jx35411_1 hC dJx35411_init_45d68_16 h98 ?_
  rw [up_x (by decide), up_same]
  refine gf_Jx35411_17 hC dJx35411_init_45d68_19 hQ ?_
  rw [show up (up σ 98 0 0 3 (ad 54 0 0 + 1)) 98 0 0 1 4294967295 54 0 0 0 = σ 54 0 0 0 from rfl]
  refine pr_Jx35411_22 hC dJx35411_init_45d68_22 h98 ?_
  refine v_vret hC hM dJx35411_init_45d68_25 (by omega) (by omega) ?_
  exact ⟨rfl, rfl⟩

/-- an iterator at place p -/
def itS (σ : SG) (p lr : Nat) : SG := upr σ 59 0 0 (fun x => if x = 0 then p else if x = 1 then lr else σ 54 0 0 0)
theorem itS_k {σ : SG} {p lr k i j x : Nat} (h : k ≠ 59) : itS σ p lr k i j x = σ k i j x := upr_k h
theorem itS_0 (σ : SG) (p lr : Nat) : itS σ p lr 59 0 0 0 = p := upr_same _ _ _ _ _ _
theorem itS_2 (σ : SG) (p lr : Nat) : itS σ p lr 59 0 0 2 = σ 54 0 0 0 := upr_same _ _ _ _ _ _
theorem itS_BD {σ : SG} (h : BD σ) (p lr : Nat) : BD (itS σ p lr) := BD.putr h (fun x q => by cases q)
set_option maxHeartbeats 4000000 in
set_option maxRecDepth 100000 in
theorem c_alist_iterator {l : Launch} (hl0 : l.stackTraces = false) {G : GT} {ok : KF} {ad : AD} {σ : SG} (hQ : OKM ok) {m0 e : Nat} (hKM : KM ok m0 e) : Ct l G 1 yJx4a65c_iterator_32c93 cJx4a65c_iterator_32c93 1 (some (.object "java/util/Iterator")) [.ref (ad 54 0 0)] ok ad σ (fun v μ => ∃ a, v = some (.ref a) ∧ μ = (okA ok 59 0 0, adA ad 59 0 0 a, itS σ 0 4294967295)) (NX) 1 4 := by
  refine Ct.mk (by decide +kernel) hl0 (Nat.le_of_ble_eq_true rfl) (fun X hX hC hM => ?_)
  subst hX
  have n98 : ¬ ok 98 0 0 := fun q => absurd (hKM.1 _ _ _ q).1 (by decide)
  have n59 : ¬ ok 59 0 0 := fun q => absurd rfl (hKM.1 _ _ _ q).2
  refine nw_Jx4a65c_267 (i0 := 0) (j0 := 0) hC dJx4a65c_iterator_32c93_0 n98 (by omega) (by omega) (fun a => ?_)
  refine v_dup hC dJx4a65c_iterator_32c93_3 rfl ?_
  refine v_aload_n hC dJx4a65c_iterator_32c93_4 rfl ?_
  have hQ1 : OKM (okA ok 98 0 0) := fun k i j h => .inl (hQ k i j h)
  refine v_callI_v0 hC lk_Jx4a65c_269 dJx4a65c_iterator_32c93_5 (c_Jx35411_init_45d68 (ad := adA ad 98 0 0 a) hl0 hQ1 (.inr ⟨rfl, rfl, rfl⟩)) (by decide) (by decide) rfl rfl (Nat.le_of_ble_eq_true rfl) (by omega) (by omega) ?_
  refine v_ren (k1 := 98) (i1 := 0) (j1 := 0) (k2 := 59) (i2 := 0) (j2 := 0) (a := a) (σ2 := itS σ 0 4294967295) n98 n59 (.inr (.inr (.inr (by decide)))) (.inr (.inr (.inr (by decide)))) rfl (fun k i j q => ?_) ?_
  · have q59 : k ≠ 59 := (hKM.1 _ _ _ q).2
    have q98 : k ≠ 98 := fun z => absurd (hKM.1 _ _ _ q).1 (by omega)
    funext x
    rw [itS_k q59]
    unfold itr0
    rw [up_k q98, up_k q98, up_k q98, upr_k q98]
  refine v_aret hC hM dJx4a65c_iterator_32c93_8 (.inl ⟨_, rfl⟩) (.inr ⟨_, rfl⟩) (by omega) (by omega) ?_
  exact ⟨a, rfl, rfl⟩

set_option maxHeartbeats 4000000 in
set_option maxRecDepth 100000 in
theorem c_Jx35411_hasNext_aae02 {l : Launch} (hl0 : l.stackTraces = false) {G : GT} {ok : KF} {ad : AD} {σ : SG} (hQ : OKM ok) (hk : ok 59 0 0) (h0 : σ 59 0 0 0 < 2 ^ 31) (h2 : σ 54 0 0 2 < 2 ^ 31) : Ct l G 0 yJx35411_hasNext_aae02 cJx35411_hasNext_aae02 1 (some .boolean) [.ref (ad 59 0 0)] ok ad σ (Rt (some (iv (b2n (decide (σ 59 0 0 0 ≠ σ 54 0 0 2))))) ok ad σ) (NX) 0 0 := by
  refine Ct.mk (by decide +kernel) hl0 (Nat.le_of_ble_eq_true rfl) (fun X hX hC hM => ?_)
  subst hX
  refine v_aload_n hC dJx35411_hasNext_aae02_0 rfl ?_
  refine gf_Jx35411_25 hC dJx35411_hasNext_aae02_1 hk ?_
  refine v_aload_n hC dJx35411_hasNext_aae02_4 rfl ?_
  refine gf_Jx35411_1 hC dJx35411_hasNext_aae02_5 hk ?_
  refine gf_Jx35411_28 hC dJx35411_hasNext_aae02_8 hQ ?_
  refine v_icmp_eqN (tgt := 18) hC dJx35411_hasNext_aae02_11 (by decide) (by assumption) (by assumption) (fun c_11 => ?_) (fun c_11 => ?_)
  · refine v_iconst (v := nI 0) hC dJx35411_hasNext_aae02_18 (by decide) ?_
    refine v_zret hC hM dJx35411_hasNext_aae02_19 (by first | exact nar_z b_of1 | exact nar_z b_of0) (by omega) (by omega) ?_
    exact ⟨by simp [b2n, c_11], rfl⟩
  · refine v_iconst (v := nI 1) hC dJx35411_hasNext_aae02_14 (by decide) ?_
    refine v_goto (tgt := 19) hC dJx35411_hasNext_aae02_15 (by decide) ?_
    refine v_zret hC hM dJx35411_hasNext_aae02_19 (by first | exact nar_z b_of1 | exact nar_z b_of0) (by omega) (by omega) ?_
    exact ⟨by simp [b2n, c_11], rfl⟩

set_option maxHeartbeats 4000000 in
set_option maxRecDepth 100000 in
theorem c_Jx35411_checkForComodification_da8c8 {l : Launch} (hl0 : l.stackTraces = false) {G : GT} {ok : KF} {ad : AD} {σ : SG} (hQ : OKM ok) (hk : ok 59 0 0) (h : σ 59 0 0 2 = σ 54 0 0 0) : Ct l G 0 yJx35411_checkForComodification_da8c8 cJx35411_checkForComodification_da8c8 1 (none) [.ref (ad 59 0 0)] ok ad σ (Rt none ok ad σ) (NX) 0 0 := by
  refine Ct.mk (by decide +kernel) hl0 (Nat.le_of_ble_eq_true rfl) (fun X hX hC hM => ?_)
  subst hX
  refine v_aload_n hC dJx35411_checkForComodification_da8c8_0 rfl ?_
  refine gf_Jx35411_1 hC dJx35411_checkForComodification_da8c8_1 hk ?_
  refine gf_Jx35411_17 hC dJx35411_checkForComodification_da8c8_4 hQ ?_
  refine v_aload_n hC dJx35411_checkForComodification_da8c8_7 rfl ?_
  refine gf_Jx35411_22 hC dJx35411_checkForComodification_da8c8_8 hk ?_
  rw [h]
  refine v_icmp_eq (tgt := 22) hC dJx35411_checkForComodification_da8c8_11 (by decide) (fun _ => ?_) (fun q => absurd rfl q)
  refine v_vret hC hM dJx35411_checkForComodification_da8c8_22 (by omega) (by omega) ?_
  exact ⟨rfl, rfl⟩

def nxS (σ : SG) (p : Nat) : SG := up (up σ 59 0 0 0 (p + 1)) 59 0 0 1 p
theorem nxS_it (σ : SG) (p lr : Nat) : nxS (itS σ p lr) p = itS σ (p + 1) p := by
  unfold nxS itS
  rw [upr_up, upr_up]
  congr 1
  funext x
  by_cases h1 : x = 1
  · subst h1; rfl
  · by_cases h0 : x = 0
    · subst h0; rfl
    · simp [h0, h1]
set_option maxHeartbeats 4000000 in
set_option maxRecDepth 100000 in
theorem c_Jx35411_next_0502b {l : Launch} (hl0 : l.stackTraces = false) {G : GT} {ok : KF} {ad : AD} {σ : SG} (hQ : OKM ok) (hk : ok 59 0 0) {e p c : Nat} (hk55 : ok 55 e 0) (h1 : σ 54 0 0 1 = ad 55 e 0 + 1) (h9 : σ 55 e 0 9000 = e) (he : e ≤ 4800) (hm : σ 59 0 0 2 = σ 54 0 0 0) (hp : σ 59 0 0 0 = p) (hps : p < σ 54 0 0 2) (hse : σ 54 0 0 2 ≤ e) (hat : σ 55 e 0 p = ad 56 c 0 + 1) : Ct l G 1 yJx35411_next_0502b cJx35411_next_0502b 3 (some (.object "java/lang/Object")) [.ref (ad 59 0 0)] ok ad σ (Rt (some (.ref (ad 56 c 0))) ok ad (nxS σ p)) (NX) 0 0 := by
  refine Ct.mk (by decide +kernel) hl0 (Nat.le_of_ble_eq_true rfl) (fun X hX hC hM => ?_)
  subst hX
  refine v_aload_n hC dJx35411_next_0502b_0 rfl ?_
  refine v_callV_v0 hC lk_Jx35411_31 dJx35411_next_0502b_1 (c_Jx35411_checkForComodification_da8c8 hl0 hQ hk hm) (by decide) (by decide) hk rfl rfl rfl rfl (Nat.le_of_ble_eq_true rfl) (by omega) (by omega) ?_
  refine v_aload_n hC dJx35411_next_0502b_4 rfl ?_
  refine gf_Jx35411_25 hC dJx35411_next_0502b_5 hk ?_
  rw [hp]
  refine v_istore_n hC dJx35411_next_0502b_8 (by decide) ?_
  refine v_iload_n hC dJx35411_next_0502b_9 rfl ?_
  refine v_aload_n hC dJx35411_next_0502b_10 rfl ?_
  refine gf_Jx35411_1 hC dJx35411_next_0502b_11 hk ?_
  refine gf_Jx35411_28 hC dJx35411_next_0502b_14 hQ ?_
  refine v_icmp_ltN (tgt := 28) hC dJx35411_next_0502b_17 (by decide) (by first | omega | decide) (by first | omega | decide) (fun c_17 => ?_) (fun c_17 => ?_)
  · refine v_aload_n hC dJx35411_next_0502b_28 rfl ?_
    refine gf_Jx35411_1 hC dJx35411_next_0502b_29 hk ?_
    refine gf_Jx35411_37 hC dJx35411_next_0502b_32 hQ ?_
    rw [h1]
    refine v_astore_n hC dJx35411_next_0502b_35 (by decide) ?_
    refine v_iload_n hC dJx35411_next_0502b_36 rfl ?_
    refine v_aload_n hC dJx35411_next_0502b_37 rfl ?_
    refine v_alenN (N := e) (c := G.2.2.1 12) (a := .inr (.inr (.inr (.inr fun x => rf (σ 55 e 0 x))))) 12 rfl hC dJx35411_next_0502b_38 hk55 (by show eQ _ (σ 55 e 0 9000) _ = _; rw [h9]) ?_
    refine v_icmp_ltN (tgt := 50) hC dJx35411_next_0502b_39 (by decide) (by first | omega | decide) (by first | omega | decide) (fun c_39 => ?_) (fun c_39 => ?_)
    · refine v_aload_n hC dJx35411_next_0502b_50 rfl ?_
      refine v_iload_n hC dJx35411_next_0502b_51 rfl ?_
      refine v_iconst (v := nI 1) hC dJx35411_next_0502b_52 (by decide) ?_
      refine v_iaddN hC dJx35411_next_0502b_53 ?_
      refine pf_Jx35411_25 hC dJx35411_next_0502b_54 hk ?_
      refine v_aload_n hC dJx35411_next_0502b_57 rfl ?_
      refine v_aload_n hC dJx35411_next_0502b_58 rfl ?_
      refine v_iload_n hC dJx35411_next_0502b_59 rfl ?_
      refine v_dup_x1 hC dJx35411_next_0502b_60 rfl rfl ?_
      refine pf_Jx35411_13 hC dJx35411_next_0502b_61 hk ?_
      refine v_sg (σ1 := nxS σ p) (fun _ _ _ _ => rfl) ?_
      refine v_aald (k := 55) (i := e) (j := 0) (N := e) (c := G.2.2.1 12) (f := fun x => rf (σ 55 e 0 x)) 12 rfl rfl hC dJx35411_next_0502b_64 hk55 (by show eQ _ (σ 55 e 0 9000) _ = _; rw [h9]; rfl) (by omega) (by omega) ?_
      rw [hat]
      show V X G _ _ _ _ _ _ _ (.ref (ad 56 c 0) :: _)
      refine v_aret hC hM dJx35411_next_0502b_65 (.inl ⟨_, rfl⟩) (.inr ⟨_, rfl⟩) (by omega) (by omega) ?_
      exact ⟨rfl, rfl⟩
    · exact absurd c_39 (by omega)
  · exact absurd c_17 (by omega)

