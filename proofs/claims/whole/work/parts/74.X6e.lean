set_option maxHeartbeats 4000000 in
set_option maxRecDepth 100000 in
theorem c_X6_takenShare {l : Launch} (hl0 : l.stackTraces = false) {G : GT} {ok : KF} {ad : AD} {σ : SG} (hQ : OKM ok) (hB : BD σ) : Ct l G 3 yX6_takenShare cX6_takenShare 1 (some .float) [.ref (ad 30 0 0)] ok ad σ (fun v μ => (th σ 0 30 0 0 6 + th σ 0 30 0 0 5 = 0 ∧ v = some (.float (FP.i2f (nI 0))) ∧ μ = (ok, ad, th (th σ 0) 1)) ∨ (th σ 0 30 0 0 6 + th σ 0 30 0 0 5 ≠ 0 ∧ v = some (.float (FP.fdiv (FP.l2f (lN (th σ 0 30 0 0 6))) (FP.l2f (lN (th σ 0 30 0 0 6 + th σ 0 30 0 0 5))))) ∧ μ = (ok, ad, th σ 0))) (NX) 0 0 := by
  refine Ct.mk (by decide +kernel) hl0 (Nat.le_of_ble_eq_true rfl) (fun X hX hC hM => ?_)
  subst hX
  refine v_aload_n hC dX6_takenShare_0 rfl ?_
  refine v_iconst (v := nI 0) hC dX6_takenShare_1 (by decide) ?_
  refine pf_X6_1 hC dX6_takenShare_2 hQ ?_
  show V X G _ _ ok ad (th σ 0) _ _ _
  have hB : BD (th σ 0) := th_BD hB (by decide)
  have h0 : th σ 0 30 0 0 0 = 0 := up_same _ _ _ _ _ _
  generalize th σ 0 = σ at *
  have ht : σ 30 0 0 6 < 100000 := hB 30 0 0 6 rfl
  have hb : σ 30 0 0 5 < 4000 := hB 30 0 0 5 rfl
  refine v_aload_n hC dX6_takenShare_5 rfl ?_
  refine gf_X6_183 hC dX6_takenShare_6 hQ ?_
  refine v_aload_n hC dX6_takenShare_9 rfl ?_
  refine gf_X6_187 hC dX6_takenShare_10 hQ ?_
  refine v_i2lN hC dX6_takenShare_13 (by first | omega | assumption) ?_
  refine v_laddN hC dX6_takenShare_14 ?_
  refine v_lconst (v := lN 0) hC dX6_takenShare_15 (by decide) ?_
  refine v_lcmp hC dX6_takenShare_16 ?_
  refine v_if_neJ (tgt := 29) hC dX6_takenShare_17 (by decide) (by first | omega | assumption) (by first | omega | assumption) (fun c_17 => ?_) (fun c_17 => ?_)
  · refine v_aload_n hC dX6_takenShare_29 rfl ?_
    refine gf_X6_183 hC dX6_takenShare_30 hQ ?_
    refine v_l2f hC dX6_takenShare_33 ?_
    refine v_aload_n hC dX6_takenShare_34 rfl ?_
    refine gf_X6_183 hC dX6_takenShare_35 hQ ?_
    refine v_aload_n hC dX6_takenShare_38 rfl ?_
    refine gf_X6_187 hC dX6_takenShare_39 hQ ?_
    refine v_i2lN hC dX6_takenShare_42 (by first | omega | assumption) ?_
    refine v_laddN hC dX6_takenShare_43 ?_
    refine v_l2f hC dX6_takenShare_44 ?_
    refine v_fdiv hC dX6_takenShare_45 (fdiv_n c_17 (by omega)) ?_
    refine v_fret hC hM dX6_takenShare_46 (by omega) (by omega) ?_
    exact .inr ⟨c_17, rfl, rfl⟩
  · refine v_aload_n hC dX6_takenShare_20 rfl ?_
    refine v_iconst (v := nI 1) hC dX6_takenShare_21 (by decide) ?_
    refine v_callV_r0 hC lk_X6_96 dX6_takenShare_22 (c_X6_fails hl0 hQ 1) (by decide) (by decide) hQ.k30 rfl rfl rfl rfl (Nat.le_of_ble_eq_true rfl) (by omega) (by omega) ?_
    refine v_i2f hC dX6_takenShare_25 ?_
    refine v_goto (tgt := 46) hC dX6_takenShare_26 (by decide) ?_
    refine v_fret hC hM dX6_takenShare_46 (by omega) (by omega) ?_
    exact .inl ⟨c_17, rfl, rfl⟩

/-- the edits of the first n merged changes -/
def mme (σ : SG) : Nat → Nat
  | 0 => 0
  | n + 1 => mme σ n + emy σ (σ 51 0 0 n) 64
set_option maxHeartbeats 4000000 in
set_option maxRecDepth 100000 in
theorem c_X6_meanEdits {l : Launch} (hl0 : l.stackTraces = false) {G : GT} {ok : KF} {ad : AD} {σ : SG} (hQ : OKM ok) (hB : BD σ) : Ct l G 3 yX6_meanEdits cX6_meanEdits 3 (some .double) [.ref (ad 30 0 0)] ok ad σ (fun v μ => (th σ 0 30 0 0 4 = 0 ∧ v = some (.double (FP.i2d (nI 0))) ∧ μ = (ok, ad, th (th σ 0) 1)) ∨ (th σ 0 30 0 0 4 ≠ 0 ∧ v = some (.double (FP.ddiv (FP.i2d (nI (mme (th σ 0) (th σ 0 30 0 0 4)))) (FP.i2d (nI (th σ 0 30 0 0 4))))) ∧ μ = (ok, ad, th σ 0))) (NX) 0 0 := by
  refine Ct.mk (by decide +kernel) hl0 (Nat.le_of_ble_eq_true rfl) (fun X hX hC hM => ?_)
  subst hX
  refine v_aload_n hC dX6_meanEdits_0 rfl ?_
  refine v_iconst (v := nI 0) hC dX6_meanEdits_1 (by decide) ?_
  refine pf_X6_1 hC dX6_meanEdits_2 hQ ?_
  show V X G _ _ ok ad (th σ 0) _ _ _
  have hB : BD (th σ 0) := th_BD hB (by decide)
  have h0 : th σ 0 30 0 0 0 = 0 := up_same _ _ _ _ _ _
  generalize th σ 0 = σ at *
  have hs17 : σ 30 0 0 4 < 17 := hB 30 0 0 4 rfl
  refine v_iconst (v := nI 0) hC dX6_meanEdits_5 (by decide) ?_
  refine v_istore_n hC dX6_meanEdits_6 (by decide) ?_
  refine v_iconst (v := nI 0) hC dX6_meanEdits_7 (by decide) ?_
  refine v_istore_n hC dX6_meanEdits_8 (by decide) ?_
  have key : ∀ n, n ≤ σ 30 0 0 4 → V X G 0 0 ok ad σ [(0, .ref (ad 30 0 0)), (1, iv (mme σ n)), (2, iv n)] 9 [] := by
    refine down (σ 30 0 0 4) ?_ ?_
    · refine v_iload_n hC dX6_meanEdits_9 rfl ?_
      refine v_aload_n hC dX6_meanEdits_10 rfl ?_
      refine gf_X6_198 hC dX6_meanEdits_11 hQ ?_
      refine v_icmp_geN (tgt := 36) hC dX6_meanEdits_14 (by decide) (by first | omega | exact hB _ _ _ _ rfl | exact hB.i _ _ _ _ rfl | assumption | exact b2n_31 _) (by first | omega | exact hB _ _ _ _ rfl | exact hB.i _ _ _ _ rfl | assumption | exact b2n_31 _) (fun c_14 => ?_) (fun c_14 => ?_)
      · refine v_aload_n hC dX6_meanEdits_36 rfl ?_
        refine gf_X6_198 hC dX6_meanEdits_37 hQ ?_
        refine v_if_neN (tgt := 52) hC dX6_meanEdits_40 (by decide) (by first | omega | exact hB _ _ _ _ rfl | exact hB.i _ _ _ _ rfl | assumption | exact b2n_31 _) (fun c_40 => ?_) (fun c_40 => ?_)
        · refine v_iload_n hC dX6_meanEdits_52 rfl ?_
          refine v_i2d hC dX6_meanEdits_53 ?_
          refine v_aload_n hC dX6_meanEdits_54 rfl ?_
          refine gf_X6_198 hC dX6_meanEdits_55 hQ ?_
          refine v_i2d hC dX6_meanEdits_58 ?_
          refine v_ddiv hC dX6_meanEdits_59 (ddiv_n c_40 hs17) ?_
          refine v_dret hC hM dX6_meanEdits_60 (by omega) (by omega) ?_
          exact .inr ⟨c_40, rfl, rfl⟩
        · refine v_aload_n hC dX6_meanEdits_43 rfl ?_
          refine v_iconst (v := nI 1) hC dX6_meanEdits_44 (by decide) ?_
          refine v_callV_r0 hC lk_X6_96 dX6_meanEdits_45 (c_X6_fails hl0 hQ 1) (by decide) (by decide) hQ.k30 rfl rfl rfl rfl (Nat.le_of_ble_eq_true rfl) (by omega) (by omega) ?_
          refine v_i2d hC dX6_meanEdits_48 ?_
          refine v_goto (tgt := 60) hC dX6_meanEdits_49 (by decide) ?_
          refine v_dret hC hM dX6_meanEdits_60 (by omega) (by omega) ?_
          exact .inl ⟨c_40, rfl, rfl⟩
      · exact absurd c_14 (by omega)
    · intro n hp ih 
      have hc16 : σ 51 0 0 n < 16 := hB 51 0 0 n rfl
      refine v_iload_n hC dX6_meanEdits_9 rfl ?_
      refine v_aload_n hC dX6_meanEdits_10 rfl ?_
      refine gf_X6_198 hC dX6_meanEdits_11 hQ ?_
      refine v_icmp_geN (tgt := 36) hC dX6_meanEdits_14 (by decide) (by first | omega | exact hB _ _ _ _ rfl | exact hB.i _ _ _ _ rfl | assumption | exact b2n_31 _) (by first | omega | exact hB _ _ _ _ rfl | exact hB.i _ _ _ _ rfl | assumption | exact b2n_31 _) (fun c_14 => ?_) (fun c_14 => ?_)
      · exact absurd c_14 (by omega)
      · refine v_iload_n hC dX6_meanEdits_17 rfl ?_
        refine v_aload_n hC dX6_meanEdits_18 rfl ?_
        refine v_aload_n hC dX6_meanEdits_19 rfl ?_
        refine gf_X6_72 hC dX6_meanEdits_20 hQ ?_
        refine v_iload_n hC dX6_meanEdits_23 rfl ?_
        refine al_51 hC dX6_meanEdits_24 hQ (by first | omega | exact hB _ _ _ _ rfl | exact hB.i _ _ _ _ rfl | assumption | exact b2n_31 _) ?_
        refine v_callV_r0 hC lk_X6_113 dX6_meanEdits_25 (c_X6_editMany hl0 hQ hB hc16) (by decide) (by decide) hQ.k30 rfl rfl rfl rfl (Nat.le_of_ble_eq_true rfl) (by omega) (by omega) ?_
        refine v_iaddN hC dX6_meanEdits_28 ?_
        refine v_istore_n hC dX6_meanEdits_29 (by decide) ?_
        refine v_iincN hC dX6_meanEdits_30 rfl (by decide) ?_
        refine v_goto (tgt := 9) hC dX6_meanEdits_33 (by decide) ?_
        exact v_sub rfl ih
  exact v_sub rfl (key 0 (Nat.zero_le _))

/-- a change brought up to date: s spans done, of the next one p people -/
def upi (σ : SG) (c s p : Nat) : SG := fun k i j x => if k = 48 ∧ i = c ∧ j < 6 ∧ x < s ∧ σ 43 c 0 x ≠ 0 then 0 else if k = 48 ∧ i = c ∧ j < p ∧ x = s ∧ σ 43 c 0 s ≠ 0 then 0 else if k = 43 ∧ i = c ∧ j = 0 ∧ x < s then 0 else σ k i j x
theorem upi_0 (σ : SG) (c : Nat) : upi σ c 0 0 = σ := by
  funext k i j x
  simp [upi]
theorem upi_k {σ : SG} {c s p k i j x : Nat} (h1 : k ≠ 48) (h2 : k ≠ 43) : upi σ c s p k i j x = σ k i j x := by simp [upi, h1, h2]
theorem upi_43 (σ : SG) (c s p : Nat) : upi σ c s p 43 c 0 s = σ 43 c 0 s := by simp [upi]
theorem upi_t {σ : SG} {c s p : Nat} (h : σ 43 c 0 s ≠ 0) : upi σ c s (p + 1) = up (upi σ c s p) 48 c p s 0 := by
  funext k i j x
  simp only [upi, up]
  by_cases e : k = 48 ∧ i = c ∧ x = s
  · obtain ⟨rfl, rfl, rfl⟩ := e
    by_cases e2 : j = p
    · subst e2
      simp [h]
    · have e3 : (j < p + 1) ↔ (j < p) := by omega
      simp [e2, e3, h]
  · by_cases e2 : k = 48 ∧ i = c
    · obtain ⟨rfl, rfl⟩ := e2
      have e4 : x ≠ s := fun q => e ⟨rfl, rfl, q⟩
      simp [e4]
    · have n1 : ∀ (P : Prop), ¬ (k = 48 ∧ i = c ∧ P) := fun P q => e2 ⟨q.1, q.2.1⟩
      simp only [n1, if_false]
theorem upi_f {σ : SG} {c s p : Nat} (h : σ 43 c 0 s = 0) : upi σ c s (p + 1) = upi σ c s p := by
  funext k i j x
  simp [upi, h]
theorem upi_s (σ : SG) (c s : Nat) : upi σ c (s + 1) 0 = up (upi σ c s 6) 43 c 0 s 0 := by
  funext k i j x
  simp only [upi, up]
  by_cases e : k = 48
  · subst e
    by_cases e1 : x = s
    · subst e1
      simp
    · have e3 : (x < s + 1) ↔ (x < s) := by omega
      simp [e1, e3]
  · by_cases e2 : k = 43 ∧ i = c ∧ j = 0
    · obtain ⟨rfl, rfl, rfl⟩ := e2
      by_cases e1 : x = s
      · subst e1; simp
      · have e3 : (x < s + 1) ↔ (x < s) := by omega
        simp [e1, e3]
    · have n1 : ∀ (P : Prop), ¬ (k = 43 ∧ i = c ∧ j = 0 ∧ P) := fun P q => e2 ⟨q.1, q.2.1, q.2.2.1⟩
      have n2 : ¬ (k = 43 ∧ i = c ∧ j = 0 ∧ x = s) := fun q => e2 ⟨q.1, q.2.1, q.2.2.1⟩
      simp only [e, false_and, if_false, n1, n2]
theorem upi_BD {σ : SG} (h : BD σ) (c s p : Nat) : BD (upi σ c s p) := fun k i j x hp => by
  unfold upi
  split
  · rename_i q
    rw [q.1]
    exact (show 0 < 101 by decide)
  split
  · rename_i q
    rw [q.1]
    exact (show 0 < 101 by decide)
  split
  · rename_i q
    rw [q.1]
    exact (show 0 < 2 by decide)
  · exact h k i j x hp
def k6_update (σ : SG) (c : Int32) : OM := gU σ c 111 fun c => .inr (cmy σ c 64, upi σ c 64 0)
set_option maxHeartbeats 4000000 in
set_option maxRecDepth 100000 in
theorem c_X6_update {l : Launch} (hl0 : l.stackTraces = false) {G : GT} {ok : KF} {ad : AD} {σ : SG} (hQ : OKM ok) (hB : BD σ) (c : Int32) : Ct l G 3 yX6_update cX6_update 5 (some .int) [.ref (ad 30 0 0), .int c] ok ad σ (mV (k6_update (th σ 0) c) ok ad (th σ 0)) (NX) 0 0 := by
  refine Ct.mk (by decide +kernel) hl0 (Nat.le_of_ble_eq_true rfl) (fun X hX hC hM => ?_)
  subst hX
  refine v_aload_n hC dX6_update_0 rfl ?_
  refine v_iload_n hC dX6_update_1 rfl ?_
  refine v_bipush (v := nI 111) hC dX6_update_2 (by decide) ?_
  refine v_callV hC lk_X6_116 dX6_update_4 (c_X6_isUnlike hl0 hQ hB (x := c) (s := 111) (by decide)) (by decide) (by decide) hQ.k30 rfl rfl rfl rfl (Nat.le_of_ble_eq_true rfl) (by omega) (by omega) (fun v μ h => ?_) (fun _ _ h => h.elim)
  rcases h with ⟨h_c, rfl, rfl⟩ | ⟨c, h_c, rfl, b2_c, b_c, ⟨h_st, rfl, rfl⟩ | ⟨h_st, rfl, rfl⟩⟩
  · dsimp only
    have hB : BD (th σ 0) := th_BD hB (by decide)
    have h0 : th σ 0 30 0 0 0 = 0 := up_same _ _ _ _ _ _
    generalize th σ 0 = σ at *
    refine v_if_eqN (tgt := 12) hC dX6_update_7 (by decide) (by decide) (fun c_7 => absurd c_7 (by decide)) (fun c_7 => ?_)
    refine v_iconst (v := nI 0) hC dX6_update_10 (by decide) ?_
    refine v_iret hC hM dX6_update_11 (by omega) (by omega) ?_
    exact .inl ⟨1, by simp [k6_update, gM, gU, gS, h_c], rfl, rfl⟩
  · dsimp only
    have hB : BD (th σ 0) := th_BD hB (by decide)
    have h0 : th σ 0 30 0 0 0 = 0 := up_same _ _ _ _ _ _
    generalize th σ 0 = σ at *
    refine v_if_eqN (tgt := 12) hC dX6_update_7 (by decide) (by decide) (fun c_7 => absurd c_7 (by decide)) (fun c_7 => ?_)
    refine v_iconst (v := nI 0) hC dX6_update_10 (by decide) ?_
    refine v_iret hC hM dX6_update_11 (by omega) (by omega) ?_
    exact .inl ⟨2, by simp [k6_update, gM, gU, gS, h_c, h_st], rfl, rfl⟩
  · dsimp only
    have hB : BD (th σ 0) := th_BD hB (by decide)
    have h0 : th σ 0 30 0 0 0 = 0 := up_same _ _ _ _ _ _
    generalize th σ 0 = σ at *
    refine v_if_eqN (tgt := 12) hC dX6_update_7 (by decide) (by decide) (fun c_7 => ?_) (fun c_7 => absurd c_7 (by decide))
    refine v_aload_n hC dX6_update_12 rfl ?_
    refine v_iload_n hC dX6_update_13 rfl ?_
    refine v_callV_r0 hC lk_X6_140 dX6_update_14 (c_X6_clashMany hl0 hQ hB b2_c) (by decide) (by decide) hQ.k30 rfl rfl rfl rfl (Nat.le_of_ble_eq_true rfl) (by omega) (by omega) ?_
    refine v_istore_n hC dX6_update_17 (by decide) ?_
    refine v_iconst (v := nI 0) hC dX6_update_18 (by decide) ?_
    refine v_istore_n hC dX6_update_19 (by decide) ?_
    have key : ∀ s, s ≤ 64 → V X G 0 0 ok ad (upi σ c s 0) [(0, .ref (ad 30 0 0)), (1, iv c), (2, iv (cmy σ c 64)), (3, iv s)] 20 [] := by
      refine down (64) ?_ ?_
      · refine v_iload_n hC dX6_update_20 rfl ?_
        refine v_bipush (v := nI 64) hC dX6_update_21 (by decide) ?_
        refine v_icmp_geN (tgt := 94) hC dX6_update_23 (by decide) (by first | omega | exact hB _ _ _ _ rfl | exact hB.i _ _ _ _ rfl | assumption | exact b2n_31 _) (by first | omega | exact hB _ _ _ _ rfl | exact hB.i _ _ _ _ rfl | assumption | exact b2n_31 _) (fun c_23 => ?_) (fun c_23 => ?_)
        · refine v_iload_n hC dX6_update_94 rfl ?_
          refine v_iret hC hM dX6_update_95 (by omega) (by omega) ?_
          exact .inr ⟨_, _, by simp [k6_update, gU, h_c, h_st], rfl, rfl⟩
        · exact absurd c_23 (by omega)
      · intro s hp ih 
        have hs := hp
        have ihs := ih
        refine v_iload_n hC dX6_update_20 rfl ?_
        refine v_bipush (v := nI 64) hC dX6_update_21 (by decide) ?_
        refine v_icmp_geN (tgt := 94) hC dX6_update_23 (by decide) (by first | omega | exact hB _ _ _ _ rfl | exact hB.i _ _ _ _ rfl | assumption | exact b2n_31 _) (by first | omega | exact hB _ _ _ _ rfl | exact hB.i _ _ _ _ rfl | assumption | exact b2n_31 _) (fun c_23 => ?_) (fun c_23 => ?_)
        · exact absurd c_23 (by omega)
        · refine v_iconst (v := nI 0) hC dX6_update_26 (by decide) ?_
          refine v_istore hC dX6_update_27 (by decide) ?_
          have key2 : ∀ p, p ≤ 6 → V X G 0 0 ok ad (upi σ c s p) [(0, .ref (ad 30 0 0)), (1, iv c), (2, iv (cmy σ c 64)), (3, iv s), (4, iv p)] 29 [] := by
            refine down (6) ?_ ?_
            · refine v_iload hC dX6_update_29 rfl ?_
              refine v_bipush (v := nI 6) hC dX6_update_31 (by decide) ?_
              refine v_icmp_geN (tgt := 79) hC dX6_update_33 (by decide) (by first | omega | exact hB _ _ _ _ rfl | exact hB.i _ _ _ _ rfl | assumption | exact b2n_31 _) (by first | omega | exact hB _ _ _ _ rfl | exact hB.i _ _ _ _ rfl | assumption | exact b2n_31 _) (fun c_33 => ?_) (fun c_33 => ?_)
              · refine v_aload_n hC dX6_update_79 rfl ?_
                refine gf_X6_53 hC dX6_update_80 hQ ?_
                refine v_iload_n hC dX6_update_83 rfl ?_
                refine al_42 hC dX6_update_84 hQ (by first | omega | exact hB _ _ _ _ rfl | exact hB.i _ _ _ _ rfl | assumption | exact b2n_31 _) ?_
                refine v_iload_n hC dX6_update_85 rfl ?_
                refine v_iconst (v := nI 0) hC dX6_update_86 (by decide) ?_
                refine as_43 hC dX6_update_87 hQ b2_c hs (by decide) ?_
                rw [← upi_s]
                refine v_iincN hC dX6_update_88 rfl (by decide) ?_
                refine v_goto (tgt := 20) hC dX6_update_91 (by decide) ?_
                exact v_sub rfl ihs
              · exact absurd c_33 (by omega)
            · intro p hp ih2 
              have hBi := upi_BD hB c s p
              have h43 : σ 43 c 0 s < 2 ^ 31 := hB.i 43 c 0 s rfl
              refine v_iload hC dX6_update_29 rfl ?_
              refine v_bipush (v := nI 6) hC dX6_update_31 (by decide) ?_
              refine v_icmp_geN (tgt := 79) hC dX6_update_33 (by decide) (by first | omega | exact hB _ _ _ _ rfl | exact hB.i _ _ _ _ rfl | assumption | exact b2n_31 _) (by first | omega | exact hB _ _ _ _ rfl | exact hB.i _ _ _ _ rfl | assumption | exact b2n_31 _) (fun c_33 => ?_) (fun c_33 => ?_)
              · exact absurd c_33 (by omega)
              · refine v_aload_n hC dX6_update_36 rfl ?_
                refine gf_X6_63 hC dX6_update_37 hQ ?_
                refine v_iload_n hC dX6_update_40 rfl ?_
                refine al_46 hC dX6_update_41 hQ (by first | omega | exact hB _ _ _ _ rfl | exact hB.i _ _ _ _ rfl | assumption | exact b2n_31 _) ?_
                refine v_iload hC dX6_update_42 rfl ?_
                refine al_47 hC dX6_update_44 hQ (by first | omega | exact hB _ _ _ _ rfl | exact hB.i _ _ _ _ rfl | assumption | exact b2n_31 _) (by first | omega | exact hB _ _ _ _ rfl | exact hB.i _ _ _ _ rfl | assumption | exact b2n_31 _) ?_
                refine v_iload_n hC dX6_update_45 rfl ?_
                refine v_aload_n hC dX6_update_46 rfl ?_
                refine gf_X6_53 hC dX6_update_47 hQ ?_
                refine v_iload_n hC dX6_update_50 rfl ?_
                refine al_42 hC dX6_update_51 hQ (by first | omega | exact hB _ _ _ _ rfl | exact hB.i _ _ _ _ rfl | assumption | exact b2n_31 _) ?_
                refine v_iload_n hC dX6_update_52 rfl ?_
                refine al_43 hC dX6_update_53 hQ b2_c hs ?_
                rw [upi_43]
                refine v_if_eqN (tgt := 61) hC dX6_update_54 (by decide) (by first | omega | exact hB _ _ _ _ rfl | exact hB.i _ _ _ _ rfl | assumption | exact b2n_31 _) (fun c_54 => ?_) (fun c_54 => ?_)
                · refine v_aload_n hC dX6_update_61 rfl ?_
                  refine gf_X6_63 hC dX6_update_62 hQ ?_
                  refine v_iload_n hC dX6_update_65 rfl ?_
                  refine al_46 hC dX6_update_66 hQ (by first | omega | exact hB _ _ _ _ rfl | exact hB.i _ _ _ _ rfl | assumption | exact b2n_31 _) ?_
                  refine v_iload hC dX6_update_67 rfl ?_
                  refine al_47 hC dX6_update_69 hQ (by first | omega | exact hB _ _ _ _ rfl | exact hB.i _ _ _ _ rfl | assumption | exact b2n_31 _) (by first | omega | exact hB _ _ _ _ rfl | exact hB.i _ _ _ _ rfl | assumption | exact b2n_31 _) ?_
                  refine v_iload_n hC dX6_update_70 rfl ?_
                  refine al_48 hC dX6_update_71 hQ (by first | omega | exact hB _ _ _ _ rfl | exact hB.i _ _ _ _ rfl | assumption | exact b2n_31 _) (by first | omega | exact hB _ _ _ _ rfl | exact hB.i _ _ _ _ rfl | assumption | exact b2n_31 _) (by first | omega | exact hB _ _ _ _ rfl | exact hB.i _ _ _ _ rfl | assumption | exact b2n_31 _) ?_
                  refine as_48 hC dX6_update_72 hQ b2_c hp hs ?_
                  rw [up_id]
                  refine v_iincN hC dX6_update_73 rfl (by decide) ?_
                  refine v_goto (tgt := 29) hC dX6_update_76 (by decide) ?_
                  rw [upi_f c_54] at ih2
                  exact v_sub rfl ih2
                · refine v_iconst (v := dm 0) hC dX6_update_57 (by decide) ?_
                  refine v_goto (tgt := 72) hC dX6_update_58 (by decide) ?_
                  refine as_48 (v := 0) hC dX6_update_72 hQ b2_c hp hs ?_
                  refine v_iincN hC dX6_update_73 rfl (by decide) ?_
                  refine v_goto (tgt := 29) hC dX6_update_76 (by decide) ?_
                  rw [upi_t c_54] at ih2
                  exact v_sub rfl ih2
          exact v_sub rfl (key2 0 (Nat.zero_le _))
    have k1 := key 0 (Nat.zero_le _)
    rw [upi_0] at k1
    exact v_sub rfl k1

