/-- the batch picked among the first n of the queue: how many, their places, the numbers -/
def pkb (σ : SG) : Nat → Nat × Nat × (Nat → Nat)
  | 0 => (0, 0, σ 14 0 0)
  | n + 1 => if (pkb σ n).1 < 4 ∧ tfz σ (σ 13 0 0 n) = false ∧ σ 6 (σ 13 0 0 n) 0 3 &&& (pkb σ n).2.1 = 0 then ((pkb σ n).1 + 1, (pkb σ n).2.1 ||| σ 6 (σ 13 0 0 n) 0 3, fun x => if x = (pkb σ n).1 then σ 13 0 0 n else (pkb σ n).2.2 x) else pkb σ n
theorem pkb_ok {σ : SG} (h : BD σ) : ∀ n, (pkb σ n).1 ≤ 4 ∧ (pkb σ n).1 ≤ n ∧ (pkb σ n).2.1 < 2 ^ 64 ∧ ∀ x, (pkb σ n).2.2 x < 16
  | 0 => ⟨Nat.zero_le _, Nat.le_refl _, by show 0 < 2 ^ 64; decide, fun x => h 14 0 0 x rfl⟩
  | n + 1 => by
    obtain ⟨h1, h2, h3, h4⟩ := pkb_ok h n
    unfold pkb
    split
    · rename_i hc
      refine ⟨by show (pkb σ n).1 + 1 ≤ 4; omega, by show (pkb σ n).1 + 1 ≤ n + 1; omega, or_lt h3 (h 6 _ 0 3 rfl), fun x => ?_⟩
      show (if x = (pkb σ n).1 then σ 13 0 0 n else (pkb σ n).2.2 x) < 16
      split
      · exact h 13 0 0 n rfl
      · exact h4 x
    · exact ⟨h1, by omega, h3, h4⟩
theorem pkb_full {σ : SG} {n : Nat} (h : 4 ≤ (pkb σ n).1) : ∀ m, n ≤ m → pkb σ m = pkb σ n := by
  intro m hm
  induction hm with
  | refl => rfl
  | step hm ih =>
    exact (if_neg (fun q => absurd q.1 (by rw [ih]; omega))).trans ih
def pkS (σ : SG) (n : Nat) : SG := upr σ 14 0 0 (pkb σ n).2.2
theorem pkS_BD {σ : SG} (h : BD σ) (n : Nat) : BD (pkS σ n) := by
  unfold pkS
  exact BD.putr h (fun x _ => (pkb_ok h n).2.2.2 x)
theorem pkS_k {σ : SG} {n k i j x : Nat} (hk : k ≠ 14) : pkS σ n k i j x = σ k i j x := upr_k hk

set_option maxHeartbeats 4000000 in
set_option maxRecDepth 100000 in
theorem c_X5_pickBatch {l : Launch} (hl0 : l.stackTraces = false) {G : GT} {ok : KF} {ad : AD} {σ : SG} (hO : OKC ok) (hB : BD σ) : Ct l G 3 yX5_pickBatch cX5_pickBatch 7 (some .int) [.ref (ad 0 0 0)] ok ad σ (Rt (some (iv (pkb σ (σ 12 0 0 0)).1)) ok ad (pkS σ (σ 12 0 0 0))) (NX) 0 0 := by
  refine Ct.mk (by decide +kernel) hl0 (Nat.le_of_ble_eq_true rfl) (fun X hX hC hM => ?_)
  subst hX
  have hsz : σ 12 0 0 0 < 17 := hB 12 0 0 0 rfl
  have hpk := pkb_ok hB
  refine v_iconst (v := nI 0) hC dX5_pickBatch_0 (by decide) ?_
  refine v_istore_n hC dX5_pickBatch_1 (by decide) ?_
  refine v_lconst (v := lN 0) hC dX5_pickBatch_2 (by decide) ?_
  refine v_lstore_n hC dX5_pickBatch_3 (by decide) ?_
  refine v_iconst (v := nI 0) hC dX5_pickBatch_4 (by decide) ?_
  refine v_istore hC dX5_pickBatch_5 (by decide) ?_
  have key : ∀ n, n ≤ σ 12 0 0 0 → V X G 0 0 ok ad (pkS σ n) [(0, .ref (ad 0 0 0)), (1, iv (pkb σ n).1), (2, jv (pkb σ n).2.1), (4, iv n)] 7 [] := by
    refine down (σ 12 0 0 0) ?_ ?_
    · obtain ⟨p1, p2, p3, p4⟩ := hpk (σ 12 0 0 0)
      refine v_iload hC dX5_pickBatch_7 rfl ?_
      refine v_aload_n hC dX5_pickBatch_9 rfl ?_
      refine gf_X5_32 hC dX5_pickBatch_10 hO ?_
      refine gf_X5_159 hC dX5_pickBatch_13 hO (i := 0) (by decide) ?_
      rw [pkS_k (by decide)]
      refine v_icmp_geN (tgt := 90) hC dX5_pickBatch_16 (by decide) (by first | omega | exact and_lt (hB _ _ _ _ rfl) | exact hB _ _ _ _ rfl | assumption | decide | exact b2n_31 _) (by first | omega | exact and_lt (hB _ _ _ _ rfl) | exact hB _ _ _ _ rfl | assumption | decide | exact b2n_31 _) (fun c_16 => ?_) (fun c_16 => ?_)
      · refine v_iload_n hC dX5_pickBatch_90 rfl ?_
        refine v_iret hC hM dX5_pickBatch_91 (by omega) (by omega) ?_
        exact ⟨rfl, rfl⟩
      · exact absurd c_16 (by omega)
    · intro n hp ih 
      obtain ⟨p1, p2, p3, p4⟩ := hpk n
      have hBn := pkS_BD hB n
      have hc16 : σ 13 0 0 n < 16 := hB 13 0 0 n rfl
      refine v_iload hC dX5_pickBatch_7 rfl ?_
      refine v_aload_n hC dX5_pickBatch_9 rfl ?_
      refine gf_X5_32 hC dX5_pickBatch_10 hO ?_
      refine gf_X5_159 hC dX5_pickBatch_13 hO (i := 0) (by decide) ?_
      rw [pkS_k (by decide)]
      refine v_icmp_geN (tgt := 90) hC dX5_pickBatch_16 (by decide) (by first | omega | exact and_lt (hB _ _ _ _ rfl) | exact hB _ _ _ _ rfl | assumption | decide | exact b2n_31 _) (by first | omega | exact and_lt (hB _ _ _ _ rfl) | exact hB _ _ _ _ rfl | assumption | decide | exact b2n_31 _) (fun c_16 => ?_) (fun c_16 => ?_)
      · exact absurd c_16 (by omega)
      · refine v_iload_n hC dX5_pickBatch_19 rfl ?_
        refine v_iconst (v := nI 4) hC dX5_pickBatch_20 (by decide) ?_
        refine v_icmp_geN (tgt := 90) hC dX5_pickBatch_21 (by decide) (by first | omega | exact and_lt (hB _ _ _ _ rfl) | exact hB _ _ _ _ rfl | assumption | decide | exact b2n_31 _) (by first | omega | exact and_lt (hB _ _ _ _ rfl) | exact hB _ _ _ _ rfl | assumption | decide | exact b2n_31 _) (fun c_21 => ?_) (fun c_21 => ?_)
        · skip
          refine v_iload_n hC dX5_pickBatch_90 rfl ?_
          refine v_iret hC hM dX5_pickBatch_91 (by omega) (by omega) ?_
          exact ⟨by rw [pkb_full c_21 _ (Nat.le_of_lt hp)], by unfold pkS; rw [pkb_full c_21 _ (Nat.le_of_lt hp)]⟩
        · refine v_aload_n hC dX5_pickBatch_24 rfl ?_
          refine gf_X5_32 hC dX5_pickBatch_25 hO ?_
          refine v_iload hC dX5_pickBatch_28 rfl ?_
          refine v_callVN_r0 hC lk_X5_171 dX5_pickBatch_30 (c_X2_at hl0 hO hBn (by decide) (by omega)) (by decide) (by decide) (hO.k12 (i := 0) (by decide)) rfl rfl rfl rfl (Nat.le_of_ble_eq_true rfl) (by omega) (by omega) ?_
          rw [pkS_k (by decide)]
          refine v_istore hC dX5_pickBatch_33 (by decide) ?_
          refine v_aload_n hC dX5_pickBatch_35 rfl ?_
          refine gf_X5_25 hC dX5_pickBatch_36 hO ?_
          refine v_iload hC dX5_pickBatch_39 rfl ?_
          refine al_5 hC dX5_pickBatch_41 hO (by first | omega | exact and_lt (hB _ _ _ _ rfl) | exact hB _ _ _ _ rfl | assumption | decide | exact b2n_31 _) ?_
          refine v_astore hC dX5_pickBatch_42 (by decide) ?_
          refine v_aload_n hC dX5_pickBatch_44 rfl ?_
          refine v_aload hC dX5_pickBatch_45 rfl ?_
          refine v_callV_r0 hC lk_X5_292 dX5_pickBatch_47 (c_X5_touchesFrozen hl0 hO hBn hc16) (by decide) (by decide) hO.k0 rfl rfl rfl rfl (Nat.le_of_ble_eq_true rfl) (by omega) (by omega) ?_
          rw [show tfz (pkS σ n) (σ 13 0 0 n) = tfz σ (σ 13 0 0 n) from rfl]
          refine v_if_neN (tgt := 84) hC dX5_pickBatch_50 (by decide) (by first | omega | exact and_lt (hB _ _ _ _ rfl) | exact hB _ _ _ _ rfl | assumption | decide | exact b2n_31 _) (fun c_50 => ?_) (fun c_50 => ?_)
          · refine v_iincN hC dX5_pickBatch_84 rfl (by decide) ?_
            refine v_goto (tgt := 7) hC dX5_pickBatch_87 (by decide) ?_
            have e1 : pkb σ (n + 1) = pkb σ n := if_neg (fun q => by rw [b2n_1 c_50] at q; exact absurd q.2.1 (by decide))
            have e2 : pkS σ (n + 1) = pkS σ n := by
              unfold pkS
              rw [e1]
            rw [e1, e2] at ih
            exact v_sub rfl ih
          · refine v_aload hC dX5_pickBatch_53 rfl ?_
            refine gf_X5_142 hC dX5_pickBatch_55 hO (by first | omega | exact and_lt (hB _ _ _ _ rfl) | exact hB _ _ _ _ rfl | assumption | decide | exact b2n_31 _) ?_
            rw [pkS_k (by decide)]
            refine v_lload_n hC dX5_pickBatch_58 rfl ?_
            refine v_landN hC dX5_pickBatch_59 ?_
            refine v_lconst (v := lN 0) hC dX5_pickBatch_60 (by decide) ?_
            refine v_lcmp hC dX5_pickBatch_61 ?_
            refine v_if_neJ (tgt := 84) hC dX5_pickBatch_62 (by decide) (by first | omega | exact and_lt (hB _ _ _ _ rfl) | exact hB _ _ _ _ rfl | assumption | decide | exact b2n_31 _) (by first | omega | exact and_lt (hB _ _ _ _ rfl) | exact hB _ _ _ _ rfl | assumption | decide | exact b2n_31 _) (fun c_62 => ?_) (fun c_62 => ?_)
            · refine v_iincN hC dX5_pickBatch_84 rfl (by decide) ?_
              refine v_goto (tgt := 7) hC dX5_pickBatch_87 (by decide) ?_
              have e1 : pkb σ (n + 1) = pkb σ n := if_neg (fun q => c_62 q.2.2)
              have e2 : pkS σ (n + 1) = pkS σ n := by
                unfold pkS
                rw [e1]
              rw [e1, e2] at ih
              exact v_sub rfl ih
            · refine v_aload_n hC dX5_pickBatch_65 rfl ?_
              refine gf_X5_39 hC dX5_pickBatch_66 hO ?_
              refine v_iload_n hC dX5_pickBatch_69 rfl ?_
              refine v_iload hC dX5_pickBatch_70 rfl ?_
              refine as_14 hC dX5_pickBatch_72 hO (by first | omega | exact and_lt (hB _ _ _ _ rfl) | exact hB _ _ _ _ rfl | assumption | decide | exact b2n_31 _) ?_
              refine v_iincN hC dX5_pickBatch_73 rfl (by decide) ?_
              refine v_lload_n hC dX5_pickBatch_76 rfl ?_
              refine v_aload hC dX5_pickBatch_77 rfl ?_
              refine gf_X5_142 hC dX5_pickBatch_79 hO (by first | omega | exact and_lt (hB _ _ _ _ rfl) | exact hB _ _ _ _ rfl | assumption | decide | exact b2n_31 _) ?_
              rw [up_k (by decide), pkS_k (by decide)]
              refine v_lorN hC dX5_pickBatch_82 ?_
              refine v_lstore_n hC dX5_pickBatch_83 (by decide) ?_
              refine v_iincN hC dX5_pickBatch_84 rfl (by decide) ?_
              refine v_goto (tgt := 7) hC dX5_pickBatch_87 (by decide) ?_
              have e1 : pkb σ (n + 1) = ((pkb σ n).1 + 1, (pkb σ n).2.1 ||| σ 6 (σ 13 0 0 n) 0 3, fun x => if x = (pkb σ n).1 then σ 13 0 0 n else (pkb σ n).2.2 x) := if_pos ⟨c_21, b2n_0 c_50, c_62⟩
              have e2 : pkS σ (n + 1) = up (pkS σ n) 14 0 0 (pkb σ n).1 (σ 13 0 0 n) := by
                unfold pkS
                rw [e1, upr_up]
              rw [e1, e2] at ih
              exact v_sub rfl ih
  have k0 := key 0 (Nat.zero_le _)
  rw [show pkS σ 0 = σ from upr_id σ 14 0 0] at k0
  exact v_sub rfl k0

/-- the changes of the set g taken back, among the first n numbers -/
def tkb (σ : SG) (g : Nat) : Nat → SG
  | 0 => σ
  | n + 1 => if g.testBit n = true then up (drO (tkb σ g n) 1 n) 6 n 0 1 118 else tkb σ g n
theorem tkb_BD {σ : SG} (h : BD σ) (g : Nat) : ∀ n, BD (tkb σ g n)
  | 0 => h
  | n + 1 => by
    have ih := tkb_BD h g n
    unfold tkb
    split
    · exact BD.put (drO_BD ih (Nat.le_of_lt_succ (ih 12 1 0 0 rfl))) (by decide)
    · exact ih
theorem tkb_k {σ : SG} {g k i j x : Nat} (h1 : k ≠ 12) (h2 : k ≠ 13) (h3 : k ≠ 6) : ∀ n, tkb σ g n k i j x = σ k i j x
  | 0 => rfl
  | n + 1 => by
    unfold tkb
    split
    · rw [up_k h3, drO_k h1 h2]
      exact tkb_k h1 h2 h3 n
    · exact tkb_k h1 h2 h3 n

set_option maxHeartbeats 4000000 in
set_option maxRecDepth 100000 in
theorem c_X5_takeBack {l : Launch} (hl0 : l.stackTraces = false) {G : GT} {ok : KF} {ad : AD} {σ : SG} (hO : OKC ok) (hB : BD σ) {g : Nat} (hg : g < 2 ^ 16) : Ct l G 2 yX5_takeBack cX5_takeBack 3 (none) [.ref (ad 0 0 0), iv g] ok ad σ (Rt none ok ad (tkb σ g (σ 0 0 0 0))) (NX) 0 0 := by
  refine Ct.mk (by decide +kernel) hl0 (Nat.le_of_ble_eq_true rfl) (fun X hX hC hM => ?_)
  subst hX
  have hsz : σ 0 0 0 0 < 17 := hB 0 0 0 0 rfl
  refine v_iconst (v := nI 0) hC dX5_takeBack_0 (by decide) ?_
  refine v_istore_n hC dX5_takeBack_1 (by decide) ?_
  have key : ∀ n, n ≤ σ 0 0 0 0 → V X G 0 0 ok ad (tkb σ g n) [(0, .ref (ad 0 0 0)), (1, iv g), (2, iv n)] 2 [] := by
    refine down (σ 0 0 0 0) ?_ ?_
    · refine v_iload_n hC dX5_takeBack_2 rfl ?_
      refine v_aload_n hC dX5_takeBack_3 rfl ?_
      refine gf_X5_70 hC dX5_takeBack_4 hO ?_
      rw [tkb_k (by decide) (by decide) (by decide)]
      refine v_icmp_geN (tgt := 43) hC dX5_takeBack_7 (by decide) (by first | omega | exact Nat.lt_of_le_of_lt Nat.and_le_left (Nat.lt_trans hg (by decide)) | exact hB _ _ _ _ rfl | assumption | decide) (by first | omega | exact Nat.lt_of_le_of_lt Nat.and_le_left (Nat.lt_trans hg (by decide)) | exact hB _ _ _ _ rfl | assumption | decide) (fun c_7 => ?_) (fun c_7 => ?_)
      · refine v_vret hC hM dX5_takeBack_43 (by omega) (by omega) ?_
        exact ⟨rfl, rfl⟩
      · exact absurd c_7 (by omega)
    · intro n hp ih 
      have hBn := tkb_BD hB g n
      refine v_iload_n hC dX5_takeBack_2 rfl ?_
      refine v_aload_n hC dX5_takeBack_3 rfl ?_
      refine gf_X5_70 hC dX5_takeBack_4 hO ?_
      rw [tkb_k (by decide) (by decide) (by decide)]
      refine v_icmp_geN (tgt := 43) hC dX5_takeBack_7 (by decide) (by first | omega | exact Nat.lt_of_le_of_lt Nat.and_le_left (Nat.lt_trans hg (by decide)) | exact hB _ _ _ _ rfl | assumption | decide) (by first | omega | exact Nat.lt_of_le_of_lt Nat.and_le_left (Nat.lt_trans hg (by decide)) | exact hB _ _ _ _ rfl | assumption | decide) (fun c_7 => ?_) (fun c_7 => ?_)
      · exact absurd c_7 (by omega)
      · refine v_iload_n hC dX5_takeBack_10 rfl ?_
        refine v_iconst (v := nI 1) hC dX5_takeBack_11 (by decide) ?_
        refine v_iload_n hC dX5_takeBack_12 rfl ?_
        refine v_ishlN hC dX5_takeBack_13 (by omega) ?_
        refine v_iandN hC dX5_takeBack_14 ?_
        refine v_if_eqN (tgt := 37) hC dX5_takeBack_15 (by decide) (by first | omega | exact Nat.lt_of_le_of_lt Nat.and_le_left (Nat.lt_trans hg (by decide)) | exact hB _ _ _ _ rfl | assumption | decide) (fun c_15 => ?_) (fun c_15 => ?_)
        · refine v_iincN hC dX5_takeBack_37 rfl (by decide) ?_
          refine v_goto (tgt := 2) hC dX5_takeBack_40 (by decide) ?_
          rw [show tkb σ g (n + 1) = tkb σ g n from if_neg (by rw [(bit_z _ _).mp c_15]; decide)] at ih
          exact v_sub rfl ih
        · refine v_aload_n hC dX5_takeBack_18 rfl ?_
          refine gf_X5_36 hC dX5_takeBack_19 hO ?_
          refine v_iload_n hC dX5_takeBack_22 rfl ?_
          refine v_callVN_v0 hC lk_X5_290 dX5_takeBack_23 (c_X2_drop hl0 hO hBn (by decide) (by omega) (Nat.le_of_lt_succ (hBn 12 1 0 0 rfl))) (by decide) (by decide) (hO.k12 (i := 1) (by decide)) rfl rfl rfl rfl (Nat.le_of_ble_eq_true rfl) (by omega) (by omega) ?_
          refine v_aload_n hC dX5_takeBack_26 rfl ?_
          refine gf_X5_25 hC dX5_takeBack_27 hO ?_
          refine v_iload_n hC dX5_takeBack_30 rfl ?_
          refine al_5 hC dX5_takeBack_31 hO (by first | omega | exact Nat.lt_of_le_of_lt Nat.and_le_left (Nat.lt_trans hg (by decide)) | exact hB _ _ _ _ rfl | assumption | decide) ?_
          refine v_bipush (v := nI 118) hC dX5_takeBack_32 (by decide) ?_
          refine pf_X5_113 hC dX5_takeBack_34 hO (by first | omega | exact Nat.lt_of_le_of_lt Nat.and_le_left (Nat.lt_trans hg (by decide)) | exact hB _ _ _ _ rfl | assumption | decide) (by first | omega | exact Nat.lt_of_le_of_lt Nat.and_le_left (Nat.lt_trans hg (by decide)) | exact hB _ _ _ _ rfl | assumption | decide) ?_
          refine v_iincN hC dX5_takeBack_37 rfl (by decide) ?_
          refine v_goto (tgt := 2) hC dX5_takeBack_40 (by decide) ?_
          rw [show tkb σ g (n + 1) = up (drO (tkb σ g n) 1 n) 6 n 0 1 118 from if_pos (bit_nz c_15)] at ih
          exact v_sub rfl ih
  exact v_sub rfl (key 0 (Nat.zero_le _))

