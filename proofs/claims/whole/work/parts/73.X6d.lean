/-- a vote: the covers laid for the first n places -/
def mvt (σ : SG) (c p b n : Nat) : SG := upr (up σ 45 c 0 p (if b = 0 then 98 else 97)) 48 c p (fun x => if x < n then (if b = 0 then 0 else σ 41 c 0 x) else σ 48 c p x)
theorem mvt_k {σ : SG} {c p b n k i j x : Nat} (h : k ≠ 48) (h2 : k ≠ 45) : mvt σ c p b n k i j x = σ k i j x := by
  unfold mvt
  rw [upr_k h, up_k h2]
theorem mvt_0 (σ : SG) (c p b : Nat) : mvt σ c p b 0 = up σ 45 c 0 p (if b = 0 then 98 else 97) := by
  unfold mvt
  have : (fun x => if x < 0 then (if b = 0 then 0 else σ 41 c 0 x) else σ 48 c p x) = (up σ 45 c 0 p (if b = 0 then 98 else 97)) 48 c p := by
    funext x
    rw [if_neg (by omega), up_k (by decide)]
  rw [this]
  exact upr_id _ 48 c p
theorem mvt_s (σ : SG) (c p b n : Nat) : mvt σ c p b (n + 1) = up (mvt σ c p b n) 48 c p n (if b = 0 then 0 else σ 41 c 0 n) := by
  unfold mvt
  rw [upr_up]
  congr 1
  funext x
  by_cases e : x = n
  · subst e
    rw [if_pos (by omega), if_pos rfl]
  · rw [if_neg e]
    have : (x < n + 1) ↔ (x < n) := by omega
    simp only [this]
theorem mvt_BD {σ : SG} (h : BD σ) (c p b n : Nat) : BD (mvt σ c p b n) := BD.putr (BD.put h (show (if b = 0 then 98 else 97) < 65536 by split <;> decide)) (fun x _ => by
  split
  · split
    · exact (show 0 < 101 by decide)
    · exact h 41 c 0 x rfl
  · exact h 48 c p x rfl)
def k6_vote (σ : SG) (c p : Int32) (b : Nat) : OM := gM c (σ 30 0 0 2) 1 fun c => gM p 6 2 fun p => if p = σ 49 0 0 c then .inl 2 else if σ 52 0 0 c ≠ 111 then .inl 3 else .inr (if b = 0 then 0 else emy σ c 64, mvt σ c p b 64)
set_option maxHeartbeats 4000000 in
set_option maxRecDepth 100000 in
theorem c_X6_vote {l : Launch} (hl0 : l.stackTraces = false) {G : GT} {ok : KF} {ad : AD} {σ : SG} (hQ : OKM ok) (hB : BD σ) (c : Int32) (p : Int32) {b : Nat} (hb : b < 2) : Ct l G 3 yX6_vote cX6_vote 5 (some .int) [.ref (ad 30 0 0), .int c, .int p, iv b] ok ad σ (mV (k6_vote (th σ 0) c p b) ok ad (th σ 0)) (NX) 0 0 := by
  refine Ct.mk (by decide +kernel) hl0 (Nat.le_of_ble_eq_true rfl) (fun X hX hC hM => ?_)
  subst hX
  refine v_aload_n hC dX6_vote_0 rfl ?_
  refine v_iconst (v := nI 0) hC dX6_vote_1 (by decide) ?_
  refine pf_X6_1 hC dX6_vote_2 hQ ?_
  show V X G _ _ ok ad (th σ 0) _ _ _
  have hB : BD (th σ 0) := th_BD hB (by decide)
  have h0 : th σ 0 30 0 0 0 = 0 := up_same _ _ _ _ _ _
  generalize th σ 0 = σ at *
  refine v_aload_n hC dX6_vote_5 rfl ?_
  refine v_iload_n hC dX6_vote_6 rfl ?_
  refine v_callV hC lk_X6_106 dX6_vote_7 (c_X6_isChange hl0 hQ hB (x := c)) (by decide) (by decide) hQ.k30 rfl rfl rfl rfl (Nat.le_of_ble_eq_true rfl) (by omega) (by omega) (fun v μ h => ?_) (fun _ _ h => h.elim)
  rcases h with ⟨h_c, rfl, rfl⟩ | ⟨c, h_c, rfl, b_c, rfl, rfl⟩
  · dsimp only
    refine v_if_neN (tgt := 19) hC dX6_vote_10 (by decide) (by decide) (fun c_10 => absurd c_10 (by decide)) (fun c_10 => ?_)
    refine v_aload_n hC dX6_vote_13 rfl ?_
    refine v_iconst (v := nI 1) hC dX6_vote_14 (by decide) ?_
    refine v_callV_r0 hC lk_X6_96 dX6_vote_15 (c_X6_fails hl0 hQ 1) (by decide) (by decide) hQ.k30 rfl rfl rfl rfl (Nat.le_of_ble_eq_true rfl) (by omega) (by omega) ?_
    refine v_iret hC hM dX6_vote_18 (by omega) (by omega) ?_
    exact .inl ⟨1, by simp [k6_vote, gM, gU, gS, h_c], rfl, rfl⟩
  · dsimp only
    have b2_c : c < 16 := by
      have hn17 : σ 30 0 0 2 < 17 := hB 30 0 0 2 rfl
      omega
    refine v_if_neN (tgt := 19) hC dX6_vote_10 (by decide) (by decide) (fun c_10 => ?_) (fun c_10 => absurd c_10 (by decide))
    refine v_iload_n hC dX6_vote_19 rfl ?_
    refine v_callS hC lk_X6_100 dX6_vote_20 (c_X6_isPerson hl0 (x := p)) (by decide) (by decide) rfl rfl (Nat.le_of_ble_eq_true rfl) (by omega) (by omega) (fun v μ h => ?_) (fun _ _ h => h.elim)
    rcases h with ⟨h_p, rfl, rfl⟩ | ⟨p, h_p, rfl, b_p, rfl, rfl⟩
    · dsimp only
      refine v_if_eqN (tgt := 36) hC dX6_vote_23 (by decide) (by decide) (fun c_23 => ?_) (fun c_23 => absurd c_23 (by decide))
      refine v_aload_n hC dX6_vote_36 rfl ?_
      refine v_iconst (v := nI 2) hC dX6_vote_37 (by decide) ?_
      refine v_callV_r0 hC lk_X6_96 dX6_vote_38 (c_X6_fails hl0 hQ 2) (by decide) (by decide) hQ.k30 rfl rfl rfl rfl (Nat.le_of_ble_eq_true rfl) (by omega) (by omega) ?_
      refine v_iret hC hM dX6_vote_41 (by omega) (by omega) ?_
      exact .inl ⟨2, by simp [k6_vote, gM, gU, gS, h_c, h_p], rfl, rfl⟩
    · dsimp only
      refine v_if_eqN (tgt := 36) hC dX6_vote_23 (by decide) (by decide) (fun c_23 => absurd c_23 (by decide)) (fun c_23 => ?_)
      refine v_iload_n hC dX6_vote_26 rfl ?_
      refine v_aload_n hC dX6_vote_27 rfl ?_
      refine gf_X6_66 hC dX6_vote_28 hQ ?_
      refine v_iload_n hC dX6_vote_31 rfl ?_
      refine al_49 hC dX6_vote_32 hQ (by first | omega | exact hB _ _ _ _ rfl | exact hB.i _ _ _ _ rfl | assumption | exact b2n_31 _ | exact Nat.lt_trans (hB 52 0 0 _ rfl) (show (65536 : Nat) < 2 ^ 31 by decide)) ?_
      refine v_icmp_neN (tgt := 42) hC dX6_vote_33 (by decide) (by first | omega | exact hB _ _ _ _ rfl | exact hB.i _ _ _ _ rfl | assumption | exact b2n_31 _ | exact Nat.lt_trans (hB 52 0 0 _ rfl) (show (65536 : Nat) < 2 ^ 31 by decide)) (by first | omega | exact hB _ _ _ _ rfl | exact hB.i _ _ _ _ rfl | assumption | exact b2n_31 _ | exact Nat.lt_trans (hB 52 0 0 _ rfl) (show (65536 : Nat) < 2 ^ 31 by decide)) (fun c_33 => ?_) (fun c_33 => ?_)
      · refine v_aload_n hC dX6_vote_42 rfl ?_
        refine gf_X6_75 hC dX6_vote_43 hQ ?_
        refine v_iload_n hC dX6_vote_46 rfl ?_
        refine al_52 hC dX6_vote_47 hQ (by first | omega | exact hB _ _ _ _ rfl | exact hB.i _ _ _ _ rfl | assumption | exact b2n_31 _ | exact Nat.lt_trans (hB 52 0 0 _ rfl) (show (65536 : Nat) < 2 ^ 31 by decide)) ?_
        refine v_bipush (v := nI 111) hC dX6_vote_48 (by decide) ?_
        refine v_icmp_eqN (tgt := 59) hC dX6_vote_50 (by decide) (by first | omega | exact hB _ _ _ _ rfl | exact hB.i _ _ _ _ rfl | assumption | exact b2n_31 _ | exact Nat.lt_trans (hB 52 0 0 _ rfl) (show (65536 : Nat) < 2 ^ 31 by decide)) (by first | omega | exact hB _ _ _ _ rfl | exact hB.i _ _ _ _ rfl | assumption | exact b2n_31 _ | exact Nat.lt_trans (hB 52 0 0 _ rfl) (show (65536 : Nat) < 2 ^ 31 by decide)) (fun c_50 => ?_) (fun c_50 => ?_)
        · refine v_aload_n hC dX6_vote_59 rfl ?_
          refine gf_X6_58 hC dX6_vote_60 hQ ?_
          refine v_iload_n hC dX6_vote_63 rfl ?_
          refine al_44 hC dX6_vote_64 hQ (by first | omega | exact hB _ _ _ _ rfl | exact hB.i _ _ _ _ rfl | assumption | exact b2n_31 _ | exact Nat.lt_trans (hB 52 0 0 _ rfl) (show (65536 : Nat) < 2 ^ 31 by decide)) ?_
          refine v_iload_n hC dX6_vote_65 rfl ?_
          refine v_iload_n hC dX6_vote_66 rfl ?_
          refine v_if_eqN (tgt := 75) hC dX6_vote_67 (by decide) (by first | omega | exact hB _ _ _ _ rfl | exact hB.i _ _ _ _ rfl | assumption | exact b2n_31 _ | exact Nat.lt_trans (hB 52 0 0 _ rfl) (show (65536 : Nat) < 2 ^ 31 by decide)) (fun c_67 => ?_) (fun c_67 => ?_)
          · refine v_bipush (v := nI 98) hC dX6_vote_75 (by decide) ?_
            refine as_45 hC dX6_vote_77 hQ b2_c b_p (by decide) ?_
            rw [show up σ 45 c 0 p 98 = mvt σ c p b 0 from by rw [mvt_0, if_pos c_67]]
            refine v_iconst (v := nI 0) hC dX6_vote_78 (by decide) ?_
            refine v_istore hC dX6_vote_79 (by decide) ?_
            have key : ∀ n, n ≤ 64 → V X G 0 0 ok ad (mvt σ c p b n) [(0, .ref (ad 30 0 0)), (1, iv c), (2, iv p), (3, iv b), (4, iv n)] 81 [] := by
              refine down (64) ?_ ?_
              · have hBm := mvt_BD hB c p b 64
                refine v_iload hC dX6_vote_81 rfl ?_
                refine v_bipush (v := nI 64) hC dX6_vote_83 (by decide) ?_
                refine v_icmp_geN (tgt := 122) hC dX6_vote_85 (by decide) (by first | omega | exact hB _ _ _ _ rfl | exact hB.i _ _ _ _ rfl | assumption | exact b2n_31 _ | exact Nat.lt_trans (hB 52 0 0 _ rfl) (show (65536 : Nat) < 2 ^ 31 by decide)) (by first | omega | exact hB _ _ _ _ rfl | exact hB.i _ _ _ _ rfl | assumption | exact b2n_31 _ | exact Nat.lt_trans (hB 52 0 0 _ rfl) (show (65536 : Nat) < 2 ^ 31 by decide)) (fun c_85 => ?_) (fun c_85 => ?_)
                · refine v_iload_n hC dX6_vote_122 rfl ?_
                  refine v_if_eqN (tgt := 134) hC dX6_vote_123 (by decide) (by first | omega | exact hB _ _ _ _ rfl | exact hB.i _ _ _ _ rfl | assumption | exact b2n_31 _ | exact Nat.lt_trans (hB 52 0 0 _ rfl) (show (65536 : Nat) < 2 ^ 31 by decide)) (fun c_123 => ?_) (fun c_123 => ?_)
                  · refine v_iconst (v := nI 0) hC dX6_vote_134 (by decide) ?_
                    refine v_iret hC hM dX6_vote_135 (by omega) (by omega) ?_
                    exact .inr ⟨_, _, by simp [k6_vote, gM, gU, gS, h_c, h_p, c_33, c_50, c_67, c_85, c_123], rfl, rfl⟩
                  · refine v_aload_n hC dX6_vote_126 rfl ?_
                    refine v_iload_n hC dX6_vote_127 rfl ?_
                    refine v_callV_r0 hC lk_X6_113 dX6_vote_128 (c_X6_editMany hl0 hQ hBm b2_c) (by decide) (by decide) hQ.k30 rfl rfl rfl rfl (Nat.le_of_ble_eq_true rfl) (by omega) (by omega) ?_
                    rw [show emy (mvt σ c p b 64) c 64 = emy σ c 64 from rfl]
                    refine v_goto (tgt := 135) hC dX6_vote_131 (by decide) ?_
                    refine v_iret hC hM dX6_vote_135 (by omega) (by omega) ?_
                    exact absurd c_67 c_123
                · exact absurd c_85 (by omega)
              · intro n hp ih 
                have hst := mvt_s σ c p b n
                refine v_iload hC dX6_vote_81 rfl ?_
                refine v_bipush (v := nI 64) hC dX6_vote_83 (by decide) ?_
                refine v_icmp_geN (tgt := 122) hC dX6_vote_85 (by decide) (by first | omega | exact hB _ _ _ _ rfl | exact hB.i _ _ _ _ rfl | assumption | exact b2n_31 _ | exact Nat.lt_trans (hB 52 0 0 _ rfl) (show (65536 : Nat) < 2 ^ 31 by decide)) (by first | omega | exact hB _ _ _ _ rfl | exact hB.i _ _ _ _ rfl | assumption | exact b2n_31 _ | exact Nat.lt_trans (hB 52 0 0 _ rfl) (show (65536 : Nat) < 2 ^ 31 by decide)) (fun c_85 => ?_) (fun c_85 => ?_)
                · exact absurd c_85 (by omega)
                · refine v_aload_n hC dX6_vote_88 rfl ?_
                  refine gf_X6_63 hC dX6_vote_89 hQ ?_
                  refine v_iload_n hC dX6_vote_92 rfl ?_
                  refine al_46 hC dX6_vote_93 hQ (by first | omega | exact hB _ _ _ _ rfl | exact hB.i _ _ _ _ rfl | assumption | exact b2n_31 _ | exact Nat.lt_trans (hB 52 0 0 _ rfl) (show (65536 : Nat) < 2 ^ 31 by decide)) ?_
                  refine v_iload_n hC dX6_vote_94 rfl ?_
                  refine al_47 hC dX6_vote_95 hQ (by first | omega | exact hB _ _ _ _ rfl | exact hB.i _ _ _ _ rfl | assumption | exact b2n_31 _ | exact Nat.lt_trans (hB 52 0 0 _ rfl) (show (65536 : Nat) < 2 ^ 31 by decide)) (by first | omega | exact hB _ _ _ _ rfl | exact hB.i _ _ _ _ rfl | assumption | exact b2n_31 _ | exact Nat.lt_trans (hB 52 0 0 _ rfl) (show (65536 : Nat) < 2 ^ 31 by decide)) ?_
                  refine v_iload hC dX6_vote_96 rfl ?_
                  refine v_iload_n hC dX6_vote_98 rfl ?_
                  refine v_if_eqN (tgt := 114) hC dX6_vote_99 (by decide) (by first | omega | exact hB _ _ _ _ rfl | exact hB.i _ _ _ _ rfl | assumption | exact b2n_31 _ | exact Nat.lt_trans (hB 52 0 0 _ rfl) (show (65536 : Nat) < 2 ^ 31 by decide)) (fun c_99 => ?_) (fun c_99 => ?_)
                  · refine v_iconst (v := dm 0) hC dX6_vote_114 (by decide) ?_
                    rw [show (if b = 0 then 0 else σ 41 c 0 n) = 0 from if_pos c_99] at hst
                    refine as_48 (v := 0) hC dX6_vote_115 hQ b2_c b_p hp ?_
                    rw [← hst]
                    refine v_iincN hC dX6_vote_116 rfl (by decide) ?_
                    refine v_goto (tgt := 81) hC dX6_vote_119 (by decide) ?_
                    exact v_sub rfl ih
                  · refine v_aload_n hC dX6_vote_102 rfl ?_
                    refine gf_X6_48 hC dX6_vote_103 hQ ?_
                    refine v_iload_n hC dX6_vote_106 rfl ?_
                    refine al_40 hC dX6_vote_107 hQ (by first | omega | exact hB _ _ _ _ rfl | exact hB.i _ _ _ _ rfl | assumption | exact b2n_31 _ | exact Nat.lt_trans (hB 52 0 0 _ rfl) (show (65536 : Nat) < 2 ^ 31 by decide)) ?_
                    refine v_iload hC dX6_vote_108 rfl ?_
                    refine al_41 hC dX6_vote_110 hQ b2_c hp ?_
                    rw [mvt_k (by decide) (by decide)]
                    refine v_goto (tgt := 115) hC dX6_vote_111 (by decide) ?_
                    rw [show (if b = 0 then 0 else σ 41 c 0 n) = σ 41 c 0 n from if_neg c_99] at hst
                    refine as_48 (v := σ 41 c 0 n) hC dX6_vote_115 hQ b2_c b_p hp ?_
                    rw [← hst]
                    refine v_iincN hC dX6_vote_116 rfl (by decide) ?_
                    refine v_goto (tgt := 81) hC dX6_vote_119 (by decide) ?_
                    exact v_sub rfl ih
            exact v_sub rfl (key 0 (Nat.zero_le _))
          · refine v_bipush (v := nI 97) hC dX6_vote_70 (by decide) ?_
            refine v_goto (tgt := 77) hC dX6_vote_72 (by decide) ?_
            refine as_45 hC dX6_vote_77 hQ b2_c b_p (by decide) ?_
            rw [show up σ 45 c 0 p 97 = mvt σ c p b 0 from by rw [mvt_0, if_neg c_67]]
            refine v_iconst (v := nI 0) hC dX6_vote_78 (by decide) ?_
            refine v_istore hC dX6_vote_79 (by decide) ?_
            have key : ∀ n, n ≤ 64 → V X G 0 0 ok ad (mvt σ c p b n) [(0, .ref (ad 30 0 0)), (1, iv c), (2, iv p), (3, iv b), (4, iv n)] 81 [] := by
              refine down (64) ?_ ?_
              · have hBm := mvt_BD hB c p b 64
                refine v_iload hC dX6_vote_81 rfl ?_
                refine v_bipush (v := nI 64) hC dX6_vote_83 (by decide) ?_
                refine v_icmp_geN (tgt := 122) hC dX6_vote_85 (by decide) (by first | omega | exact hB _ _ _ _ rfl | exact hB.i _ _ _ _ rfl | assumption | exact b2n_31 _ | exact Nat.lt_trans (hB 52 0 0 _ rfl) (show (65536 : Nat) < 2 ^ 31 by decide)) (by first | omega | exact hB _ _ _ _ rfl | exact hB.i _ _ _ _ rfl | assumption | exact b2n_31 _ | exact Nat.lt_trans (hB 52 0 0 _ rfl) (show (65536 : Nat) < 2 ^ 31 by decide)) (fun c_85 => ?_) (fun c_85 => ?_)
                · refine v_iload_n hC dX6_vote_122 rfl ?_
                  refine v_if_eqN (tgt := 134) hC dX6_vote_123 (by decide) (by first | omega | exact hB _ _ _ _ rfl | exact hB.i _ _ _ _ rfl | assumption | exact b2n_31 _ | exact Nat.lt_trans (hB 52 0 0 _ rfl) (show (65536 : Nat) < 2 ^ 31 by decide)) (fun c_123 => ?_) (fun c_123 => ?_)
                  · refine v_iconst (v := nI 0) hC dX6_vote_134 (by decide) ?_
                    refine v_iret hC hM dX6_vote_135 (by omega) (by omega) ?_
                    exact absurd c_123 c_67
                  · refine v_aload_n hC dX6_vote_126 rfl ?_
                    refine v_iload_n hC dX6_vote_127 rfl ?_
                    refine v_callV_r0 hC lk_X6_113 dX6_vote_128 (c_X6_editMany hl0 hQ hBm b2_c) (by decide) (by decide) hQ.k30 rfl rfl rfl rfl (Nat.le_of_ble_eq_true rfl) (by omega) (by omega) ?_
                    rw [show emy (mvt σ c p b 64) c 64 = emy σ c 64 from rfl]
                    refine v_goto (tgt := 135) hC dX6_vote_131 (by decide) ?_
                    refine v_iret hC hM dX6_vote_135 (by omega) (by omega) ?_
                    exact .inr ⟨_, _, by simp [k6_vote, gM, gU, gS, h_c, h_p, c_33, c_50, c_67, c_85, c_123], rfl, rfl⟩
                · exact absurd c_85 (by omega)
              · intro n hp ih 
                have hst := mvt_s σ c p b n
                refine v_iload hC dX6_vote_81 rfl ?_
                refine v_bipush (v := nI 64) hC dX6_vote_83 (by decide) ?_
                refine v_icmp_geN (tgt := 122) hC dX6_vote_85 (by decide) (by first | omega | exact hB _ _ _ _ rfl | exact hB.i _ _ _ _ rfl | assumption | exact b2n_31 _ | exact Nat.lt_trans (hB 52 0 0 _ rfl) (show (65536 : Nat) < 2 ^ 31 by decide)) (by first | omega | exact hB _ _ _ _ rfl | exact hB.i _ _ _ _ rfl | assumption | exact b2n_31 _ | exact Nat.lt_trans (hB 52 0 0 _ rfl) (show (65536 : Nat) < 2 ^ 31 by decide)) (fun c_85 => ?_) (fun c_85 => ?_)
                · exact absurd c_85 (by omega)
                · refine v_aload_n hC dX6_vote_88 rfl ?_
                  refine gf_X6_63 hC dX6_vote_89 hQ ?_
                  refine v_iload_n hC dX6_vote_92 rfl ?_
                  refine al_46 hC dX6_vote_93 hQ (by first | omega | exact hB _ _ _ _ rfl | exact hB.i _ _ _ _ rfl | assumption | exact b2n_31 _ | exact Nat.lt_trans (hB 52 0 0 _ rfl) (show (65536 : Nat) < 2 ^ 31 by decide)) ?_
                  refine v_iload_n hC dX6_vote_94 rfl ?_
                  refine al_47 hC dX6_vote_95 hQ (by first | omega | exact hB _ _ _ _ rfl | exact hB.i _ _ _ _ rfl | assumption | exact b2n_31 _ | exact Nat.lt_trans (hB 52 0 0 _ rfl) (show (65536 : Nat) < 2 ^ 31 by decide)) (by first | omega | exact hB _ _ _ _ rfl | exact hB.i _ _ _ _ rfl | assumption | exact b2n_31 _ | exact Nat.lt_trans (hB 52 0 0 _ rfl) (show (65536 : Nat) < 2 ^ 31 by decide)) ?_
                  refine v_iload hC dX6_vote_96 rfl ?_
                  refine v_iload_n hC dX6_vote_98 rfl ?_
                  refine v_if_eqN (tgt := 114) hC dX6_vote_99 (by decide) (by first | omega | exact hB _ _ _ _ rfl | exact hB.i _ _ _ _ rfl | assumption | exact b2n_31 _ | exact Nat.lt_trans (hB 52 0 0 _ rfl) (show (65536 : Nat) < 2 ^ 31 by decide)) (fun c_99 => ?_) (fun c_99 => ?_)
                  · refine v_iconst (v := dm 0) hC dX6_vote_114 (by decide) ?_
                    rw [show (if b = 0 then 0 else σ 41 c 0 n) = 0 from if_pos c_99] at hst
                    refine as_48 (v := 0) hC dX6_vote_115 hQ b2_c b_p hp ?_
                    rw [← hst]
                    refine v_iincN hC dX6_vote_116 rfl (by decide) ?_
                    refine v_goto (tgt := 81) hC dX6_vote_119 (by decide) ?_
                    exact v_sub rfl ih
                  · refine v_aload_n hC dX6_vote_102 rfl ?_
                    refine gf_X6_48 hC dX6_vote_103 hQ ?_
                    refine v_iload_n hC dX6_vote_106 rfl ?_
                    refine al_40 hC dX6_vote_107 hQ (by first | omega | exact hB _ _ _ _ rfl | exact hB.i _ _ _ _ rfl | assumption | exact b2n_31 _ | exact Nat.lt_trans (hB 52 0 0 _ rfl) (show (65536 : Nat) < 2 ^ 31 by decide)) ?_
                    refine v_iload hC dX6_vote_108 rfl ?_
                    refine al_41 hC dX6_vote_110 hQ b2_c hp ?_
                    rw [mvt_k (by decide) (by decide)]
                    refine v_goto (tgt := 115) hC dX6_vote_111 (by decide) ?_
                    rw [show (if b = 0 then 0 else σ 41 c 0 n) = σ 41 c 0 n from if_neg c_99] at hst
                    refine as_48 (v := σ 41 c 0 n) hC dX6_vote_115 hQ b2_c b_p hp ?_
                    rw [← hst]
                    refine v_iincN hC dX6_vote_116 rfl (by decide) ?_
                    refine v_goto (tgt := 81) hC dX6_vote_119 (by decide) ?_
                    exact v_sub rfl ih
            exact v_sub rfl (key 0 (Nat.zero_le _))
        · refine v_aload_n hC dX6_vote_53 rfl ?_
          refine v_iconst (v := nI 3) hC dX6_vote_54 (by decide) ?_
          refine v_callV_r0 hC lk_X6_96 dX6_vote_55 (c_X6_fails hl0 hQ 3) (by decide) (by decide) hQ.k30 rfl rfl rfl rfl (Nat.le_of_ble_eq_true rfl) (by omega) (by omega) ?_
          refine v_iret hC hM dX6_vote_58 (by omega) (by omega) ?_
          exact .inl ⟨3, by simp [k6_vote, gM, gU, gS, h_c, h_p, c_33, c_50], rfl, rfl⟩
      · refine v_aload_n hC dX6_vote_36 rfl ?_
        refine v_iconst (v := nI 2) hC dX6_vote_37 (by decide) ?_
        refine v_callV_r0 hC lk_X6_96 dX6_vote_38 (c_X6_fails hl0 hQ 2) (by decide) (by decide) hQ.k30 rfl rfl rfl rfl (Nat.le_of_ble_eq_true rfl) (by omega) (by omega) ?_
        refine v_iret hC hM dX6_vote_41 (by omega) (by omega) ?_
        exact .inl ⟨2, by unfold k6_vote gM; rw [h_c]; dsimp only; rw [h_p]; dsimp only; rw [if_pos c_33], rfl, rfl⟩

def k6_verdict (σ : SG) (c d : Int32) : OM := gM c (σ 30 0 0 2) 1 fun c => gM d 4 2 fun d => .inr (mvd σ c d, σ)
set_option maxHeartbeats 4000000 in
set_option maxRecDepth 100000 in
theorem c_X6_verdict {l : Launch} (hl0 : l.stackTraces = false) {G : GT} {ok : KF} {ad : AD} {σ : SG} (hQ : OKM ok) (hB : BD σ) (c : Int32) (d : Int32) : Ct l G 4 yX6_verdict cX6_verdict 3 (some .char) [.ref (ad 30 0 0), .int c, .int d] ok ad σ (mV (k6_verdict (th σ 0) c d) ok ad (th σ 0)) (NX) 0 0 := by
  refine Ct.mk (by decide +kernel) hl0 (Nat.le_of_ble_eq_true rfl) (fun X hX hC hM => ?_)
  subst hX
  refine v_aload_n hC dX6_verdict_0 rfl ?_
  refine v_aload_n hC dX6_verdict_1 rfl ?_
  refine v_iload_n hC dX6_verdict_2 rfl ?_
  refine v_callV hC lk_X6_106 dX6_verdict_3 (c_X6_isChange hl0 hQ hB (x := c)) (by decide) (by decide) hQ.k30 rfl rfl rfl rfl (Nat.le_of_ble_eq_true rfl) (by omega) (by omega) (fun v μ h => ?_) (fun _ _ h => h.elim)
  rcases h with ⟨h_c, rfl, rfl⟩ | ⟨c, h_c, rfl, b_c, rfl, rfl⟩
  · dsimp only
    replace h_c : inR c (th σ 0 30 0 0 2) = none := h_c
    refine v_if_neN (tgt := 13) hC dX6_verdict_6 (by decide) (by decide) (fun c_6 => absurd c_6 (by decide)) (fun c_6 => ?_)
    refine v_iconst (v := nI 1) hC dX6_verdict_9 (by decide) ?_
    refine v_goto (tgt := 25) hC dX6_verdict_10 (by decide) ?_
    refine pf_X6_1 hC dX6_verdict_25 hQ ?_
    rw [show up σ 30 0 0 0 1 = th (th σ 0) 1 from (up_up _ _ _ _ _ _ _).symm]
    show V X G _ _ ok ad (th (th σ 0) 1) _ _ _
    have hB : BD (th σ 0) := th_BD hB (by decide)
    have h0 : th σ 0 30 0 0 0 = 0 := up_same _ _ _ _ _ _
    generalize th σ 0 = σ at *
    refine v_aload_n hC dX6_verdict_28 rfl ?_
    refine gf_X6_1 hC dX6_verdict_29 hQ ?_
    rw [show th σ 1 30 0 0 0 = 1 from up_same _ _ _ _ _ _]
    refine v_if_leN (tgt := 39) hC dX6_verdict_32 (by decide) (by decide) (fun c_32 => absurd c_32 (by decide)) (fun c_32 => ?_)
    refine v_iconst (v := nI 0) hC dX6_verdict_35 (by decide) ?_
    refine v_goto (tgt := 45) hC dX6_verdict_36 (by decide) ?_
    refine v_zret hC hM dX6_verdict_45 (by first | exact nar_c (mvd_lt _ _ _) | exact nar_c (by decide)) (by omega) (by omega) ?_
    exact .inl ⟨1, by simp [k6_verdict, gM, gU, gS, h_c], rfl, rfl⟩
  · dsimp only
    have b2_c : c < 16 := by
      have hn17 : σ 30 0 0 2 < 17 := hB 30 0 0 2 rfl
      omega
    replace h_c : inR (nI c) (th σ 0 30 0 0 2) = some c := h_c
    replace b_c : c < th σ 0 30 0 0 2 := b_c
    refine v_if_neN (tgt := 13) hC dX6_verdict_6 (by decide) (by decide) (fun c_6 => ?_) (fun c_6 => absurd c_6 (by decide))
    refine v_iload_n hC dX6_verdict_13 rfl ?_
    refine v_callS hC lk_X6_92 dX6_verdict_14 (c_X6_isDirectory hl0 (x := d)) (by decide) (by decide) rfl rfl (Nat.le_of_ble_eq_true rfl) (by omega) (by omega) (fun v μ h => ?_) (fun _ _ h => h.elim)
    rcases h with ⟨h_d, rfl, rfl⟩ | ⟨d, h_d, rfl, b_d, rfl, rfl⟩
    · dsimp only
      refine v_if_eqN (tgt := 24) hC dX6_verdict_17 (by decide) (by decide) (fun c_17 => ?_) (fun c_17 => absurd c_17 (by decide))
      refine v_iconst (v := nI 2) hC dX6_verdict_24 (by decide) ?_
      refine pf_X6_1 hC dX6_verdict_25 hQ ?_
      rw [show up σ 30 0 0 0 2 = th (th σ 0) 2 from (up_up _ _ _ _ _ _ _).symm]
      show V X G _ _ ok ad (th (th σ 0) 2) _ _ _
      have hB : BD (th σ 0) := th_BD hB (by decide)
      have h0 : th σ 0 30 0 0 0 = 0 := up_same _ _ _ _ _ _
      generalize th σ 0 = σ at *
      refine v_aload_n hC dX6_verdict_28 rfl ?_
      refine gf_X6_1 hC dX6_verdict_29 hQ ?_
      rw [show th σ 2 30 0 0 0 = 2 from up_same _ _ _ _ _ _]
      refine v_if_leN (tgt := 39) hC dX6_verdict_32 (by decide) (by decide) (fun c_32 => absurd c_32 (by decide)) (fun c_32 => ?_)
      refine v_iconst (v := nI 0) hC dX6_verdict_35 (by decide) ?_
      refine v_goto (tgt := 45) hC dX6_verdict_36 (by decide) ?_
      refine v_zret hC hM dX6_verdict_45 (by first | exact nar_c (mvd_lt _ _ _) | exact nar_c (by decide)) (by omega) (by omega) ?_
      exact .inl ⟨2, by simp [k6_verdict, gM, gU, gS, h_c, h_d], rfl, rfl⟩
    · dsimp only
      refine v_if_eqN (tgt := 24) hC dX6_verdict_17 (by decide) (by decide) (fun c_17 => absurd c_17 (by decide)) (fun c_17 => ?_)
      refine v_iconst (v := nI 0) hC dX6_verdict_20 (by decide) ?_
      refine v_goto (tgt := 25) hC dX6_verdict_21 (by decide) ?_
      refine pf_X6_1 hC dX6_verdict_25 hQ ?_
      show V X G _ _ ok ad (th σ 0) _ _ _
      have hB : BD (th σ 0) := th_BD hB (by decide)
      have h0 : th σ 0 30 0 0 0 = 0 := up_same _ _ _ _ _ _
      generalize th σ 0 = σ at *
      refine v_aload_n hC dX6_verdict_28 rfl ?_
      refine gf_X6_1 hC dX6_verdict_29 hQ ?_
      rw [h0]
      refine v_if_leN (tgt := 39) hC dX6_verdict_32 (by decide) (by decide) (fun c_32 => ?_) (fun c_32 => absurd c_32 (by decide))
      refine v_aload_n hC dX6_verdict_39 rfl ?_
      refine v_iload_n hC dX6_verdict_40 rfl ?_
      refine v_iload_n hC dX6_verdict_41 rfl ?_
      refine v_callV_r0 hC lk_X6_133 dX6_verdict_42 (c_X6_verdictOf hl0 hQ hB b2_c b_d) (by decide) (by decide) hQ.k30 rfl rfl rfl rfl (Nat.le_of_ble_eq_true rfl) (by omega) (by omega) ?_
      refine v_zret hC hM dX6_verdict_45 (by first | exact nar_c (mvd_lt _ _ _) | exact nar_c (by decide)) (by omega) (by omega) ?_
      exact .inr ⟨_, _, by simp [k6_verdict, gM, gU, gS, h_c, h_d], rfl, rfl⟩

def k6_asked (σ : SG) (c d : Int32) : OM := gM c (σ 30 0 0 2) 1 fun c => gM d 4 2 fun d => if mask σ c d = 0 then .inl 1 else .inr (mask σ c d - 1, σ)
set_option maxHeartbeats 4000000 in
set_option maxRecDepth 100000 in
theorem c_X6_asked {l : Launch} (hl0 : l.stackTraces = false) {G : GT} {ok : KF} {ad : AD} {σ : SG} (hQ : OKM ok) (hB : BD σ) (c : Int32) (d : Int32) : Ct l G 3 yX6_asked cX6_asked 3 (some .int) [.ref (ad 30 0 0), .int c, .int d] ok ad σ (mV (k6_asked (th σ 0) c d) ok ad (th σ 0)) (NX) 0 0 := by
  refine Ct.mk (by decide +kernel) hl0 (Nat.le_of_ble_eq_true rfl) (fun X hX hC hM => ?_)
  subst hX
  refine v_aload_n hC dX6_asked_0 rfl ?_
  refine v_aload_n hC dX6_asked_1 rfl ?_
  refine v_iload_n hC dX6_asked_2 rfl ?_
  refine v_callV hC lk_X6_106 dX6_asked_3 (c_X6_isChange hl0 hQ hB (x := c)) (by decide) (by decide) hQ.k30 rfl rfl rfl rfl (Nat.le_of_ble_eq_true rfl) (by omega) (by omega) (fun v μ h => ?_) (fun _ _ h => h.elim)
  rcases h with ⟨h_c, rfl, rfl⟩ | ⟨c, h_c, rfl, b_c, rfl, rfl⟩
  · dsimp only
    replace h_c : inR c (th σ 0 30 0 0 2) = none := h_c
    refine v_if_neN (tgt := 13) hC dX6_asked_6 (by decide) (by decide) (fun c_6 => absurd c_6 (by decide)) (fun c_6 => ?_)
    refine v_iconst (v := nI 1) hC dX6_asked_9 (by decide) ?_
    refine v_goto (tgt := 25) hC dX6_asked_10 (by decide) ?_
    refine pf_X6_1 hC dX6_asked_25 hQ ?_
    rw [show up σ 30 0 0 0 1 = th (th σ 0) 1 from (up_up _ _ _ _ _ _ _).symm]
    show V X G _ _ ok ad (th (th σ 0) 1) _ _ _
    have hB : BD (th σ 0) := th_BD hB (by decide)
    have h0 : th σ 0 30 0 0 0 = 0 := up_same _ _ _ _ _ _
    generalize th σ 0 = σ at *
    refine v_aload_n hC dX6_asked_28 rfl ?_
    refine gf_X6_1 hC dX6_asked_29 hQ ?_
    rw [show th σ 1 30 0 0 0 = 1 from up_same _ _ _ _ _ _]
    refine v_if_leN (tgt := 37) hC dX6_asked_32 (by decide) (by decide) (fun c_32 => absurd c_32 (by decide)) (fun c_32 => ?_)
    refine v_iconst (v := nI 0) hC dX6_asked_35 (by decide) ?_
    refine v_iret hC hM dX6_asked_36 (by omega) (by omega) ?_
    exact .inl ⟨1, by simp [k6_asked, gM, gU, gS, h_c], rfl, rfl⟩
  · dsimp only
    have b2_c : c < 16 := by
      have hn17 : σ 30 0 0 2 < 17 := hB 30 0 0 2 rfl
      omega
    replace h_c : inR (nI c) (th σ 0 30 0 0 2) = some c := h_c
    replace b_c : c < th σ 0 30 0 0 2 := b_c
    refine v_if_neN (tgt := 13) hC dX6_asked_6 (by decide) (by decide) (fun c_6 => ?_) (fun c_6 => absurd c_6 (by decide))
    refine v_iload_n hC dX6_asked_13 rfl ?_
    refine v_callS hC lk_X6_92 dX6_asked_14 (c_X6_isDirectory hl0 (x := d)) (by decide) (by decide) rfl rfl (Nat.le_of_ble_eq_true rfl) (by omega) (by omega) (fun v μ h => ?_) (fun _ _ h => h.elim)
    rcases h with ⟨h_d, rfl, rfl⟩ | ⟨d, h_d, rfl, b_d, rfl, rfl⟩
    · dsimp only
      refine v_if_eqN (tgt := 24) hC dX6_asked_17 (by decide) (by decide) (fun c_17 => ?_) (fun c_17 => absurd c_17 (by decide))
      refine v_iconst (v := nI 2) hC dX6_asked_24 (by decide) ?_
      refine pf_X6_1 hC dX6_asked_25 hQ ?_
      rw [show up σ 30 0 0 0 2 = th (th σ 0) 2 from (up_up _ _ _ _ _ _ _).symm]
      show V X G _ _ ok ad (th (th σ 0) 2) _ _ _
      have hB : BD (th σ 0) := th_BD hB (by decide)
      have h0 : th σ 0 30 0 0 0 = 0 := up_same _ _ _ _ _ _
      generalize th σ 0 = σ at *
      refine v_aload_n hC dX6_asked_28 rfl ?_
      refine gf_X6_1 hC dX6_asked_29 hQ ?_
      rw [show th σ 2 30 0 0 0 = 2 from up_same _ _ _ _ _ _]
      refine v_if_leN (tgt := 37) hC dX6_asked_32 (by decide) (by decide) (fun c_32 => absurd c_32 (by decide)) (fun c_32 => ?_)
      refine v_iconst (v := nI 0) hC dX6_asked_35 (by decide) ?_
      refine v_iret hC hM dX6_asked_36 (by omega) (by omega) ?_
      exact .inl ⟨2, by simp [k6_asked, gM, gU, gS, h_c, h_d], rfl, rfl⟩
    · dsimp only
      refine v_if_eqN (tgt := 24) hC dX6_asked_17 (by decide) (by decide) (fun c_17 => absurd c_17 (by decide)) (fun c_17 => ?_)
      refine v_iconst (v := nI 0) hC dX6_asked_20 (by decide) ?_
      refine v_goto (tgt := 25) hC dX6_asked_21 (by decide) ?_
      refine pf_X6_1 hC dX6_asked_25 hQ ?_
      show V X G _ _ ok ad (th σ 0) _ _ _
      have hB : BD (th σ 0) := th_BD hB (by decide)
      have h0 : th σ 0 30 0 0 0 = 0 := up_same _ _ _ _ _ _
      generalize th σ 0 = σ at *
      refine v_aload_n hC dX6_asked_28 rfl ?_
      refine gf_X6_1 hC dX6_asked_29 hQ ?_
      rw [h0]
      refine v_if_leN (tgt := 37) hC dX6_asked_32 (by decide) (by decide) (fun c_32 => ?_) (fun c_32 => absurd c_32 (by decide))
      refine v_aload_n hC dX6_asked_37 rfl ?_
      refine v_iload_n hC dX6_asked_38 rfl ?_
      refine v_iload_n hC dX6_asked_39 rfl ?_
      refine v_callV_r0 hC lk_X6_126 dX6_asked_40 (c_X6_ask hl0 hQ hB b2_c b_d) (by decide) (by decide) hQ.k30 rfl rfl rfl rfl (Nat.le_of_ble_eq_true rfl) (by omega) (by omega) ?_
      refine v_if_geM (tgt := 54) hC dX6_asked_43 (by decide) (by first | omega | exact hB _ _ _ _ rfl | exact hB.i _ _ _ _ rfl | assumption | exact b2n_31 _ | exact Nat.lt_trans (mask_lt hB _ _) (by decide)) (fun c_43 => ?_) (fun c_43 => ?_)
      · refine v_aload_n hC dX6_asked_54 rfl ?_
        refine v_iload_n hC dX6_asked_55 rfl ?_
        refine v_iload_n hC dX6_asked_56 rfl ?_
        refine v_callV_r0 hC lk_X6_126 dX6_asked_57 (c_X6_ask hl0 hQ hB b2_c b_d) (by decide) (by decide) hQ.k30 rfl rfl rfl rfl (Nat.le_of_ble_eq_true rfl) (by omega) (by omega) ?_
        rw [dm_pos c_43]
        refine v_iret hC hM dX6_asked_60 (by omega) (by omega) ?_
        exact .inr ⟨_, _, by simp [k6_asked, gM, gU, gS, h_c, h_d, c_43], rfl, rfl⟩
      · refine v_aload_n hC dX6_asked_46 rfl ?_
        refine v_iconst (v := nI 1) hC dX6_asked_47 (by decide) ?_
        refine v_callV_r0 hC lk_X6_96 dX6_asked_48 (c_X6_fails hl0 hQ 1) (by decide) (by decide) hQ.k30 rfl rfl rfl rfl (Nat.le_of_ble_eq_true rfl) (by omega) (by omega) ?_
        refine v_goto (tgt := 60) hC dX6_asked_51 (by decide) ?_
        refine v_iret hC hM dX6_asked_60 (by omega) (by omega) ?_
        exact .inl ⟨1, by simp [k6_asked, gM, gU, gS, h_c, h_d, c_43], rfl, rfl⟩

def k6_missing (σ : SG) (c : Int32) : OM := gM c (σ 30 0 0 2) 1 fun c => .inr (mms σ c 4, σ)
set_option maxHeartbeats 4000000 in
set_option maxRecDepth 100000 in
theorem c_X6_missing {l : Launch} (hl0 : l.stackTraces = false) {G : GT} {ok : KF} {ad : AD} {σ : SG} (hQ : OKM ok) (hB : BD σ) (c : Int32) : Ct l G 4 yX6_missing cX6_missing 2 (some .int) [.ref (ad 30 0 0), .int c] ok ad σ (mV (k6_missing (th σ 0) c) ok ad (th σ 0)) (NX) 0 0 := by
  refine Ct.mk (by decide +kernel) hl0 (Nat.le_of_ble_eq_true rfl) (fun X hX hC hM => ?_)
  subst hX
  refine v_aload_n hC dX6_missing_0 rfl ?_
  refine v_iconst (v := nI 0) hC dX6_missing_1 (by decide) ?_
  refine pf_X6_1 hC dX6_missing_2 hQ ?_
  show V X G _ _ ok ad (th σ 0) _ _ _
  have hB : BD (th σ 0) := th_BD hB (by decide)
  have h0 : th σ 0 30 0 0 0 = 0 := up_same _ _ _ _ _ _
  generalize th σ 0 = σ at *
  refine v_aload_n hC dX6_missing_5 rfl ?_
  refine v_iload_n hC dX6_missing_6 rfl ?_
  refine v_callV hC lk_X6_106 dX6_missing_7 (c_X6_isChange hl0 hQ hB (x := c)) (by decide) (by decide) hQ.k30 rfl rfl rfl rfl (Nat.le_of_ble_eq_true rfl) (by omega) (by omega) (fun v μ h => ?_) (fun _ _ h => h.elim)
  rcases h with ⟨h_c, rfl, rfl⟩ | ⟨c, h_c, rfl, b_c, rfl, rfl⟩
  · dsimp only
    refine v_if_eqN (tgt := 21) hC dX6_missing_10 (by decide) (by decide) (fun c_10 => ?_) (fun c_10 => absurd c_10 (by decide))
    refine v_aload_n hC dX6_missing_21 rfl ?_
    refine v_iconst (v := nI 1) hC dX6_missing_22 (by decide) ?_
    refine v_callV_r0 hC lk_X6_96 dX6_missing_23 (c_X6_fails hl0 hQ 1) (by decide) (by decide) hQ.k30 rfl rfl rfl rfl (Nat.le_of_ble_eq_true rfl) (by omega) (by omega) ?_
    refine v_iret hC hM dX6_missing_26 (by omega) (by omega) ?_
    exact .inl ⟨1, by simp [k6_missing, gM, gU, gS, h_c], rfl, rfl⟩
  · dsimp only
    have b2_c : c < 16 := by
      have hn17 : σ 30 0 0 2 < 17 := hB 30 0 0 2 rfl
      omega
    refine v_if_eqN (tgt := 21) hC dX6_missing_10 (by decide) (by decide) (fun c_10 => absurd c_10 (by decide)) (fun c_10 => ?_)
    refine v_aload_n hC dX6_missing_13 rfl ?_
    refine v_iload_n hC dX6_missing_14 rfl ?_
    refine v_callV_r0 hC lk_X6_137 dX6_missing_15 (c_X6_missingIn hl0 hQ hB b2_c) (by decide) (by decide) hQ.k30 rfl rfl rfl rfl (Nat.le_of_ble_eq_true rfl) (by omega) (by omega) ?_
    refine v_goto (tgt := 26) hC dX6_missing_18 (by decide) ?_
    refine v_iret hC hM dX6_missing_26 (by omega) (by omega) ?_
    exact .inr ⟨_, _, by simp [k6_missing, gM, gU, gS, h_c], rfl, rfl⟩

/-- a change queued -/
def mqu (σ : SG) (c : Nat) : SG := up (up (up σ 52 0 0 c 113) 50 0 0 (σ 30 0 0 3) c) 30 0 0 3 (σ 30 0 0 3 + 1)
theorem mms_le (σ : SG) (c n : Nat) : mms σ c n ≤ n := cnt_le _ _
def k6_queue (σ : SG) (c : Int32) : OM := gU σ c 111 fun c => if emy σ c 64 = 0 then .inl 2 else if cmy σ c 64 ≠ 0 then .inl 2 else if mms σ c 4 ≠ 0 then .inl 3 else .inr (σ 30 0 0 3 + 1, mqu σ c)
set_option maxHeartbeats 4000000 in
set_option maxRecDepth 100000 in
theorem c_X6_queue {l : Launch} (hl0 : l.stackTraces = false) {G : GT} {ok : KF} {ad : AD} {σ : SG} (hQ : OKM ok) (hB : BD σ) (c : Int32) (hq : ∀ c, c < 16 → σ 52 0 0 c = 111 → σ 30 0 0 3 < 16) : Ct l G 4 yX6_queue cX6_queue 2 (some .int) [.ref (ad 30 0 0), .int c] ok ad σ (mV (k6_queue (th σ 0) c) ok ad (th σ 0)) (NX) 0 0 := by
  refine Ct.mk (by decide +kernel) hl0 (Nat.le_of_ble_eq_true rfl) (fun X hX hC hM => ?_)
  subst hX
  have hq : ∀ c, c < 16 → th σ 0 52 0 0 c = 111 → th σ 0 30 0 0 3 < 16 := hq
  refine v_aload_n hC dX6_queue_0 rfl ?_
  refine v_iload_n hC dX6_queue_1 rfl ?_
  refine v_bipush (v := nI 111) hC dX6_queue_2 (by decide) ?_
  refine v_callV hC lk_X6_116 dX6_queue_4 (c_X6_isUnlike hl0 hQ hB (x := c) (s := 111) (by decide)) (by decide) (by decide) hQ.k30 rfl rfl rfl rfl (Nat.le_of_ble_eq_true rfl) (by omega) (by omega) (fun v μ h => ?_) (fun _ _ h => h.elim)
  rcases h with ⟨h_c, rfl, rfl⟩ | ⟨c, h_c, rfl, b2_c, b_c, ⟨h_st, rfl, rfl⟩ | ⟨h_st, rfl, rfl⟩⟩
  · dsimp only
    have hB : BD (th σ 0) := th_BD hB (by decide)
    have h0 : th σ 0 30 0 0 0 = 0 := up_same _ _ _ _ _ _
    generalize th σ 0 = σ at *
    refine v_if_eqN (tgt := 12) hC dX6_queue_7 (by decide) (by decide) (fun c_7 => absurd c_7 (by decide)) (fun c_7 => ?_)
    refine v_iconst (v := nI 0) hC dX6_queue_10 (by decide) ?_
    refine v_iret hC hM dX6_queue_11 (by omega) (by omega) ?_
    exact .inl ⟨1, by simp [k6_queue, gM, gU, gS, h_c], rfl, rfl⟩
  · dsimp only
    have hB : BD (th σ 0) := th_BD hB (by decide)
    have h0 : th σ 0 30 0 0 0 = 0 := up_same _ _ _ _ _ _
    generalize th σ 0 = σ at *
    refine v_if_eqN (tgt := 12) hC dX6_queue_7 (by decide) (by decide) (fun c_7 => absurd c_7 (by decide)) (fun c_7 => ?_)
    refine v_iconst (v := nI 0) hC dX6_queue_10 (by decide) ?_
    refine v_iret hC hM dX6_queue_11 (by omega) (by omega) ?_
    exact .inl ⟨2, by simp [k6_queue, gM, gU, gS, h_c, h_st], rfl, rfl⟩
  · dsimp only
    have hB : BD (th σ 0) := th_BD hB (by decide)
    have h0 : th σ 0 30 0 0 0 = 0 := up_same _ _ _ _ _ _
    generalize th σ 0 = σ at *
    refine v_if_eqN (tgt := 12) hC dX6_queue_7 (by decide) (by decide) (fun c_7 => ?_) (fun c_7 => absurd c_7 (by decide))
    refine v_aload_n hC dX6_queue_12 rfl ?_
    refine v_iload_n hC dX6_queue_13 rfl ?_
    refine v_callV_r0 hC lk_X6_113 dX6_queue_14 (c_X6_editMany hl0 hQ hB b2_c) (by decide) (by decide) hQ.k30 rfl rfl rfl rfl (Nat.le_of_ble_eq_true rfl) (by omega) (by omega) ?_
    refine v_if_eqN (tgt := 28) hC dX6_queue_17 (by decide) (by first | omega | exact hB _ _ _ _ rfl | exact hB.i _ _ _ _ rfl | assumption | exact b2n_31 _ | exact Nat.lt_of_le_of_lt (emy_le _ _ _) (by decide) | exact Nat.lt_of_le_of_lt (cmy_le _ _ _) (by decide) | exact Nat.lt_of_le_of_lt (mms_le _ _ _) (by decide)) (fun c_17 => ?_) (fun c_17 => ?_)
    · refine v_aload_n hC dX6_queue_28 rfl ?_
      refine v_iconst (v := nI 2) hC dX6_queue_29 (by decide) ?_
      refine v_callV_r0 hC lk_X6_96 dX6_queue_30 (c_X6_fails hl0 hQ 2) (by decide) (by decide) hQ.k30 rfl rfl rfl rfl (Nat.le_of_ble_eq_true rfl) (by omega) (by omega) ?_
      refine v_iret hC hM dX6_queue_33 (by omega) (by omega) ?_
      exact .inl ⟨2, by simp [k6_queue, gM, gU, gS, h_c, h_st, c_17], rfl, rfl⟩
    · refine v_aload_n hC dX6_queue_20 rfl ?_
      refine v_iload_n hC dX6_queue_21 rfl ?_
      refine v_callV_r0 hC lk_X6_140 dX6_queue_22 (c_X6_clashMany hl0 hQ hB b2_c) (by decide) (by decide) hQ.k30 rfl rfl rfl rfl (Nat.le_of_ble_eq_true rfl) (by omega) (by omega) ?_
      refine v_if_leN (tgt := 34) hC dX6_queue_25 (by decide) (by first | omega | exact hB _ _ _ _ rfl | exact hB.i _ _ _ _ rfl | assumption | exact b2n_31 _ | exact Nat.lt_of_le_of_lt (emy_le _ _ _) (by decide) | exact Nat.lt_of_le_of_lt (cmy_le _ _ _) (by decide) | exact Nat.lt_of_le_of_lt (mms_le _ _ _) (by decide)) (fun c_25 => ?_) (fun c_25 => ?_)
      · refine v_aload_n hC dX6_queue_34 rfl ?_
        refine v_iload_n hC dX6_queue_35 rfl ?_
        refine v_callV_r0 hC lk_X6_137 dX6_queue_36 (c_X6_missingIn hl0 hQ hB b2_c) (by decide) (by decide) hQ.k30 rfl rfl rfl rfl (Nat.le_of_ble_eq_true rfl) (by omega) (by omega) ?_
        refine v_if_leN (tgt := 48) hC dX6_queue_39 (by decide) (by first | omega | exact hB _ _ _ _ rfl | exact hB.i _ _ _ _ rfl | assumption | exact b2n_31 _ | exact Nat.lt_of_le_of_lt (emy_le _ _ _) (by decide) | exact Nat.lt_of_le_of_lt (cmy_le _ _ _) (by decide) | exact Nat.lt_of_le_of_lt (mms_le _ _ _) (by decide)) (fun c_39 => ?_) (fun c_39 => ?_)
        · have hqr := hq c b2_c h_st
          refine v_aload_n hC dX6_queue_48 rfl ?_
          refine gf_X6_75 hC dX6_queue_49 hQ ?_
          refine v_iload_n hC dX6_queue_52 rfl ?_
          refine v_bipush (v := nI 113) hC dX6_queue_53 (by decide) ?_
          refine as_52 hC dX6_queue_55 hQ (by first | omega | exact hB _ _ _ _ rfl | exact hB.i _ _ _ _ rfl | assumption | exact b2n_31 _ | exact Nat.lt_of_le_of_lt (emy_le _ _ _) (by decide) | exact Nat.lt_of_le_of_lt (cmy_le _ _ _) (by decide) | exact Nat.lt_of_le_of_lt (mms_le _ _ _) (by decide)) (by first | omega | exact hB _ _ _ _ rfl | exact hB.i _ _ _ _ rfl | assumption | exact b2n_31 _ | exact Nat.lt_of_le_of_lt (emy_le _ _ _) (by decide) | exact Nat.lt_of_le_of_lt (cmy_le _ _ _) (by decide) | exact Nat.lt_of_le_of_lt (mms_le _ _ _) (by decide)) ?_
          refine v_aload_n hC dX6_queue_56 rfl ?_
          refine gf_X6_69 hC dX6_queue_57 hQ ?_
          refine v_aload_n hC dX6_queue_60 rfl ?_
          refine gf_X6_143 hC dX6_queue_61 hQ ?_
          rw [show up σ 52 0 0 c 113 30 0 0 3 = σ 30 0 0 3 from up_k (by decide)]
          refine v_iload_n hC dX6_queue_64 rfl ?_
          refine as_50 hC dX6_queue_65 hQ (by first | omega | exact hB _ _ _ _ rfl | exact hB.i _ _ _ _ rfl | assumption | exact b2n_31 _ | exact Nat.lt_of_le_of_lt (emy_le _ _ _) (by decide) | exact Nat.lt_of_le_of_lt (cmy_le _ _ _) (by decide) | exact Nat.lt_of_le_of_lt (mms_le _ _ _) (by decide)) ?_
          refine v_aload_n hC dX6_queue_66 rfl ?_
          refine v_dup hC dX6_queue_67 rfl ?_
          refine gf_X6_143 hC dX6_queue_68 hQ ?_
          rw [show up (up σ 52 0 0 c 113) 50 0 0 (σ 30 0 0 3) c 30 0 0 3 = σ 30 0 0 3 from (up_k (by decide)).trans (up_k (by decide))]
          refine v_iconst (v := nI 1) hC dX6_queue_71 (by decide) ?_
          refine v_iaddN hC dX6_queue_72 ?_
          refine pf_X6_143 hC dX6_queue_73 hQ ?_
          refine v_aload_n hC dX6_queue_76 rfl ?_
          refine gf_X6_143 hC dX6_queue_77 hQ ?_
          rw [up_same]
          refine v_iret hC hM dX6_queue_80 (by omega) (by omega) ?_
          exact .inr ⟨_, _, by simp [k6_queue, gU, mqu, h_c, h_st, c_17, c_25, c_39], rfl, rfl⟩
        · refine v_aload_n hC dX6_queue_42 rfl ?_
          refine v_iconst (v := nI 3) hC dX6_queue_43 (by decide) ?_
          refine v_callV_r0 hC lk_X6_96 dX6_queue_44 (c_X6_fails hl0 hQ 3) (by decide) (by decide) hQ.k30 rfl rfl rfl rfl (Nat.le_of_ble_eq_true rfl) (by omega) (by omega) ?_
          refine v_iret hC hM dX6_queue_47 (by omega) (by omega) ?_
          exact .inl ⟨3, by simp [k6_queue, gU, h_c, h_st, c_17, c_25, Nat.ne_of_gt c_39], rfl, rfl⟩
      · refine v_aload_n hC dX6_queue_28 rfl ?_
        refine v_iconst (v := nI 2) hC dX6_queue_29 (by decide) ?_
        refine v_callV_r0 hC lk_X6_96 dX6_queue_30 (c_X6_fails hl0 hQ 2) (by decide) (by decide) hQ.k30 rfl rfl rfl rfl (Nat.le_of_ble_eq_true rfl) (by omega) (by omega) ?_
        refine v_iret hC hM dX6_queue_33 (by omega) (by omega) ?_
        exact .inl ⟨2, by simp [k6_queue, gU, h_c, h_st, c_17, Nat.ne_of_gt c_25], rfl, rfl⟩

/-- a change taken out of the queue -/
def muq (σ : SG) (c k0 : Nat) : SG := up (lvs σ k0 (σ 30 0 0 3 - 1)) 52 0 0 c 111
/-- where a change first stands in the queue -/
def qix (σ : SG) (c : Nat) : Nat → Nat
  | 0 => 0
  | n + 1 => if σ 50 0 0 (qix σ c n) = c ∧ qix σ c n < n then qix σ c n else n
theorem qix_ok {σ : SG} {c k0 : Nat} (h1 : σ 50 0 0 k0 = c) (h2 : ∀ j, j < k0 → σ 50 0 0 j ≠ c) : ∀ n, k0 < n → qix σ c n = k0
  | 0, h => absurd h (Nat.not_lt_zero _)
  | n + 1, h => by
    by_cases e : k0 = n
    · subst e
      show (if σ 50 0 0 (qix σ c k0) = c ∧ qix σ c k0 < k0 then qix σ c k0 else k0) = k0
      rw [if_neg (fun q => h2 _ q.2 q.1)]
    · have ih := qix_ok h1 h2 n (by omega)
      show (if σ 50 0 0 (qix σ c n) = c ∧ qix σ c n < n then qix σ c n else n) = k0
      rw [ih, if_pos ⟨h1, by omega⟩]
def k6_unqueue (σ : SG) (c : Int32) : OM := gU σ c 113 fun c => .inr (σ 30 0 0 3 - 1, muq σ c (qix σ c (σ 30 0 0 3)))
set_option maxHeartbeats 4000000 in
set_option maxRecDepth 100000 in
theorem c_X6_unqueue {l : Launch} (hl0 : l.stackTraces = false) {G : GT} {ok : KF} {ad : AD} {σ : SG} (hQ : OKM ok) (hB : BD σ) (c : Int32) (hq : ∀ c, c < σ 30 0 0 2 → σ 52 0 0 c = 113 → ∃ k0, k0 < σ 30 0 0 3 ∧ σ 50 0 0 k0 = c ∧ ∀ j, j < k0 → σ 50 0 0 j ≠ c) : Ct l G 3 yX6_unqueue cX6_unqueue 2 (some .int) [.ref (ad 30 0 0), .int c] ok ad σ (mV (k6_unqueue (th σ 0) c) ok ad (th σ 0)) (NX) 0 0 := by
  refine Ct.mk (by decide +kernel) hl0 (Nat.le_of_ble_eq_true rfl) (fun X hX hC hM => ?_)
  subst hX
  have hq : ∀ c, c < th σ 0 30 0 0 2 → th σ 0 52 0 0 c = 113 → ∃ k0, k0 < th σ 0 30 0 0 3 ∧ th σ 0 50 0 0 k0 = c ∧ ∀ j, j < k0 → th σ 0 50 0 0 j ≠ c := hq
  refine v_aload_n hC dX6_unqueue_0 rfl ?_
  refine v_iload_n hC dX6_unqueue_1 rfl ?_
  refine v_bipush (v := nI 113) hC dX6_unqueue_2 (by decide) ?_
  refine v_callV hC lk_X6_116 dX6_unqueue_4 (c_X6_isUnlike hl0 hQ hB (x := c) (s := 113) (by decide)) (by decide) (by decide) hQ.k30 rfl rfl rfl rfl (Nat.le_of_ble_eq_true rfl) (by omega) (by omega) (fun v μ h => ?_) (fun _ _ h => h.elim)
  rcases h with ⟨h_c, rfl, rfl⟩ | ⟨c, h_c, rfl, b2_c, b_c, ⟨h_st, rfl, rfl⟩ | ⟨h_st, rfl, rfl⟩⟩
  · dsimp only
    have hB : BD (th σ 0) := th_BD hB (by decide)
    have h0 : th σ 0 30 0 0 0 = 0 := up_same _ _ _ _ _ _
    generalize th σ 0 = σ at *
    refine v_if_eqN (tgt := 12) hC dX6_unqueue_7 (by decide) (by decide) (fun c_7 => absurd c_7 (by decide)) (fun c_7 => ?_)
    refine v_iconst (v := nI 0) hC dX6_unqueue_10 (by decide) ?_
    refine v_iret hC hM dX6_unqueue_11 (by omega) (by omega) ?_
    exact .inl ⟨1, by simp [k6_unqueue, gM, gU, gS, h_c], rfl, rfl⟩
  · dsimp only
    have hB : BD (th σ 0) := th_BD hB (by decide)
    have h0 : th σ 0 30 0 0 0 = 0 := up_same _ _ _ _ _ _
    generalize th σ 0 = σ at *
    refine v_if_eqN (tgt := 12) hC dX6_unqueue_7 (by decide) (by decide) (fun c_7 => absurd c_7 (by decide)) (fun c_7 => ?_)
    refine v_iconst (v := nI 0) hC dX6_unqueue_10 (by decide) ?_
    refine v_iret hC hM dX6_unqueue_11 (by omega) (by omega) ?_
    exact .inl ⟨2, by simp [k6_unqueue, gM, gU, gS, h_c, h_st], rfl, rfl⟩
  · dsimp only
    have hB : BD (th σ 0) := th_BD hB (by decide)
    have h0 : th σ 0 30 0 0 0 = 0 := up_same _ _ _ _ _ _
    generalize th σ 0 = σ at *
    refine v_if_eqN (tgt := 12) hC dX6_unqueue_7 (by decide) (by decide) (fun c_7 => ?_) (fun c_7 => absurd c_7 (by decide))
    obtain ⟨k0, hk1, hk2, hk3⟩ := hq c b_c h_st
    have hqi := qix_ok hk2 hk3 _ hk1
    have hBl := lvs_BD hB k0 (σ 30 0 0 3 - 1)
    refine v_aload_n hC dX6_unqueue_12 rfl ?_
    refine v_iload_n hC dX6_unqueue_13 rfl ?_
    refine v_callV_v0 hC lk_X6_146 dX6_unqueue_14 (c_X6_leaves hl0 hQ hB b2_c hk1 hk2 hk3) (by decide) (by decide) hQ.k30 rfl rfl rfl rfl (Nat.le_of_ble_eq_true rfl) (by omega) (by omega) ?_
    refine v_aload_n hC dX6_unqueue_17 rfl ?_
    refine gf_X6_75 hC dX6_unqueue_18 hQ ?_
    refine v_iload_n hC dX6_unqueue_21 rfl ?_
    refine v_bipush (v := nI 111) hC dX6_unqueue_22 (by decide) ?_
    refine as_52 hC dX6_unqueue_24 hQ (by first | omega | exact hB _ _ _ _ rfl | exact hB.i _ _ _ _ rfl | assumption | exact b2n_31 _) (by first | omega | exact hB _ _ _ _ rfl | exact hB.i _ _ _ _ rfl | assumption | exact b2n_31 _) ?_
    refine v_aload_n hC dX6_unqueue_25 rfl ?_
    refine gf_X6_143 hC dX6_unqueue_26 hQ ?_
    rw [show up (lvs σ k0 (σ 30 0 0 3 - 1)) 52 0 0 c 111 30 0 0 3 = σ 30 0 0 3 - 1 from (up_k (by decide)).trans (lvs_3 _ _ _)]
    refine v_iret hC hM dX6_unqueue_29 (by omega) (by omega) ?_
    exact .inr ⟨σ 30 0 0 3 - 1, muq σ c k0, by simp [k6_unqueue, gU, h_c, h_st, hqi], rfl, rfl⟩

def k6_queueAt (σ : SG) (n : Int32) : OM := gM n (σ 30 0 0 3) 1 fun n => .inr (σ 50 0 0 n, σ)
set_option maxHeartbeats 4000000 in
set_option maxRecDepth 100000 in
theorem c_X6_queueAt {l : Launch} (hl0 : l.stackTraces = false) {G : GT} {ok : KF} {ad : AD} {σ : SG} (hQ : OKM ok) (hB : BD σ) (n : Int32) : Ct l G 3 yX6_queueAt cX6_queueAt 2 (some .int) [.ref (ad 30 0 0), .int n] ok ad σ (mV (k6_queueAt (th σ 0) n) ok ad (th σ 0)) (NX) 0 0 := by
  refine Ct.mk (by decide +kernel) hl0 (Nat.le_of_ble_eq_true rfl) (fun X hX hC hM => ?_)
  subst hX
  refine v_aload_n hC dX6_queueAt_0 rfl ?_
  refine v_iconst (v := nI 0) hC dX6_queueAt_1 (by decide) ?_
  refine pf_X6_1 hC dX6_queueAt_2 hQ ?_
  show V X G _ _ ok ad (th σ 0) _ _ _
  have hB : BD (th σ 0) := th_BD hB (by decide)
  have h0 : th σ 0 30 0 0 0 = 0 := up_same _ _ _ _ _ _
  generalize th σ 0 = σ at *
  have hs17 : σ 30 0 0 3 < 17 := hB 30 0 0 3 rfl
  refine v_iload_n hC dX6_queueAt_5 rfl ?_
  refine v_iconst (v := nI 0) hC dX6_queueAt_6 (by decide) ?_
  refine v_aload_n hC dX6_queueAt_7 rfl ?_
  refine gf_X6_143 hC dX6_queueAt_8 hQ ?_
  refine v_iconst (v := nI 1) hC dX6_queueAt_11 (by decide) ?_
  refine v_isub hC dX6_queueAt_12 ?_
  rw [dm_sub1 (by omega)]
  refine v_callS hC lk_X6_7 dX6_queueAt_13 (c_X6_isBetween hl0 (x := n) (n := σ 30 0 0 3) (by omega)) (by decide) (by decide) rfl rfl (Nat.le_of_ble_eq_true rfl) (by omega) (by omega) (fun v μ h => ?_) (fun _ _ h => h.elim)
  rcases h with ⟨h_n, rfl, rfl⟩ | ⟨n, h_n, rfl, b_n, rfl, rfl⟩
  · dsimp only
    refine v_if_eqN (tgt := 28) hC dX6_queueAt_16 (by decide) (by decide) (fun c_16 => ?_) (fun c_16 => absurd c_16 (by decide))
    refine v_aload_n hC dX6_queueAt_28 rfl ?_
    refine v_iconst (v := nI 1) hC dX6_queueAt_29 (by decide) ?_
    refine v_callV_r0 hC lk_X6_96 dX6_queueAt_30 (c_X6_fails hl0 hQ 1) (by decide) (by decide) hQ.k30 rfl rfl rfl rfl (Nat.le_of_ble_eq_true rfl) (by omega) (by omega) ?_
    refine v_iret hC hM dX6_queueAt_33 (by omega) (by omega) ?_
    exact .inl ⟨1, by simp [k6_queueAt, gM, gU, gS, h_n], rfl, rfl⟩
  · dsimp only
    refine v_if_eqN (tgt := 28) hC dX6_queueAt_16 (by decide) (by decide) (fun c_16 => absurd c_16 (by decide)) (fun c_16 => ?_)
    refine v_aload_n hC dX6_queueAt_19 rfl ?_
    refine gf_X6_69 hC dX6_queueAt_20 hQ ?_
    refine v_iload_n hC dX6_queueAt_23 rfl ?_
    refine al_50 hC dX6_queueAt_24 hQ (by first | omega | exact hB _ _ _ _ rfl | exact hB.i _ _ _ _ rfl | assumption | exact b2n_31 _) ?_
    refine v_goto (tgt := 33) hC dX6_queueAt_25 (by decide) ?_
    refine v_iret hC hM dX6_queueAt_33 (by omega) (by omega) ?_
    exact .inr ⟨_, _, by simp [k6_queueAt, gM, gU, gS, h_n], rfl, rfl⟩

def k6_mergedAt (σ : SG) (n : Int32) : OM := gM n (σ 30 0 0 4) 1 fun n => .inr (σ 51 0 0 n, σ)
set_option maxHeartbeats 4000000 in
set_option maxRecDepth 100000 in
theorem c_X6_mergedAt {l : Launch} (hl0 : l.stackTraces = false) {G : GT} {ok : KF} {ad : AD} {σ : SG} (hQ : OKM ok) (hB : BD σ) (n : Int32) : Ct l G 3 yX6_mergedAt cX6_mergedAt 2 (some .int) [.ref (ad 30 0 0), .int n] ok ad σ (mV (k6_mergedAt (th σ 0) n) ok ad (th σ 0)) (NX) 0 0 := by
  refine Ct.mk (by decide +kernel) hl0 (Nat.le_of_ble_eq_true rfl) (fun X hX hC hM => ?_)
  subst hX
  refine v_aload_n hC dX6_mergedAt_0 rfl ?_
  refine v_iconst (v := nI 0) hC dX6_mergedAt_1 (by decide) ?_
  refine pf_X6_1 hC dX6_mergedAt_2 hQ ?_
  show V X G _ _ ok ad (th σ 0) _ _ _
  have hB : BD (th σ 0) := th_BD hB (by decide)
  have h0 : th σ 0 30 0 0 0 = 0 := up_same _ _ _ _ _ _
  generalize th σ 0 = σ at *
  have hs17 : σ 30 0 0 4 < 17 := hB 30 0 0 4 rfl
  refine v_iload_n hC dX6_mergedAt_5 rfl ?_
  refine v_iconst (v := nI 0) hC dX6_mergedAt_6 (by decide) ?_
  refine v_aload_n hC dX6_mergedAt_7 rfl ?_
  refine gf_X6_198 hC dX6_mergedAt_8 hQ ?_
  refine v_iconst (v := nI 1) hC dX6_mergedAt_11 (by decide) ?_
  refine v_isub hC dX6_mergedAt_12 ?_
  rw [dm_sub1 (by omega)]
  refine v_callS hC lk_X6_7 dX6_mergedAt_13 (c_X6_isBetween hl0 (x := n) (n := σ 30 0 0 4) (by omega)) (by decide) (by decide) rfl rfl (Nat.le_of_ble_eq_true rfl) (by omega) (by omega) (fun v μ h => ?_) (fun _ _ h => h.elim)
  rcases h with ⟨h_n, rfl, rfl⟩ | ⟨n, h_n, rfl, b_n, rfl, rfl⟩
  · dsimp only
    refine v_if_eqN (tgt := 28) hC dX6_mergedAt_16 (by decide) (by decide) (fun c_16 => ?_) (fun c_16 => absurd c_16 (by decide))
    refine v_aload_n hC dX6_mergedAt_28 rfl ?_
    refine v_iconst (v := nI 1) hC dX6_mergedAt_29 (by decide) ?_
    refine v_callV_r0 hC lk_X6_96 dX6_mergedAt_30 (c_X6_fails hl0 hQ 1) (by decide) (by decide) hQ.k30 rfl rfl rfl rfl (Nat.le_of_ble_eq_true rfl) (by omega) (by omega) ?_
    refine v_iret hC hM dX6_mergedAt_33 (by omega) (by omega) ?_
    exact .inl ⟨1, by simp [k6_mergedAt, gM, gU, gS, h_n], rfl, rfl⟩
  · dsimp only
    refine v_if_eqN (tgt := 28) hC dX6_mergedAt_16 (by decide) (by decide) (fun c_16 => absurd c_16 (by decide)) (fun c_16 => ?_)
    refine v_aload_n hC dX6_mergedAt_19 rfl ?_
    refine gf_X6_72 hC dX6_mergedAt_20 hQ ?_
    refine v_iload_n hC dX6_mergedAt_23 rfl ?_
    refine al_51 hC dX6_mergedAt_24 hQ (by first | omega | exact hB _ _ _ _ rfl | exact hB.i _ _ _ _ rfl | assumption | exact b2n_31 _) ?_
    refine v_goto (tgt := 33) hC dX6_mergedAt_25 (by decide) ?_
    refine v_iret hC hM dX6_mergedAt_33 (by omega) (by omega) ?_
    exact .inr ⟨_, _, by simp [k6_mergedAt, gM, gU, gS, h_n], rfl, rfl⟩

def k6_stateOf (σ : SG) (c : Int32) : OM := gM c (σ 30 0 0 2) 1 fun c => .inr (σ 52 0 0 c, σ)
set_option maxHeartbeats 4000000 in
set_option maxRecDepth 100000 in
theorem c_X6_stateOf {l : Launch} (hl0 : l.stackTraces = false) {G : GT} {ok : KF} {ad : AD} {σ : SG} (hQ : OKM ok) (hB : BD σ) (c : Int32) : Ct l G 3 yX6_stateOf cX6_stateOf 2 (some .char) [.ref (ad 30 0 0), .int c] ok ad σ (mV (k6_stateOf (th σ 0) c) ok ad (th σ 0)) (NX) 0 0 := by
  refine Ct.mk (by decide +kernel) hl0 (Nat.le_of_ble_eq_true rfl) (fun X hX hC hM => ?_)
  subst hX
  refine v_aload_n hC dX6_stateOf_0 rfl ?_
  refine v_iconst (v := nI 0) hC dX6_stateOf_1 (by decide) ?_
  refine pf_X6_1 hC dX6_stateOf_2 hQ ?_
  show V X G _ _ ok ad (th σ 0) _ _ _
  have hB : BD (th σ 0) := th_BD hB (by decide)
  have h0 : th σ 0 30 0 0 0 = 0 := up_same _ _ _ _ _ _
  generalize th σ 0 = σ at *
  refine v_aload_n hC dX6_stateOf_5 rfl ?_
  refine v_iload_n hC dX6_stateOf_6 rfl ?_
  refine v_callV hC lk_X6_106 dX6_stateOf_7 (c_X6_isChange hl0 hQ hB (x := c)) (by decide) (by decide) hQ.k30 rfl rfl rfl rfl (Nat.le_of_ble_eq_true rfl) (by omega) (by omega) (fun v μ h => ?_) (fun _ _ h => h.elim)
  rcases h with ⟨h_c, rfl, rfl⟩ | ⟨c, h_c, rfl, b_c, rfl, rfl⟩
  · dsimp only
    refine v_if_eqN (tgt := 22) hC dX6_stateOf_10 (by decide) (by decide) (fun c_10 => ?_) (fun c_10 => absurd c_10 (by decide))
    refine v_aload_n hC dX6_stateOf_22 rfl ?_
    refine v_iconst (v := nI 1) hC dX6_stateOf_23 (by decide) ?_
    refine v_callV_r0 hC lk_X6_96 dX6_stateOf_24 (c_X6_fails hl0 hQ 1) (by decide) (by decide) hQ.k30 rfl rfl rfl rfl (Nat.le_of_ble_eq_true rfl) (by omega) (by omega) ?_
    refine v_i2c (v := nI 0) hC dX6_stateOf_27 (by decide) ?_
    refine v_zret hC hM dX6_stateOf_28 (by first | exact nar_c (hB 52 0 0 _ rfl) | exact nar_c (by decide)) (by omega) (by omega) ?_
    exact .inl ⟨1, by simp [k6_stateOf, gM, gU, gS, h_c], rfl, rfl⟩
  · dsimp only
    have b2_c : c < 16 := by
      have hn17 : σ 30 0 0 2 < 17 := hB 30 0 0 2 rfl
      omega
    refine v_if_eqN (tgt := 22) hC dX6_stateOf_10 (by decide) (by decide) (fun c_10 => absurd c_10 (by decide)) (fun c_10 => ?_)
    refine v_aload_n hC dX6_stateOf_13 rfl ?_
    refine gf_X6_75 hC dX6_stateOf_14 hQ ?_
    refine v_iload_n hC dX6_stateOf_17 rfl ?_
    refine al_52 hC dX6_stateOf_18 hQ (by first | omega | exact hB _ _ _ _ rfl | exact hB.i _ _ _ _ rfl | assumption | exact b2n_31 _) ?_
    refine v_goto (tgt := 28) hC dX6_stateOf_19 (by decide) ?_
    refine v_zret hC hM dX6_stateOf_28 (by first | exact nar_c (hB 52 0 0 _ rfl) | exact nar_c (by decide)) (by omega) (by omega) ?_
    exact .inr ⟨_, _, by simp [k6_stateOf, gM, gU, gS, h_c], rfl, rfl⟩

def k6_hasFailed (σ : SG) (c : Int32) : OM := gM c (σ 30 0 0 2) 1 fun c => .inr (σ 53 0 0 c, σ)
set_option maxHeartbeats 4000000 in
set_option maxRecDepth 100000 in
theorem c_X6_hasFailed {l : Launch} (hl0 : l.stackTraces = false) {G : GT} {ok : KF} {ad : AD} {σ : SG} (hQ : OKM ok) (hB : BD σ) (c : Int32) : Ct l G 3 yX6_hasFailed cX6_hasFailed 2 (some .boolean) [.ref (ad 30 0 0), .int c] ok ad σ (mV (k6_hasFailed (th σ 0) c) ok ad (th σ 0)) (NX) 0 0 := by
  refine Ct.mk (by decide +kernel) hl0 (Nat.le_of_ble_eq_true rfl) (fun X hX hC hM => ?_)
  subst hX
  refine v_aload_n hC dX6_hasFailed_0 rfl ?_
  refine v_iconst (v := nI 0) hC dX6_hasFailed_1 (by decide) ?_
  refine pf_X6_1 hC dX6_hasFailed_2 hQ ?_
  show V X G _ _ ok ad (th σ 0) _ _ _
  have hB : BD (th σ 0) := th_BD hB (by decide)
  have h0 : th σ 0 30 0 0 0 = 0 := up_same _ _ _ _ _ _
  generalize th σ 0 = σ at *
  refine v_aload_n hC dX6_hasFailed_5 rfl ?_
  refine v_iload_n hC dX6_hasFailed_6 rfl ?_
  refine v_callV hC lk_X6_106 dX6_hasFailed_7 (c_X6_isChange hl0 hQ hB (x := c)) (by decide) (by decide) hQ.k30 rfl rfl rfl rfl (Nat.le_of_ble_eq_true rfl) (by omega) (by omega) (fun v μ h => ?_) (fun _ _ h => h.elim)
  rcases h with ⟨h_c, rfl, rfl⟩ | ⟨c, h_c, rfl, b_c, rfl, rfl⟩
  · dsimp only
    refine v_if_eqN (tgt := 22) hC dX6_hasFailed_10 (by decide) (by decide) (fun c_10 => ?_) (fun c_10 => absurd c_10 (by decide))
    refine v_aload_n hC dX6_hasFailed_22 rfl ?_
    refine v_iconst (v := nI 1) hC dX6_hasFailed_23 (by decide) ?_
    refine v_callV_r0 hC lk_X6_103 dX6_hasFailed_24 (c_X6_isWrong hl0 hQ 1) (by decide) (by decide) hQ.k30 rfl rfl rfl rfl (Nat.le_of_ble_eq_true rfl) (by omega) (by omega) ?_
    refine v_zret hC hM dX6_hasFailed_27 (by first | exact nar_z (hB 53 0 0 _ rfl) | exact nar_z b_of0) (by omega) (by omega) ?_
    exact .inl ⟨1, by simp [k6_hasFailed, gM, gU, gS, h_c], rfl, rfl⟩
  · dsimp only
    have b2_c : c < 16 := by
      have hn17 : σ 30 0 0 2 < 17 := hB 30 0 0 2 rfl
      omega
    refine v_if_eqN (tgt := 22) hC dX6_hasFailed_10 (by decide) (by decide) (fun c_10 => absurd c_10 (by decide)) (fun c_10 => ?_)
    refine v_aload_n hC dX6_hasFailed_13 rfl ?_
    refine gf_X6_79 hC dX6_hasFailed_14 hQ ?_
    refine v_iload_n hC dX6_hasFailed_17 rfl ?_
    refine al_53 hC dX6_hasFailed_18 hQ (by first | omega | exact hB _ _ _ _ rfl | exact hB.i _ _ _ _ rfl | assumption | exact b2n_31 _) ?_
    refine v_goto (tgt := 27) hC dX6_hasFailed_19 (by decide) ?_
    refine v_zret hC hM dX6_hasFailed_27 (by first | exact nar_z (hB 53 0 0 _ rfl) | exact nar_z b_of0) (by omega) (by omega) ?_
    exact .inr ⟨_, _, by simp [k6_hasFailed, gM, gU, gS, h_c], rfl, rfl⟩

def k6_clashes (σ : SG) (c : Int32) : OM := gM c (σ 30 0 0 2) 1 fun c => .inr (cmy σ c 64, σ)
set_option maxHeartbeats 4000000 in
set_option maxRecDepth 100000 in
theorem c_X6_clashes {l : Launch} (hl0 : l.stackTraces = false) {G : GT} {ok : KF} {ad : AD} {σ : SG} (hQ : OKM ok) (hB : BD σ) (c : Int32) : Ct l G 3 yX6_clashes cX6_clashes 2 (some .int) [.ref (ad 30 0 0), .int c] ok ad σ (mV (k6_clashes (th σ 0) c) ok ad (th σ 0)) (NX) 0 0 := by
  refine Ct.mk (by decide +kernel) hl0 (Nat.le_of_ble_eq_true rfl) (fun X hX hC hM => ?_)
  subst hX
  refine v_aload_n hC dX6_clashes_0 rfl ?_
  refine v_iconst (v := nI 0) hC dX6_clashes_1 (by decide) ?_
  refine pf_X6_1 hC dX6_clashes_2 hQ ?_
  show V X G _ _ ok ad (th σ 0) _ _ _
  have hB : BD (th σ 0) := th_BD hB (by decide)
  have h0 : th σ 0 30 0 0 0 = 0 := up_same _ _ _ _ _ _
  generalize th σ 0 = σ at *
  refine v_aload_n hC dX6_clashes_5 rfl ?_
  refine v_iload_n hC dX6_clashes_6 rfl ?_
  refine v_callV hC lk_X6_106 dX6_clashes_7 (c_X6_isChange hl0 hQ hB (x := c)) (by decide) (by decide) hQ.k30 rfl rfl rfl rfl (Nat.le_of_ble_eq_true rfl) (by omega) (by omega) (fun v μ h => ?_) (fun _ _ h => h.elim)
  rcases h with ⟨h_c, rfl, rfl⟩ | ⟨c, h_c, rfl, b_c, rfl, rfl⟩
  · dsimp only
    refine v_if_eqN (tgt := 21) hC dX6_clashes_10 (by decide) (by decide) (fun c_10 => ?_) (fun c_10 => absurd c_10 (by decide))
    refine v_aload_n hC dX6_clashes_21 rfl ?_
    refine v_iconst (v := nI 1) hC dX6_clashes_22 (by decide) ?_
    refine v_callV_r0 hC lk_X6_96 dX6_clashes_23 (c_X6_fails hl0 hQ 1) (by decide) (by decide) hQ.k30 rfl rfl rfl rfl (Nat.le_of_ble_eq_true rfl) (by omega) (by omega) ?_
    refine v_iret hC hM dX6_clashes_26 (by omega) (by omega) ?_
    exact .inl ⟨1, by simp [k6_clashes, gM, gU, gS, h_c], rfl, rfl⟩
  · dsimp only
    have b2_c : c < 16 := by
      have hn17 : σ 30 0 0 2 < 17 := hB 30 0 0 2 rfl
      omega
    refine v_if_eqN (tgt := 21) hC dX6_clashes_10 (by decide) (by decide) (fun c_10 => absurd c_10 (by decide)) (fun c_10 => ?_)
    refine v_aload_n hC dX6_clashes_13 rfl ?_
    refine v_iload_n hC dX6_clashes_14 rfl ?_
    refine v_callV_r0 hC lk_X6_140 dX6_clashes_15 (c_X6_clashMany hl0 hQ hB b2_c) (by decide) (by decide) hQ.k30 rfl rfl rfl rfl (Nat.le_of_ble_eq_true rfl) (by omega) (by omega) ?_
    refine v_goto (tgt := 26) hC dX6_clashes_18 (by decide) ?_
    refine v_iret hC hM dX6_clashes_26 (by omega) (by omega) ?_
    exact .inr ⟨_, _, by simp [k6_clashes, gM, gU, gS, h_c], rfl, rfl⟩

def k6_value (σ : SG) (f s : Int32) : OM := gS f s 1 fun f s => .inr (σ 31 0 0 (4 * f + s), σ)
set_option maxHeartbeats 4000000 in
set_option maxRecDepth 100000 in
theorem c_X6_value {l : Launch} (hl0 : l.stackTraces = false) {G : GT} {ok : KF} {ad : AD} {σ : SG} (hQ : OKM ok) (hB : BD σ) (f : Int32) (s : Int32) : Ct l G 3 yX6_value cX6_value 3 (some .int) [.ref (ad 30 0 0), .int f, .int s] ok ad σ (mV (k6_value (th σ 0) f s) ok ad (th σ 0)) (NX) 0 0 := by
  refine Ct.mk (by decide +kernel) hl0 (Nat.le_of_ble_eq_true rfl) (fun X hX hC hM => ?_)
  subst hX
  refine v_aload_n hC dX6_value_0 rfl ?_
  refine v_iconst (v := nI 0) hC dX6_value_1 (by decide) ?_
  refine pf_X6_1 hC dX6_value_2 hQ ?_
  show V X G _ _ ok ad (th σ 0) _ _ _
  have hB : BD (th σ 0) := th_BD hB (by decide)
  have h0 : th σ 0 30 0 0 0 = 0 := up_same _ _ _ _ _ _
  generalize th σ 0 = σ at *
  refine v_iload_n hC dX6_value_5 rfl ?_
  refine v_iload_n hC dX6_value_6 rfl ?_
  refine v_callS hC lk_X6_109 dX6_value_7 (c_X6_isSpan hl0 (x := f) (y := s)) (by decide) (by decide) rfl rfl (Nat.le_of_ble_eq_true rfl) (by omega) (by omega) (fun v μ h => ?_) (fun _ _ h => h.elim)
  rcases h with ⟨hor_7 | hor_7, rfl, rfl⟩ | ⟨f, s, h_f, h_s, rfl, rfl, b_f, b_s, rfl, rfl⟩
  · dsimp only
    have h_f := hor_7
    refine v_if_eqN (tgt := 26) hC dX6_value_10 (by decide) (by decide) (fun c_10 => ?_) (fun c_10 => absurd c_10 (by decide))
    refine v_aload_n hC dX6_value_26 rfl ?_
    refine v_iconst (v := nI 1) hC dX6_value_27 (by decide) ?_
    refine v_callV_r0 hC lk_X6_96 dX6_value_28 (c_X6_fails hl0 hQ 1) (by decide) (by decide) hQ.k30 rfl rfl rfl rfl (Nat.le_of_ble_eq_true rfl) (by omega) (by omega) ?_
    refine v_iret hC hM dX6_value_31 (by omega) (by omega) ?_
    exact .inl ⟨1, by simp [k6_value, gM, gU, gS, h_f], rfl, rfl⟩
  · dsimp only
    have h_s := hor_7
    cases h_f : inR f 16
    · skip
      refine v_if_eqN (tgt := 26) hC dX6_value_10 (by decide) (by decide) (fun c_10 => ?_) (fun c_10 => absurd c_10 (by decide))
      refine v_aload_n hC dX6_value_26 rfl ?_
      refine v_iconst (v := nI 1) hC dX6_value_27 (by decide) ?_
      refine v_callV_r0 hC lk_X6_96 dX6_value_28 (c_X6_fails hl0 hQ 1) (by decide) (by decide) hQ.k30 rfl rfl rfl rfl (Nat.le_of_ble_eq_true rfl) (by omega) (by omega) ?_
      refine v_iret hC hM dX6_value_31 (by omega) (by omega) ?_
      exact .inl ⟨1, by simp [k6_value, gM, gU, gS, h_s, h_f], rfl, rfl⟩
    · skip
      refine v_if_eqN (tgt := 26) hC dX6_value_10 (by decide) (by decide) (fun c_10 => ?_) (fun c_10 => absurd c_10 (by decide))
      refine v_aload_n hC dX6_value_26 rfl ?_
      refine v_iconst (v := nI 1) hC dX6_value_27 (by decide) ?_
      refine v_callV_r0 hC lk_X6_96 dX6_value_28 (c_X6_fails hl0 hQ 1) (by decide) (by decide) hQ.k30 rfl rfl rfl rfl (Nat.le_of_ble_eq_true rfl) (by omega) (by omega) ?_
      refine v_iret hC hM dX6_value_31 (by omega) (by omega) ?_
      exact .inl ⟨1, by simp [k6_value, gM, gU, gS, h_s, h_f], rfl, rfl⟩
  · dsimp only
    refine v_if_eqN (tgt := 26) hC dX6_value_10 (by decide) (by decide) (fun c_10 => absurd c_10 (by decide)) (fun c_10 => ?_)
    refine v_aload_n hC dX6_value_13 rfl ?_
    refine gf_X6_17 hC dX6_value_14 hQ ?_
    refine v_iconst (v := nI 4) hC dX6_value_17 (by decide) ?_
    refine v_iload_n hC dX6_value_18 rfl ?_
    refine v_imulN hC dX6_value_19 ?_
    refine v_iload_n hC dX6_value_20 rfl ?_
    refine v_iaddN hC dX6_value_21 ?_
    refine al_31 hC dX6_value_22 hQ (by first | omega | exact hB _ _ _ _ rfl | exact hB.i _ _ _ _ rfl | assumption | exact b2n_31 _) ?_
    refine v_goto (tgt := 31) hC dX6_value_23 (by decide) ?_
    refine v_iret hC hM dX6_value_31 (by omega) (by omega) ?_
    exact .inr ⟨_, _, by simp [k6_value, gM, gU, gS, h_f, h_s], rfl, rfl⟩

def mrp (σ : SG) (p : Nat) : Nat → Nat
  | 0 => 0
  | n + 1 => if σ 41 (σ 51 0 0 n) 0 p ≠ 0 then σ 41 (σ 51 0 0 n) 0 p - 1 else mrp σ p n
def k6_valueByMerges (σ : SG) (f s : Int32) : OM := gS f s 1 fun f s => .inr (mrp σ (4 * f + s) (σ 30 0 0 4), σ)
set_option maxHeartbeats 4000000 in
set_option maxRecDepth 100000 in
theorem c_X6_valueByMerges {l : Launch} (hl0 : l.stackTraces = false) {G : GT} {ok : KF} {ad : AD} {σ : SG} (hQ : OKM ok) (hB : BD σ) (f : Int32) (s : Int32) : Ct l G 3 yX6_valueByMerges cX6_valueByMerges 5 (some .int) [.ref (ad 30 0 0), .int f, .int s] ok ad σ (mV (k6_valueByMerges (th σ 0) f s) ok ad (th σ 0)) (NX) 0 0 := by
  refine Ct.mk (by decide +kernel) hl0 (Nat.le_of_ble_eq_true rfl) (fun X hX hC hM => ?_)
  subst hX
  refine v_aload_n hC dX6_valueByMerges_0 rfl ?_
  refine v_iconst (v := nI 0) hC dX6_valueByMerges_1 (by decide) ?_
  refine pf_X6_1 hC dX6_valueByMerges_2 hQ ?_
  show V X G _ _ ok ad (th σ 0) _ _ _
  have hB : BD (th σ 0) := th_BD hB (by decide)
  have h0 : th σ 0 30 0 0 0 = 0 := up_same _ _ _ _ _ _
  generalize th σ 0 = σ at *
  have hs17 : σ 30 0 0 4 < 17 := hB 30 0 0 4 rfl
  refine v_iload_n hC dX6_valueByMerges_5 rfl ?_
  refine v_iload_n hC dX6_valueByMerges_6 rfl ?_
  refine v_callS hC lk_X6_109 dX6_valueByMerges_7 (c_X6_isSpan hl0 (x := f) (y := s)) (by decide) (by decide) rfl rfl (Nat.le_of_ble_eq_true rfl) (by omega) (by omega) (fun v μ h => ?_) (fun _ _ h => h.elim)
  rcases h with ⟨hor_7 | hor_7, rfl, rfl⟩ | ⟨f, s, h_f, h_s, rfl, rfl, b_f, b_s, rfl, rfl⟩
  · dsimp only
    have h_f := hor_7
    refine v_if_neN (tgt := 19) hC dX6_valueByMerges_10 (by decide) (by decide) (fun c_10 => absurd c_10 (by decide)) (fun c_10 => ?_)
    refine v_aload_n hC dX6_valueByMerges_13 rfl ?_
    refine v_iconst (v := nI 1) hC dX6_valueByMerges_14 (by decide) ?_
    refine v_callV_r0 hC lk_X6_96 dX6_valueByMerges_15 (c_X6_fails hl0 hQ 1) (by decide) (by decide) hQ.k30 rfl rfl rfl rfl (Nat.le_of_ble_eq_true rfl) (by omega) (by omega) ?_
    refine v_iret hC hM dX6_valueByMerges_18 (by omega) (by omega) ?_
    exact .inl ⟨1, by simp [k6_valueByMerges, gM, gU, gS, h_f], rfl, rfl⟩
  · dsimp only
    have h_s := hor_7
    cases h_f : inR f 16
    · skip
      refine v_if_neN (tgt := 19) hC dX6_valueByMerges_10 (by decide) (by decide) (fun c_10 => absurd c_10 (by decide)) (fun c_10 => ?_)
      refine v_aload_n hC dX6_valueByMerges_13 rfl ?_
      refine v_iconst (v := nI 1) hC dX6_valueByMerges_14 (by decide) ?_
      refine v_callV_r0 hC lk_X6_96 dX6_valueByMerges_15 (c_X6_fails hl0 hQ 1) (by decide) (by decide) hQ.k30 rfl rfl rfl rfl (Nat.le_of_ble_eq_true rfl) (by omega) (by omega) ?_
      refine v_iret hC hM dX6_valueByMerges_18 (by omega) (by omega) ?_
      exact .inl ⟨1, by simp [k6_valueByMerges, gM, gU, gS, h_s, h_f], rfl, rfl⟩
    · skip
      refine v_if_neN (tgt := 19) hC dX6_valueByMerges_10 (by decide) (by decide) (fun c_10 => absurd c_10 (by decide)) (fun c_10 => ?_)
      refine v_aload_n hC dX6_valueByMerges_13 rfl ?_
      refine v_iconst (v := nI 1) hC dX6_valueByMerges_14 (by decide) ?_
      refine v_callV_r0 hC lk_X6_96 dX6_valueByMerges_15 (c_X6_fails hl0 hQ 1) (by decide) (by decide) hQ.k30 rfl rfl rfl rfl (Nat.le_of_ble_eq_true rfl) (by omega) (by omega) ?_
      refine v_iret hC hM dX6_valueByMerges_18 (by omega) (by omega) ?_
      exact .inl ⟨1, by simp [k6_valueByMerges, gM, gU, gS, h_s, h_f], rfl, rfl⟩
  · dsimp only
    refine v_if_neN (tgt := 19) hC dX6_valueByMerges_10 (by decide) (by decide) (fun c_10 => ?_) (fun c_10 => absurd c_10 (by decide))
    refine v_iconst (v := nI 0) hC dX6_valueByMerges_19 (by decide) ?_
    refine v_istore_n hC dX6_valueByMerges_20 (by decide) ?_
    refine v_iconst (v := nI 0) hC dX6_valueByMerges_21 (by decide) ?_
    refine v_istore hC dX6_valueByMerges_22 (by decide) ?_
    have key : ∀ n, n ≤ σ 30 0 0 4 → V X G 0 0 ok ad σ [(0, .ref (ad 30 0 0)), (1, iv f), (2, iv s), (3, iv (mrp σ (4 * f + s) n)), (4, iv n)] 24 [] := by
      refine down (σ 30 0 0 4) ?_ ?_
      · refine v_iload hC dX6_valueByMerges_24 rfl ?_
        refine v_aload_n hC dX6_valueByMerges_26 rfl ?_
        refine gf_X6_198 hC dX6_valueByMerges_27 hQ ?_
        refine v_icmp_geN (tgt := 83) hC dX6_valueByMerges_30 (by decide) (by first | omega | exact hB _ _ _ _ rfl | exact hB.i _ _ _ _ rfl | assumption | exact b2n_31 _) (by first | omega | exact hB _ _ _ _ rfl | exact hB.i _ _ _ _ rfl | assumption | exact b2n_31 _) (fun c_30 => ?_) (fun c_30 => ?_)
        · refine v_iload_n hC dX6_valueByMerges_83 rfl ?_
          refine v_iret hC hM dX6_valueByMerges_84 (by omega) (by omega) ?_
          exact .inr ⟨_, _, by simp [k6_valueByMerges, gS, h_f, h_s], rfl, rfl⟩
        · exact absurd c_30 (by omega)
      · intro n hp ih 
        have hc16 : σ 51 0 0 n < 16 := hB 51 0 0 n rfl
        have h31 : σ 41 (σ 51 0 0 n) 0 (4 * f + s) < 2 ^ 31 := hB.i 41 _ 0 _ rfl
        refine v_iload hC dX6_valueByMerges_24 rfl ?_
        refine v_aload_n hC dX6_valueByMerges_26 rfl ?_
        refine gf_X6_198 hC dX6_valueByMerges_27 hQ ?_
        refine v_icmp_geN (tgt := 83) hC dX6_valueByMerges_30 (by decide) (by first | omega | exact hB _ _ _ _ rfl | exact hB.i _ _ _ _ rfl | assumption | exact b2n_31 _) (by first | omega | exact hB _ _ _ _ rfl | exact hB.i _ _ _ _ rfl | assumption | exact b2n_31 _) (fun c_30 => ?_) (fun c_30 => ?_)
        · exact absurd c_30 (by omega)
        · refine v_aload_n hC dX6_valueByMerges_33 rfl ?_
          refine gf_X6_48 hC dX6_valueByMerges_34 hQ ?_
          refine v_aload_n hC dX6_valueByMerges_37 rfl ?_
          refine gf_X6_72 hC dX6_valueByMerges_38 hQ ?_
          refine v_iload hC dX6_valueByMerges_41 rfl ?_
          refine al_51 hC dX6_valueByMerges_43 hQ (by first | omega | exact hB _ _ _ _ rfl | exact hB.i _ _ _ _ rfl | assumption | exact b2n_31 _) ?_
          refine al_40 hC dX6_valueByMerges_44 hQ (by first | omega | exact hB _ _ _ _ rfl | exact hB.i _ _ _ _ rfl | assumption | exact b2n_31 _) ?_
          refine v_iconst (v := nI 4) hC dX6_valueByMerges_45 (by decide) ?_
          refine v_iload_n hC dX6_valueByMerges_46 rfl ?_
          refine v_imulN hC dX6_valueByMerges_47 ?_
          refine v_iload_n hC dX6_valueByMerges_48 rfl ?_
          refine v_iaddN hC dX6_valueByMerges_49 ?_
          refine al_41 hC dX6_valueByMerges_50 hQ (by first | omega | exact hB _ _ _ _ rfl | exact hB.i _ _ _ _ rfl | assumption | exact b2n_31 _) (by first | omega | exact hB _ _ _ _ rfl | exact hB.i _ _ _ _ rfl | assumption | exact b2n_31 _) ?_
          refine v_if_geM (tgt := 58) hC dX6_valueByMerges_51 (by decide) (by first | omega | exact hB _ _ _ _ rfl | exact hB.i _ _ _ _ rfl | assumption | exact b2n_31 _) (fun c_51 => ?_) (fun c_51 => ?_)
          · refine v_aload_n hC dX6_valueByMerges_58 rfl ?_
            refine gf_X6_48 hC dX6_valueByMerges_59 hQ ?_
            refine v_aload_n hC dX6_valueByMerges_62 rfl ?_
            refine gf_X6_72 hC dX6_valueByMerges_63 hQ ?_
            refine v_iload hC dX6_valueByMerges_66 rfl ?_
            refine al_51 hC dX6_valueByMerges_68 hQ (by first | omega | exact hB _ _ _ _ rfl | exact hB.i _ _ _ _ rfl | assumption | exact b2n_31 _) ?_
            refine al_40 hC dX6_valueByMerges_69 hQ (by first | omega | exact hB _ _ _ _ rfl | exact hB.i _ _ _ _ rfl | assumption | exact b2n_31 _) ?_
            refine v_iconst (v := nI 4) hC dX6_valueByMerges_70 (by decide) ?_
            refine v_iload_n hC dX6_valueByMerges_71 rfl ?_
            refine v_imulN hC dX6_valueByMerges_72 ?_
            refine v_iload_n hC dX6_valueByMerges_73 rfl ?_
            refine v_iaddN hC dX6_valueByMerges_74 ?_
            refine al_41 hC dX6_valueByMerges_75 hQ (by first | omega | exact hB _ _ _ _ rfl | exact hB.i _ _ _ _ rfl | assumption | exact b2n_31 _) (by first | omega | exact hB _ _ _ _ rfl | exact hB.i _ _ _ _ rfl | assumption | exact b2n_31 _) ?_
            rw [dm_pos c_51]
            refine v_istore_n hC dX6_valueByMerges_76 (by decide) ?_
            refine v_iincN hC dX6_valueByMerges_77 rfl (by decide) ?_
            refine v_goto (tgt := 24) hC dX6_valueByMerges_80 (by decide) ?_
            rw [show mrp σ (4 * f + s) (n + 1) = σ 41 (σ 51 0 0 n) 0 (4 * f + s) - 1 from if_pos c_51] at ih
            exact v_sub rfl ih
          · refine v_iload_n hC dX6_valueByMerges_54 rfl ?_
            refine v_goto (tgt := 76) hC dX6_valueByMerges_55 (by decide) ?_
            skip
            refine v_istore_n hC dX6_valueByMerges_76 (by decide) ?_
            refine v_iincN hC dX6_valueByMerges_77 rfl (by decide) ?_
            refine v_goto (tgt := 24) hC dX6_valueByMerges_80 (by decide) ?_
            rw [show mrp σ (4 * f + s) (n + 1) = mrp σ (4 * f + s) n from if_neg (fun q => q c_51)] at ih
            exact v_sub rfl ih
    exact v_sub rfl (key 0 (Nat.zero_le _))

def k6_valueWith (σ : SG) (c f s : Int32) : OM := gM c (σ 30 0 0 2) 1 fun c => gS f s 2 fun f s => .inr (if σ 41 c 0 (4 * f + s) ≠ 0 then σ 41 c 0 (4 * f + s) - 1 else σ 31 0 0 (4 * f + s), σ)
set_option maxHeartbeats 4000000 in
set_option maxRecDepth 100000 in
theorem c_X6_valueWith {l : Launch} (hl0 : l.stackTraces = false) {G : GT} {ok : KF} {ad : AD} {σ : SG} (hQ : OKM ok) (hB : BD σ) (c : Int32) (f : Int32) (s : Int32) : Ct l G 3 yX6_valueWith cX6_valueWith 4 (some .int) [.ref (ad 30 0 0), .int c, .int f, .int s] ok ad σ (mV (k6_valueWith (th σ 0) c f s) ok ad (th σ 0)) (NX) 0 0 := by
  refine Ct.mk (by decide +kernel) hl0 (Nat.le_of_ble_eq_true rfl) (fun X hX hC hM => ?_)
  subst hX
  refine v_aload_n hC dX6_valueWith_0 rfl ?_
  refine v_aload_n hC dX6_valueWith_1 rfl ?_
  refine v_iload_n hC dX6_valueWith_2 rfl ?_
  refine v_callV hC lk_X6_106 dX6_valueWith_3 (c_X6_isChange hl0 hQ hB (x := c)) (by decide) (by decide) hQ.k30 rfl rfl rfl rfl (Nat.le_of_ble_eq_true rfl) (by omega) (by omega) (fun v μ h => ?_) (fun _ _ h => h.elim)
  rcases h with ⟨h_c, rfl, rfl⟩ | ⟨c, h_c, rfl, b_c, rfl, rfl⟩
  · dsimp only
    replace h_c : inR c (th σ 0 30 0 0 2) = none := h_c
    refine v_if_neN (tgt := 13) hC dX6_valueWith_6 (by decide) (by decide) (fun c_6 => absurd c_6 (by decide)) (fun c_6 => ?_)
    refine v_iconst (v := nI 1) hC dX6_valueWith_9 (by decide) ?_
    refine v_goto (tgt := 26) hC dX6_valueWith_10 (by decide) ?_
    refine pf_X6_1 hC dX6_valueWith_26 hQ ?_
    rw [show up σ 30 0 0 0 1 = th (th σ 0) 1 from (up_up _ _ _ _ _ _ _).symm]
    show V X G _ _ ok ad (th (th σ 0) 1) _ _ _
    have hB : BD (th σ 0) := th_BD hB (by decide)
    have h0 : th σ 0 30 0 0 0 = 0 := up_same _ _ _ _ _ _
    generalize th σ 0 = σ at *
    refine v_aload_n hC dX6_valueWith_29 rfl ?_
    refine gf_X6_1 hC dX6_valueWith_30 hQ ?_
    rw [show th σ 1 30 0 0 0 = 1 from up_same _ _ _ _ _ _]
    refine v_if_leN (tgt := 38) hC dX6_valueWith_33 (by decide) (by decide) (fun c_33 => absurd c_33 (by decide)) (fun c_33 => ?_)
    refine v_iconst (v := nI 0) hC dX6_valueWith_36 (by decide) ?_
    refine v_iret hC hM dX6_valueWith_37 (by omega) (by omega) ?_
    exact .inl ⟨1, by simp [k6_valueWith, gM, gU, gS, h_c], rfl, rfl⟩
  · dsimp only
    have b2_c : c < 16 := by
      have hn17 : σ 30 0 0 2 < 17 := hB 30 0 0 2 rfl
      omega
    replace h_c : inR (nI c) (th σ 0 30 0 0 2) = some c := h_c
    replace b_c : c < th σ 0 30 0 0 2 := b_c
    refine v_if_neN (tgt := 13) hC dX6_valueWith_6 (by decide) (by decide) (fun c_6 => ?_) (fun c_6 => absurd c_6 (by decide))
    refine v_iload_n hC dX6_valueWith_13 rfl ?_
    refine v_iload_n hC dX6_valueWith_14 rfl ?_
    refine v_callS hC lk_X6_109 dX6_valueWith_15 (c_X6_isSpan hl0 (x := f) (y := s)) (by decide) (by decide) rfl rfl (Nat.le_of_ble_eq_true rfl) (by omega) (by omega) (fun v μ h => ?_) (fun _ _ h => h.elim)
    rcases h with ⟨hor_15 | hor_15, rfl, rfl⟩ | ⟨f, s, h_f, h_s, rfl, rfl, b_f, b_s, rfl, rfl⟩
    · dsimp only
      have h_f := hor_15
      refine v_if_eqN (tgt := 25) hC dX6_valueWith_18 (by decide) (by decide) (fun c_18 => ?_) (fun c_18 => absurd c_18 (by decide))
      refine v_iconst (v := nI 2) hC dX6_valueWith_25 (by decide) ?_
      refine pf_X6_1 hC dX6_valueWith_26 hQ ?_
      rw [show up σ 30 0 0 0 2 = th (th σ 0) 2 from (up_up _ _ _ _ _ _ _).symm]
      show V X G _ _ ok ad (th (th σ 0) 2) _ _ _
      have hB : BD (th σ 0) := th_BD hB (by decide)
      have h0 : th σ 0 30 0 0 0 = 0 := up_same _ _ _ _ _ _
      generalize th σ 0 = σ at *
      refine v_aload_n hC dX6_valueWith_29 rfl ?_
      refine gf_X6_1 hC dX6_valueWith_30 hQ ?_
      rw [show th σ 2 30 0 0 0 = 2 from up_same _ _ _ _ _ _]
      refine v_if_leN (tgt := 38) hC dX6_valueWith_33 (by decide) (by decide) (fun c_33 => absurd c_33 (by decide)) (fun c_33 => ?_)
      refine v_iconst (v := nI 0) hC dX6_valueWith_36 (by decide) ?_
      refine v_iret hC hM dX6_valueWith_37 (by omega) (by omega) ?_
      exact .inl ⟨2, by simp [k6_valueWith, gM, gU, gS, h_c, h_f], rfl, rfl⟩
    · dsimp only
      have h_s := hor_15
      cases h_f : inR f 16
      · skip
        refine v_if_eqN (tgt := 25) hC dX6_valueWith_18 (by decide) (by decide) (fun c_18 => ?_) (fun c_18 => absurd c_18 (by decide))
        refine v_iconst (v := nI 2) hC dX6_valueWith_25 (by decide) ?_
        refine pf_X6_1 hC dX6_valueWith_26 hQ ?_
        rw [show up σ 30 0 0 0 2 = th (th σ 0) 2 from (up_up _ _ _ _ _ _ _).symm]
        show V X G _ _ ok ad (th (th σ 0) 2) _ _ _
        have hB : BD (th σ 0) := th_BD hB (by decide)
        have h0 : th σ 0 30 0 0 0 = 0 := up_same _ _ _ _ _ _
        generalize th σ 0 = σ at *
        refine v_aload_n hC dX6_valueWith_29 rfl ?_
        refine gf_X6_1 hC dX6_valueWith_30 hQ ?_
        rw [show th σ 2 30 0 0 0 = 2 from up_same _ _ _ _ _ _]
        refine v_if_leN (tgt := 38) hC dX6_valueWith_33 (by decide) (by decide) (fun c_33 => absurd c_33 (by decide)) (fun c_33 => ?_)
        refine v_iconst (v := nI 0) hC dX6_valueWith_36 (by decide) ?_
        refine v_iret hC hM dX6_valueWith_37 (by omega) (by omega) ?_
        exact .inl ⟨2, by simp [k6_valueWith, gM, gU, gS, h_c, h_s, h_f], rfl, rfl⟩
      · skip
        refine v_if_eqN (tgt := 25) hC dX6_valueWith_18 (by decide) (by decide) (fun c_18 => ?_) (fun c_18 => absurd c_18 (by decide))
        refine v_iconst (v := nI 2) hC dX6_valueWith_25 (by decide) ?_
        refine pf_X6_1 hC dX6_valueWith_26 hQ ?_
        rw [show up σ 30 0 0 0 2 = th (th σ 0) 2 from (up_up _ _ _ _ _ _ _).symm]
        show V X G _ _ ok ad (th (th σ 0) 2) _ _ _
        have hB : BD (th σ 0) := th_BD hB (by decide)
        have h0 : th σ 0 30 0 0 0 = 0 := up_same _ _ _ _ _ _
        generalize th σ 0 = σ at *
        refine v_aload_n hC dX6_valueWith_29 rfl ?_
        refine gf_X6_1 hC dX6_valueWith_30 hQ ?_
        rw [show th σ 2 30 0 0 0 = 2 from up_same _ _ _ _ _ _]
        refine v_if_leN (tgt := 38) hC dX6_valueWith_33 (by decide) (by decide) (fun c_33 => absurd c_33 (by decide)) (fun c_33 => ?_)
        refine v_iconst (v := nI 0) hC dX6_valueWith_36 (by decide) ?_
        refine v_iret hC hM dX6_valueWith_37 (by omega) (by omega) ?_
        exact .inl ⟨2, by simp [k6_valueWith, gM, gU, gS, h_c, h_s, h_f], rfl, rfl⟩
    · dsimp only
      refine v_if_eqN (tgt := 25) hC dX6_valueWith_18 (by decide) (by decide) (fun c_18 => absurd c_18 (by decide)) (fun c_18 => ?_)
      refine v_iconst (v := nI 0) hC dX6_valueWith_21 (by decide) ?_
      refine v_goto (tgt := 26) hC dX6_valueWith_22 (by decide) ?_
      refine pf_X6_1 hC dX6_valueWith_26 hQ ?_
      show V X G _ _ ok ad (th σ 0) _ _ _
      have hB : BD (th σ 0) := th_BD hB (by decide)
      have h0 : th σ 0 30 0 0 0 = 0 := up_same _ _ _ _ _ _
      generalize th σ 0 = σ at *
      refine v_aload_n hC dX6_valueWith_29 rfl ?_
      refine gf_X6_1 hC dX6_valueWith_30 hQ ?_
      rw [h0]
      refine v_if_leN (tgt := 38) hC dX6_valueWith_33 (by decide) (by decide) (fun c_33 => ?_) (fun c_33 => absurd c_33 (by decide))
      refine v_aload_n hC dX6_valueWith_38 rfl ?_
      refine gf_X6_48 hC dX6_valueWith_39 hQ ?_
      refine v_iload_n hC dX6_valueWith_42 rfl ?_
      refine al_40 hC dX6_valueWith_43 hQ (by first | omega | exact hB _ _ _ _ rfl | exact hB.i _ _ _ _ rfl | assumption | exact b2n_31 _) ?_
      refine v_iconst (v := nI 4) hC dX6_valueWith_44 (by decide) ?_
      refine v_iload_n hC dX6_valueWith_45 rfl ?_
      refine v_imulN hC dX6_valueWith_46 ?_
      refine v_iload_n hC dX6_valueWith_47 rfl ?_
      refine v_iaddN hC dX6_valueWith_48 ?_
      refine al_41 hC dX6_valueWith_49 hQ (by first | omega | exact hB _ _ _ _ rfl | exact hB.i _ _ _ _ rfl | assumption | exact b2n_31 _) (by first | omega | exact hB _ _ _ _ rfl | exact hB.i _ _ _ _ rfl | assumption | exact b2n_31 _) ?_
      refine v_if_geM (tgt := 66) hC dX6_valueWith_50 (by decide) (by first | omega | exact hB _ _ _ _ rfl | exact hB.i _ _ _ _ rfl | assumption | exact b2n_31 _) (fun c_50 => ?_) (fun c_50 => ?_)
      · refine v_aload_n hC dX6_valueWith_66 rfl ?_
        refine gf_X6_48 hC dX6_valueWith_67 hQ ?_
        refine v_iload_n hC dX6_valueWith_70 rfl ?_
        refine al_40 hC dX6_valueWith_71 hQ (by first | omega | exact hB _ _ _ _ rfl | exact hB.i _ _ _ _ rfl | assumption | exact b2n_31 _) ?_
        refine v_iconst (v := nI 4) hC dX6_valueWith_72 (by decide) ?_
        refine v_iload_n hC dX6_valueWith_73 rfl ?_
        refine v_imulN hC dX6_valueWith_74 ?_
        refine v_iload_n hC dX6_valueWith_75 rfl ?_
        refine v_iaddN hC dX6_valueWith_76 ?_
        refine al_41 hC dX6_valueWith_77 hQ (by first | omega | exact hB _ _ _ _ rfl | exact hB.i _ _ _ _ rfl | assumption | exact b2n_31 _) (by first | omega | exact hB _ _ _ _ rfl | exact hB.i _ _ _ _ rfl | assumption | exact b2n_31 _) ?_
        rw [dm_pos c_50]
        refine v_iret hC hM dX6_valueWith_78 (by omega) (by omega) ?_
        exact .inr ⟨_, _, by simp [k6_valueWith, gM, gU, gS, h_c, h_f, h_s, c_50], rfl, rfl⟩
      · refine v_aload_n hC dX6_valueWith_53 rfl ?_
        refine gf_X6_17 hC dX6_valueWith_54 hQ ?_
        refine v_iconst (v := nI 4) hC dX6_valueWith_57 (by decide) ?_
        refine v_iload_n hC dX6_valueWith_58 rfl ?_
        refine v_imulN hC dX6_valueWith_59 ?_
        refine v_iload_n hC dX6_valueWith_60 rfl ?_
        refine v_iaddN hC dX6_valueWith_61 ?_
        refine al_31 hC dX6_valueWith_62 hQ (by first | omega | exact hB _ _ _ _ rfl | exact hB.i _ _ _ _ rfl | assumption | exact b2n_31 _) ?_
        refine v_goto (tgt := 78) hC dX6_valueWith_63 (by decide) ?_
        skip
        refine v_iret hC hM dX6_valueWith_78 (by omega) (by omega) ?_
        exact .inr ⟨_, _, by simp [k6_valueWith, gM, gU, gS, h_c, h_f, h_s, c_50], rfl, rfl⟩

def k6_isGood (σ : SG) (d : Int32) : OM := gM d 4 1 fun d => .inr (b2n (mgo σ (σ 31 0 0) d (σ 30 0 0 1)), σ)
set_option maxHeartbeats 4000000 in
set_option maxRecDepth 100000 in
theorem c_X6_isGood {l : Launch} (hl0 : l.stackTraces = false) {G : GT} {ok : KF} {ad : AD} {σ : SG} (hQ : OKM ok) (hB : BD σ) (d : Int32) : Ct l G 4 yX6_isGood cX6_isGood 2 (some .boolean) [.ref (ad 30 0 0), .int d] ok ad σ (mV (k6_isGood (th σ 0) d) ok ad (th σ 0)) (NX) 0 0 := by
  refine Ct.mk (by decide +kernel) hl0 (Nat.le_of_ble_eq_true rfl) (fun X hX hC hM => ?_)
  subst hX
  refine v_aload_n hC dX6_isGood_0 rfl ?_
  refine v_iconst (v := nI 0) hC dX6_isGood_1 (by decide) ?_
  refine pf_X6_1 hC dX6_isGood_2 hQ ?_
  show V X G _ _ ok ad (th σ 0) _ _ _
  have hB : BD (th σ 0) := th_BD hB (by decide)
  have h0 : th σ 0 30 0 0 0 = 0 := up_same _ _ _ _ _ _
  generalize th σ 0 = σ at *
  refine v_iload_n hC dX6_isGood_5 rfl ?_
  refine v_callS hC lk_X6_92 dX6_isGood_6 (c_X6_isDirectory hl0 (x := d)) (by decide) (by decide) rfl rfl (Nat.le_of_ble_eq_true rfl) (by omega) (by omega) (fun v μ h => ?_) (fun _ _ h => h.elim)
  rcases h with ⟨h_d, rfl, rfl⟩ | ⟨d, h_d, rfl, b_d, rfl, rfl⟩
  · dsimp only
    refine v_if_eqN (tgt := 24) hC dX6_isGood_9 (by decide) (by decide) (fun c_9 => ?_) (fun c_9 => absurd c_9 (by decide))
    refine v_aload_n hC dX6_isGood_24 rfl ?_
    refine v_iconst (v := nI 1) hC dX6_isGood_25 (by decide) ?_
    refine v_callV_r0 hC lk_X6_103 dX6_isGood_26 (c_X6_isWrong hl0 hQ 1) (by decide) (by decide) hQ.k30 rfl rfl rfl rfl (Nat.le_of_ble_eq_true rfl) (by omega) (by omega) ?_
    refine v_zret hC hM dX6_isGood_29 (by first | exact nar_z (b2n_lt _) | exact nar_z b_of0) (by omega) (by omega) ?_
    exact .inl ⟨1, by simp [k6_isGood, gM, gU, gS, h_d], rfl, rfl⟩
  · dsimp only
    refine v_if_eqN (tgt := 24) hC dX6_isGood_9 (by decide) (by decide) (fun c_9 => absurd c_9 (by decide)) (fun c_9 => ?_)
    refine v_aload_n hC dX6_isGood_12 rfl ?_
    refine v_aload_n hC dX6_isGood_13 rfl ?_
    refine gf_X6_17 hC dX6_isGood_14 hQ ?_
    refine v_iload_n hC dX6_isGood_17 rfl ?_
    refine v_callV_r0 hC lk_X6_156 dX6_isGood_18 (c_X6_isGoodOn_31 hl0 hQ hB b_d) (by decide) (by decide) hQ.k30 rfl rfl rfl rfl (Nat.le_of_ble_eq_true rfl) (by omega) (by omega) ?_
    refine v_goto (tgt := 29) hC dX6_isGood_21 (by decide) ?_
    refine v_zret hC hM dX6_isGood_29 (by first | exact nar_z (b2n_lt _) | exact nar_z b_of0) (by omega) (by omega) ?_
    exact .inr ⟨_, _, by simp [k6_isGood, gM, gU, gS, h_d], rfl, rfl⟩

set_option maxHeartbeats 4000000 in
set_option maxRecDepth 100000 in
theorem c_X6_builds {l : Launch} (hl0 : l.stackTraces = false) {G : GT} {ok : KF} {ad : AD} {σ : SG} (hQ : OKM ok) (hB : BD σ) : Ct l G 3 yX6_builds cX6_builds 1 (some .int) [.ref (ad 30 0 0)] ok ad σ (Rt (some (iv (th σ 0 30 0 0 5))) ok ad (th σ 0)) (NX) 0 0 := by
  refine Ct.mk (by decide +kernel) hl0 (Nat.le_of_ble_eq_true rfl) (fun X hX hC hM => ?_)
  subst hX
  refine v_aload_n hC dX6_builds_0 rfl ?_
  refine v_iconst (v := nI 0) hC dX6_builds_1 (by decide) ?_
  refine pf_X6_1 hC dX6_builds_2 hQ ?_
  show V X G _ _ ok ad (th σ 0) _ _ _
  have hB : BD (th σ 0) := th_BD hB (by decide)
  have h0 : th σ 0 30 0 0 0 = 0 := up_same _ _ _ _ _ _
  generalize th σ 0 = σ at *
  refine v_aload_n hC dX6_builds_5 rfl ?_
  refine gf_X6_187 hC dX6_builds_6 hQ ?_
  refine v_iret hC hM dX6_builds_9 (by omega) (by omega) ?_
  exact ⟨rfl, rfl⟩

set_option maxHeartbeats 4000000 in
set_option maxRecDepth 100000 in
theorem c_X6_taken {l : Launch} (hl0 : l.stackTraces = false) {G : GT} {ok : KF} {ad : AD} {σ : SG} (hQ : OKM ok) (hB : BD σ) : Ct l G 3 yX6_taken cX6_taken 1 (some .long) [.ref (ad 30 0 0)] ok ad σ (Rt (some (jv (th σ 0 30 0 0 6))) ok ad (th σ 0)) (NX) 0 0 := by
  refine Ct.mk (by decide +kernel) hl0 (Nat.le_of_ble_eq_true rfl) (fun X hX hC hM => ?_)
  subst hX
  refine v_aload_n hC dX6_taken_0 rfl ?_
  refine v_iconst (v := nI 0) hC dX6_taken_1 (by decide) ?_
  refine pf_X6_1 hC dX6_taken_2 hQ ?_
  show V X G _ _ ok ad (th σ 0) _ _ _
  have hB : BD (th σ 0) := th_BD hB (by decide)
  have h0 : th σ 0 30 0 0 0 = 0 := up_same _ _ _ _ _ _
  generalize th σ 0 = σ at *
  refine v_aload_n hC dX6_taken_5 rfl ?_
  refine gf_X6_183 hC dX6_taken_6 hQ ?_
  refine v_lret hC hM dX6_taken_9 (by omega) (by omega) ?_
  exact ⟨rfl, rfl⟩

set_option maxHeartbeats 4000000 in
set_option maxRecDepth 100000 in
theorem c_X6_isSound {l : Launch} (hl0 : l.stackTraces = false) {G : GT} {ok : KF} {ad : AD} {σ : SG} (hQ : OKM ok) (hB : BD σ) : Ct l G 3 yX6_isSound cX6_isSound 1 (some .boolean) [.ref (ad 30 0 0)] ok ad σ (Rt (some (iv 1)) ok ad (th σ 0)) (NX) 0 0 := by
  refine Ct.mk (by decide +kernel) hl0 (Nat.le_of_ble_eq_true rfl) (fun X hX hC hM => ?_)
  subst hX
  refine v_aload_n hC dX6_isSound_0 rfl ?_
  refine v_iconst (v := nI 0) hC dX6_isSound_1 (by decide) ?_
  refine pf_X6_1 hC dX6_isSound_2 hQ ?_
  show V X G _ _ ok ad (th σ 0) _ _ _
  have hB : BD (th σ 0) := th_BD hB (by decide)
  have h0 : th σ 0 30 0 0 0 = 0 := up_same _ _ _ _ _ _
  generalize th σ 0 = σ at *
  refine v_iconst (v := nI 1) hC dX6_isSound_5 (by decide) ?_
  refine v_zret hC hM dX6_isSound_6 (by first | exact nar_z b_of1 | exact nar_z b_of0) (by omega) (by omega) ?_
  exact ⟨rfl, rfl⟩

