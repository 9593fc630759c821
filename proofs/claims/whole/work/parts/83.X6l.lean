theorem nI_or1 {a : Nat} (ha : a < 2) : nI a ||| nI 1 = nI (a ||| 1) := by
  rcases (show a = 0 ∨ a = 1 by omega) with rfl | rfl <;> decide
theorem nI_or0 {a : Nat} (ha : a < 2) : nI a ||| nI 0 = nI (a ||| 0) := by
  rcases (show a = 0 ∨ a = 1 by omega) with rfl | rfl <;> decide
theorem hit_no {s τ : SG} {A : AS} {i o : Nat} (h : RM s τ (mrP s A i o)) (ho : o < s 0 0 0 0) (h1 : τ 52 0 0 o ≠ 111) (h2 : τ 52 0 0 o ≠ 113) : hit s A i o = false := by
  cases e : hit s A i o with
  | false => rfl
  | true =>
    have hne : o ≠ i := fun q => by rw [q, hit_self] at e; cases e
    have h3 : τ 52 0 0 o = aS A o := by
      rw [h.1 o ho]
      show (if o = i then 109 else if o < o ∧ hit s A i o = true then 111 else aS A o) = aS A o
      rw [if_neg hne, if_neg (fun q => absurd q.1 (by omega))]
    rw [h3] at h1 h2
    exact absurd ((hit_iff ho hne).mp e).2 (fun q => q.elim h1 h2)
theorem hit_at {s τ : SG} {A : AS} {i o : Nat} (h : RM s τ (mrP s A i o)) (ho : o < s 0 0 0 0) (h1 : τ 52 0 0 o = 111 ∨ τ 52 0 0 o = 113) : o ≠ i ∧ τ 52 0 0 o = aS A o ∧ (hit s A i o = true ↔ shr s i o = true) := by
  have hne : o ≠ i := fun q => by
    subst q
    rw [h.1 o ho] at h1
    have h1 : (if o = o then 109 else _) = 111 ∨ (if o = o then 109 else _) = 113 := h1
    rw [if_pos rfl] at h1
    omega
  have h3 : τ 52 0 0 o = aS A o := by
    rw [h.1 o ho]
    show (if o = i then 109 else if o < o ∧ hit s A i o = true then 111 else aS A o) = aS A o
    rw [if_neg hne, if_neg (fun q => absurd q.1 (by omega))]
  refine ⟨hne, h3, ?_⟩
  rw [hit_iff ho hne, ← h3, shr_comm]
  unfold shr
  simp only [decide_eq_true_eq]
  exact ⟨fun q => q.1, fun q => ⟨q, h1⟩⟩
def MgP (G : GT) (ok : KF) (ad : AD) (s τ : SG) (A : AS) (e i : Nat) (μ : MT) : Prop := ∃ τ', μ = (ok, ad, τ') ∧ TM G ok ad s τ' (mrgA s A i) e ∧ MF τ τ'


set_option maxHeartbeats 4000000 in
set_option maxRecDepth 100000 in
theorem c_X6_merges {l : Launch} (hl0 : l.stackTraces = false) {G : GT} {ok : KF} {ad : AD} (hQ : OKM ok) {s τ : SG} {A : AS} {e i : Nat} (hBs : BD s) (hT : TM G ok ad s τ A e) (hiq : i ∈ aQ A) : Ct l G 1 yX6_merges cX6_merges 4 (none) [.ref (ad 30 0 0), iv i] ok ad τ (fun v μ => v = none ∧ MgP G ok ad s τ A e i μ) (NX) 0 0 := by
  refine Ct.mk (by decide +kernel) hl0 (Nat.le_of_ble_eq_true rfl) (fun X hX hC hM => ?_)
  subst hX
  obtain ⟨hB, hS, hR, hArr, hKM, hA, hQm⟩ := id hT
  have hi : i < s 0 0 0 0 := (hA.2.2.1 i hiq).1
  have hn17 : s 0 0 0 0 < 17 := hBs 0 0 0 0 rfl
  have hi16 : i < 16 := by omega
  obtain ⟨k0, a1, a2, a3⟩ := lsM_at (show i ∈ lsM τ 0 by rw [hR.2.2.2.1]; exact hiq)
  have hBx : BD (up (up (lvs τ k0 (τ 30 0 0 3 - 1)) 52 0 0 i 109) 53 0 0 i 0) := BD.put (BD.put (lvs_BD hB _ _) (by show 109 < 65536; decide)) (by show 0 < 2; decide)
  have hm16 : τ 30 0 0 4 < 16 := by
    have h1 := AI_mrg hA hiq
    have h2 := AI_len h1.2.1 (fun c hc => (h1.2.2.2 c hc).1)
    rw [show aM (mrgA s A i) = aM A ++ [i] from rfl, List.length_append, ← hR.2.2.2.2.1, lsM_len] at h2
    have h3 : τ 30 0 0 (1 + 3) + 1 ≤ s 0 0 0 0 := h2
    have h4 : τ 30 0 0 (1 + 3) = τ 30 0 0 4 := rfl
    omega
  have hBm : BD (mm0 τ k0 i) := BD.put (BD.put (mly_BD hBx (fun _ => rfl)) (by show i < 16; omega)) (by show _ < 17; omega)
  refine v_aload_n hC dX6_merges_0 rfl ?_
  refine v_iload_n hC dX6_merges_1 rfl ?_
  refine v_callV_v0 hC lk_X6_146 dX6_merges_2 (c_X6_leaves hl0 hQ hB hi16 a1 a2 a3) (by decide) (by decide) hQ.k30 rfl rfl rfl rfl (Nat.le_of_ble_eq_true rfl) (by omega) (by omega) ?_
  refine v_aload_n hC dX6_merges_5 rfl ?_
  refine gf_X6_75 hC dX6_merges_6 hQ ?_
  refine v_iload_n hC dX6_merges_9 rfl ?_
  refine v_bipush (v := nI 109) hC dX6_merges_10 (by decide) ?_
  refine as_52 hC dX6_merges_12 hQ (by first | omega | exact hB1 _ _ _ _ rfl | exact hB1.i _ _ _ _ rfl | exact mck_BD hB1 _ _ _ _ _ _ _ rfl | exact (mck_BD hB1 i o q).i _ _ _ _ rfl | exact hB.i _ _ _ _ rfl | assumption | exact b2n_31 _ | decide) (by first | omega | exact hB1 _ _ _ _ rfl | exact hB1.i _ _ _ _ rfl | exact mck_BD hB1 _ _ _ _ _ _ _ rfl | exact (mck_BD hB1 i o q).i _ _ _ _ rfl | exact hB.i _ _ _ _ rfl | assumption | exact b2n_31 _ | decide) ?_
  refine v_aload_n hC dX6_merges_13 rfl ?_
  refine gf_X6_79 hC dX6_merges_14 hQ ?_
  refine v_iload_n hC dX6_merges_17 rfl ?_
  refine v_iconst (v := nI 0) hC dX6_merges_18 (by decide) ?_
  refine as_53 hC dX6_merges_19 hQ (by first | omega | exact hB1 _ _ _ _ rfl | exact hB1.i _ _ _ _ rfl | exact mck_BD hB1 _ _ _ _ _ _ _ rfl | exact (mck_BD hB1 i o q).i _ _ _ _ rfl | exact hB.i _ _ _ _ rfl | assumption | exact b2n_31 _ | decide) (by first | omega | exact hB1 _ _ _ _ rfl | exact hB1.i _ _ _ _ rfl | exact mck_BD hB1 _ _ _ _ _ _ _ rfl | exact (mck_BD hB1 i o q).i _ _ _ _ rfl | exact hB.i _ _ _ _ rfl | assumption | exact b2n_31 _ | decide) ?_
  refine v_aload_n hC dX6_merges_20 rfl ?_
  refine v_iload_n hC dX6_merges_21 rfl ?_
  refine v_aload_n hC dX6_merges_22 rfl ?_
  refine gf_X6_17 hC dX6_merges_23 hQ ?_
  refine v_callV_v0 hC lk_X6_194 dX6_merges_26 (c_X6_lays_31 (σ := up (up (lvs τ k0 (τ 30 0 0 3 - 1)) 52 0 0 i 109) 53 0 0 i 0) hl0 hQ hBx hi16) (by decide) (by decide) hQ.k30 rfl rfl rfl rfl (Nat.le_of_ble_eq_true rfl) (by omega) (by omega) ?_
  refine v_aload_n hC dX6_merges_29 rfl ?_
  refine gf_X6_72 hC dX6_merges_30 hQ ?_
  refine v_aload_n hC dX6_merges_33 rfl ?_
  refine gf_X6_198 hC dX6_merges_34 hQ ?_
  rw [show mly (up (up (lvs τ k0 (τ 30 0 0 3 - 1)) 52 0 0 i 109) 53 0 0 i 0) 31 0 i 64 30 0 0 4 = τ 30 0 0 4 from rfl]
  refine v_iload_n hC dX6_merges_37 rfl ?_
  refine as_51 hC dX6_merges_38 hQ hm16 ?_
  refine v_aload_n hC dX6_merges_39 rfl ?_
  refine v_dup hC dX6_merges_40 rfl ?_
  refine gf_X6_198 hC dX6_merges_41 hQ ?_
  rw [show up (mly (up (up (lvs τ k0 (τ 30 0 0 3 - 1)) 52 0 0 i 109) 53 0 0 i 0) 31 0 i 64) 51 0 0 (τ 30 0 0 4) i 30 0 0 4 = τ 30 0 0 4 from rfl]
  refine v_iconst (v := nI 1) hC dX6_merges_44 (by decide) ?_
  refine v_iaddN hC dX6_merges_45 ?_
  refine pf_X6_198 hC dX6_merges_46 hQ ?_
  refine v_iconst (v := nI 0) hC dX6_merges_49 (by decide) ?_
  refine v_istore_n hC dX6_merges_50 (by decide) ?_
  have key : ∀ o, o ≤ s 0 0 0 0 → ∀ τ1, RM s τ1 (mrP s A i o) → MF τ τ1 → BD τ1 → V X G 0 0 ok ad τ1 [(0, .ref (ad 30 0 0)), (1, iv i), (2, iv o)] 51 [] := by
    refine down (s 0 0 0 0) ?_ ?_
    · intro τ1 hR1 h2m hB1
      have hS1 := hS.mf h2m
      refine v_iload_n hC dX6_merges_51 rfl ?_
      refine v_aload_n hC dX6_merges_52 rfl ?_
      refine gf_X6_89 hC dX6_merges_53 hQ ?_
      rw [hS1.1]
      refine v_icmp_geN (tgt := 175) hC dX6_merges_56 (by decide) (by first | omega | exact hB1 _ _ _ _ rfl | exact hB1.i _ _ _ _ rfl | exact mck_BD hB1 _ _ _ _ _ _ _ rfl | exact (mck_BD hB1 i o q).i _ _ _ _ rfl | exact hB.i _ _ _ _ rfl | assumption | exact b2n_31 _ | decide) (by first | omega | exact hB1 _ _ _ _ rfl | exact hB1.i _ _ _ _ rfl | exact mck_BD hB1 _ _ _ _ _ _ _ rfl | exact (mck_BD hB1 i o q).i _ _ _ _ rfl | exact hB.i _ _ _ _ rfl | assumption | exact b2n_31 _ | decide) (fun c_56 => ?_) (fun c_56 => ?_)
      · refine v_vret hC hM dX6_merges_175 (by omega) (by omega) ?_
        rw [mrP_last] at hR1
        exact ⟨rfl, τ1, rfl, ⟨hB1, hS1, hR1, hArr.of (by funext a b x; exact h2m 54 a b x rfl) (by funext a b x; exact h2m 55 a b x rfl) (by funext a b x; exact h2m 56 a b x rfl), by rw [h2m 30 0 0 5 rfl]; exact hKM, AI_mrg hA hiq, QI_mrg hQm⟩, h2m⟩
      · exact absurd c_56 (by omega)
    · intro o hp ih τ1 hR1 h2m hB1
      have hS1 := hS.mf h2m
      have ho := hp
      refine v_iload_n hC dX6_merges_51 rfl ?_
      refine v_aload_n hC dX6_merges_52 rfl ?_
      refine gf_X6_89 hC dX6_merges_53 hQ ?_
      rw [hS1.1]
      refine v_icmp_geN (tgt := 175) hC dX6_merges_56 (by decide) (by first | omega | exact hB1 _ _ _ _ rfl | exact hB1.i _ _ _ _ rfl | exact mck_BD hB1 _ _ _ _ _ _ _ rfl | exact (mck_BD hB1 i o q).i _ _ _ _ rfl | exact hB.i _ _ _ _ rfl | assumption | exact b2n_31 _ | decide) (by first | omega | exact hB1 _ _ _ _ rfl | exact hB1.i _ _ _ _ rfl | exact mck_BD hB1 _ _ _ _ _ _ _ rfl | exact (mck_BD hB1 i o q).i _ _ _ _ rfl | exact hB.i _ _ _ _ rfl | assumption | exact b2n_31 _ | decide) (fun c_56 => ?_) (fun c_56 => ?_)
      · exact absurd c_56 (by omega)
      · refine v_aload_n hC dX6_merges_59 rfl ?_
        refine gf_X6_75 hC dX6_merges_60 hQ ?_
        refine v_iload_n hC dX6_merges_63 rfl ?_
        refine al_52 hC dX6_merges_64 hQ (by first | omega | exact hB1 _ _ _ _ rfl | exact hB1.i _ _ _ _ rfl | exact mck_BD hB1 _ _ _ _ _ _ _ rfl | exact (mck_BD hB1 i o q).i _ _ _ _ rfl | exact hB.i _ _ _ _ rfl | assumption | exact b2n_31 _ | decide) ?_
        refine v_bipush (v := nI 111) hC dX6_merges_65 (by decide) ?_
        refine v_icmp_eqN (tgt := 81) hC dX6_merges_67 (by decide) (by first | omega | exact hB1 _ _ _ _ rfl | exact hB1.i _ _ _ _ rfl | exact mck_BD hB1 _ _ _ _ _ _ _ rfl | exact (mck_BD hB1 i o q).i _ _ _ _ rfl | exact hB.i _ _ _ _ rfl | assumption | exact b2n_31 _ | decide) (by first | omega | exact hB1 _ _ _ _ rfl | exact hB1.i _ _ _ _ rfl | exact mck_BD hB1 _ _ _ _ _ _ _ rfl | exact (mck_BD hB1 i o q).i _ _ _ _ rfl | exact hB.i _ _ _ _ rfl | assumption | exact b2n_31 _ | decide) (fun c_67 => ?_) (fun c_67 => ?_)
        · refine v_aload_n hC dX6_merges_81 rfl ?_
          refine v_iload_n hC dX6_merges_82 rfl ?_
          refine v_iload_n hC dX6_merges_83 rfl ?_
          refine v_callV_r0 hC lk_X6_201 dX6_merges_84 (c_X6_shares hl0 hQ hB1 hi16 (by omega)) (by decide) (by decide) hQ.k30 rfl rfl rfl rfl (Nat.le_of_ble_eq_true rfl) (by omega) (by omega) ?_
          rw [hS1.Msh hBs hi ho]
          refine v_if_neN (tgt := 93) hC dX6_merges_87 (by decide) (by first | omega | exact hB1 _ _ _ _ rfl | exact hB1.i _ _ _ _ rfl | exact mck_BD hB1 _ _ _ _ _ _ _ rfl | exact (mck_BD hB1 i o q).i _ _ _ _ rfl | exact hB.i _ _ _ _ rfl | assumption | exact b2n_31 _ | decide) (fun c_87 => ?_) (fun c_87 => ?_)
          · refine v_iconst (v := nI 0) hC dX6_merges_93 (by decide) ?_
            refine v_istore_n hC dX6_merges_94 (by decide) ?_
            obtain ⟨hne, h3, h4⟩ := hit_at hR1 ho (.inl c_67)
            have hh := h4.mpr (b2n_1 c_87)
            have key2 : ∀ q, q ≤ 64 → V X G 0 0 ok ad (mck τ1 i o q) [(0, .ref (ad 30 0 0)), (1, iv i), (2, iv o), (3, iv q)] 95 [] := by
              refine down (64) ?_ ?_
              · refine v_iload_n hC dX6_merges_95 rfl ?_
                refine v_bipush (v := nI 64) hC dX6_merges_96 (by decide) ?_
                refine v_icmp_geN (tgt := 145) hC dX6_merges_98 (by decide) (by first | omega | exact hB1 _ _ _ _ rfl | exact hB1.i _ _ _ _ rfl | exact mck_BD hB1 _ _ _ _ _ _ _ rfl | exact (mck_BD hB1 i o q).i _ _ _ _ rfl | exact hB.i _ _ _ _ rfl | assumption | exact b2n_31 _ | decide) (by first | omega | exact hB1 _ _ _ _ rfl | exact hB1.i _ _ _ _ rfl | exact mck_BD hB1 _ _ _ _ _ _ _ rfl | exact (mck_BD hB1 i o q).i _ _ _ _ rfl | exact hB.i _ _ _ _ rfl | assumption | exact b2n_31 _ | decide) (fun c_98 => ?_) (fun c_98 => ?_)
                · refine v_aload_n hC dX6_merges_145 rfl ?_
                  refine gf_X6_75 hC dX6_merges_146 hQ ?_
                  refine v_iload_n hC dX6_merges_149 rfl ?_
                  refine al_52 hC dX6_merges_150 hQ (by omega) ?_
                  rw [show mck τ1 i o 64 52 0 0 o = 111 from c_67]
                  refine v_bipush (v := nI 113) hC dX6_merges_151 (by decide) ?_
                  refine v_icmp_neN (tgt := 169) hC dX6_merges_153 (by decide) (by decide) (by decide) (fun _ => ?_) (fun z => absurd z (by decide))
                  refine v_iincN hC dX6_merges_169 rfl (by decide) ?_
                  refine v_goto (tgt := 51) hC dX6_merges_172 (by decide) ?_
                  exact v_sub rfl (ih _ ((RM_mck hS1 hA hi ho hh hR1).1 (h3.symm.trans c_67)) h2m.Mck (mck_BD hB1 _ _ _))
                · exact absurd c_98 (by omega)
              · intro q hq ih2 
                refine v_iload_n hC dX6_merges_95 rfl ?_
                refine v_bipush (v := nI 64) hC dX6_merges_96 (by decide) ?_
                refine v_icmp_geN (tgt := 145) hC dX6_merges_98 (by decide) (by first | omega | exact hB1 _ _ _ _ rfl | exact hB1.i _ _ _ _ rfl | exact mck_BD hB1 _ _ _ _ _ _ _ rfl | exact (mck_BD hB1 i o q).i _ _ _ _ rfl | exact hB.i _ _ _ _ rfl | assumption | exact b2n_31 _ | decide) (by first | omega | exact hB1 _ _ _ _ rfl | exact hB1.i _ _ _ _ rfl | exact mck_BD hB1 _ _ _ _ _ _ _ rfl | exact (mck_BD hB1 i o q).i _ _ _ _ rfl | exact hB.i _ _ _ _ rfl | assumption | exact b2n_31 _ | decide) (fun c_98 => ?_) (fun c_98 => ?_)
                · exact absurd c_98 (by omega)
                · refine v_aload_n hC dX6_merges_101 rfl ?_
                  refine gf_X6_53 hC dX6_merges_102 hQ ?_
                  refine v_iload_n hC dX6_merges_105 rfl ?_
                  refine al_42 hC dX6_merges_106 hQ (by first | omega | exact hB1 _ _ _ _ rfl | exact hB1.i _ _ _ _ rfl | exact mck_BD hB1 _ _ _ _ _ _ _ rfl | exact (mck_BD hB1 i o q).i _ _ _ _ rfl | exact hB.i _ _ _ _ rfl | assumption | exact b2n_31 _ | decide) ?_
                  refine v_iload_n hC dX6_merges_107 rfl ?_
                  refine v_dup2 hC dX6_merges_108 rfl rfl ?_
                  refine al_43 hC dX6_merges_109 hQ (by first | omega | exact hB1 _ _ _ _ rfl | exact hB1.i _ _ _ _ rfl | exact mck_BD hB1 _ _ _ _ _ _ _ rfl | exact (mck_BD hB1 i o q).i _ _ _ _ rfl | exact hB.i _ _ _ _ rfl | assumption | exact b2n_31 _ | decide) (by first | omega | exact hB1 _ _ _ _ rfl | exact hB1.i _ _ _ _ rfl | exact mck_BD hB1 _ _ _ _ _ _ _ rfl | exact (mck_BD hB1 i o q).i _ _ _ _ rfl | exact hB.i _ _ _ _ rfl | assumption | exact b2n_31 _ | decide) ?_
                  refine v_aload_n hC dX6_merges_110 rfl ?_
                  refine gf_X6_48 hC dX6_merges_111 hQ ?_
                  refine v_iload_n hC dX6_merges_114 rfl ?_
                  refine al_40 hC dX6_merges_115 hQ (by first | omega | exact hB1 _ _ _ _ rfl | exact hB1.i _ _ _ _ rfl | exact mck_BD hB1 _ _ _ _ _ _ _ rfl | exact (mck_BD hB1 i o q).i _ _ _ _ rfl | exact hB.i _ _ _ _ rfl | assumption | exact b2n_31 _ | decide) ?_
                  refine v_iload_n hC dX6_merges_116 rfl ?_
                  refine al_41 hC dX6_merges_117 hQ (by omega) (by omega) ?_
                  rw [mck_k (by decide)]
                  refine v_if_ltM (tgt := 136) hC dX6_merges_118 (by decide) (by first | omega | exact hB1 _ _ _ _ rfl | exact hB1.i _ _ _ _ rfl | exact mck_BD hB1 _ _ _ _ _ _ _ rfl | exact (mck_BD hB1 i o q).i _ _ _ _ rfl | exact hB.i _ _ _ _ rfl | assumption | exact b2n_31 _ | decide) (fun c_118 => ?_) (fun c_118 => ?_)
                  · refine v_iconst (v := nI 0) hC dX6_merges_136 (by decide) ?_
                    have hb2 : b2n (decide (τ1 41 i 0 q ≠ 0) && decide (τ1 41 o 0 q ≠ 0)) = 0 := by rw [decide_eq_false (show ¬ τ1 41 i 0 q ≠ 0 from fun z => z c_118)]; rfl
                    refine v_ior hC dX6_merges_137 ?_
                    rw [mck_at, nI_or0 (hB1 43 o 0 q rfl)]
                    refine as_43 hC dX6_merges_138 hQ (by omega) (by omega) (or_lt2 (hB1 43 o 0 q rfl) (by decide)) ?_
                    rw [show up (mck τ1 i o q) 43 o 0 q (τ1 43 o 0 q ||| 0) = mck τ1 i o (q + 1) by rw [mck_s, hb2]]
                    refine v_iincN hC dX6_merges_139 rfl (by decide) ?_
                    refine v_goto (tgt := 95) hC dX6_merges_142 (by decide) ?_
                    exact v_sub rfl ih2
                  · refine v_aload_n hC dX6_merges_121 rfl ?_
                    refine gf_X6_48 hC dX6_merges_122 hQ ?_
                    refine v_iload_n hC dX6_merges_125 rfl ?_
                    refine al_40 hC dX6_merges_126 hQ (by first | omega | exact hB1 _ _ _ _ rfl | exact hB1.i _ _ _ _ rfl | exact mck_BD hB1 _ _ _ _ _ _ _ rfl | exact (mck_BD hB1 i o q).i _ _ _ _ rfl | exact hB.i _ _ _ _ rfl | assumption | exact b2n_31 _ | decide) ?_
                    refine v_iload_n hC dX6_merges_127 rfl ?_
                    refine al_41 hC dX6_merges_128 hQ (by omega) (by omega) ?_
                    rw [mck_k (by decide)]
                    refine v_if_ltM (tgt := 136) hC dX6_merges_129 (by decide) (by first | omega | exact hB1 _ _ _ _ rfl | exact hB1.i _ _ _ _ rfl | exact mck_BD hB1 _ _ _ _ _ _ _ rfl | exact (mck_BD hB1 i o q).i _ _ _ _ rfl | exact hB.i _ _ _ _ rfl | assumption | exact b2n_31 _ | decide) (fun c_129 => ?_) (fun c_129 => ?_)
                    · refine v_iconst (v := nI 0) hC dX6_merges_136 (by decide) ?_
                      have hb2 : b2n (decide (τ1 41 i 0 q ≠ 0) && decide (τ1 41 o 0 q ≠ 0)) = 0 := by rw [decide_eq_false (show ¬ τ1 41 o 0 q ≠ 0 from fun z => z c_129), Bool.and_false]; rfl
                      refine v_ior hC dX6_merges_137 ?_
                      rw [mck_at, nI_or0 (hB1 43 o 0 q rfl)]
                      refine as_43 hC dX6_merges_138 hQ (by omega) (by omega) (or_lt2 (hB1 43 o 0 q rfl) (by decide)) ?_
                      rw [show up (mck τ1 i o q) 43 o 0 q (τ1 43 o 0 q ||| 0) = mck τ1 i o (q + 1) by rw [mck_s, hb2]]
                      refine v_iincN hC dX6_merges_139 rfl (by decide) ?_
                      refine v_goto (tgt := 95) hC dX6_merges_142 (by decide) ?_
                      exact v_sub rfl ih2
                    · refine v_iconst (v := nI 1) hC dX6_merges_132 (by decide) ?_
                      refine v_goto (tgt := 137) hC dX6_merges_133 (by decide) ?_
                      have hb2 : b2n (decide (τ1 41 i 0 q ≠ 0) && decide (τ1 41 o 0 q ≠ 0)) = 1 := by rw [decide_eq_true (show τ1 41 i 0 q ≠ 0 from c_118), decide_eq_true (show τ1 41 o 0 q ≠ 0 from c_129)]; rfl
                      refine v_ior hC dX6_merges_137 ?_
                      rw [mck_at, nI_or1 (hB1 43 o 0 q rfl)]
                      refine as_43 hC dX6_merges_138 hQ (by omega) (by omega) (or_lt2 (hB1 43 o 0 q rfl) (by decide)) ?_
                      rw [show up (mck τ1 i o q) 43 o 0 q (τ1 43 o 0 q ||| 1) = mck τ1 i o (q + 1) by rw [mck_s, hb2]]
                      refine v_iincN hC dX6_merges_139 rfl (by decide) ?_
                      refine v_goto (tgt := 95) hC dX6_merges_142 (by decide) ?_
                      exact v_sub rfl ih2
            have k00 := key2 0 (Nat.zero_le _)
            rw [mck_0] at k00
            exact v_sub rfl k00
          · refine v_goto (tgt := 169) hC dX6_merges_90 (by decide) ?_
            refine v_iincN hC dX6_merges_169 rfl (by decide) ?_
            refine v_goto (tgt := 51) hC dX6_merges_172 (by decide) ?_
            exact v_sub rfl (ih τ1 (by rw [mrP_no (by cases e : hit s A i o with
                | false => rfl
                | true => exact absurd ((hit_at hR1 ho (.inl c_67)).2.2.mp e) (by rw [b2n_0 c_87]; decide))]; exact hR1) h2m hB1)
        · refine v_aload_n hC dX6_merges_70 rfl ?_
          refine gf_X6_75 hC dX6_merges_71 hQ ?_
          refine v_iload_n hC dX6_merges_74 rfl ?_
          refine al_52 hC dX6_merges_75 hQ (by first | omega | exact hB1 _ _ _ _ rfl | exact hB1.i _ _ _ _ rfl | exact mck_BD hB1 _ _ _ _ _ _ _ rfl | exact (mck_BD hB1 i o q).i _ _ _ _ rfl | exact hB.i _ _ _ _ rfl | assumption | exact b2n_31 _ | decide) ?_
          refine v_bipush (v := nI 113) hC dX6_merges_76 (by decide) ?_
          refine v_icmp_neN (tgt := 169) hC dX6_merges_78 (by decide) (by first | omega | exact hB1 _ _ _ _ rfl | exact hB1.i _ _ _ _ rfl | exact mck_BD hB1 _ _ _ _ _ _ _ rfl | exact (mck_BD hB1 i o q).i _ _ _ _ rfl | exact hB.i _ _ _ _ rfl | assumption | exact b2n_31 _ | decide) (by first | omega | exact hB1 _ _ _ _ rfl | exact hB1.i _ _ _ _ rfl | exact mck_BD hB1 _ _ _ _ _ _ _ rfl | exact (mck_BD hB1 i o q).i _ _ _ _ rfl | exact hB.i _ _ _ _ rfl | assumption | exact b2n_31 _ | decide) (fun c_78 => ?_) (fun c_78 => ?_)
          · refine v_iincN hC dX6_merges_169 rfl (by decide) ?_
            refine v_goto (tgt := 51) hC dX6_merges_172 (by decide) ?_
            exact v_sub rfl (ih τ1 (by rw [mrP_no (hit_no hR1 ho c_67 c_78)]; exact hR1) h2m hB1)
          · refine v_aload_n hC dX6_merges_81 rfl ?_
            refine v_iload_n hC dX6_merges_82 rfl ?_
            refine v_iload_n hC dX6_merges_83 rfl ?_
            refine v_callV_r0 hC lk_X6_201 dX6_merges_84 (c_X6_shares hl0 hQ hB1 hi16 (by omega)) (by decide) (by decide) hQ.k30 rfl rfl rfl rfl (Nat.le_of_ble_eq_true rfl) (by omega) (by omega) ?_
            rw [hS1.Msh hBs hi ho]
            refine v_if_neN (tgt := 93) hC dX6_merges_87 (by decide) (by first | omega | exact hB1 _ _ _ _ rfl | exact hB1.i _ _ _ _ rfl | exact mck_BD hB1 _ _ _ _ _ _ _ rfl | exact (mck_BD hB1 i o q).i _ _ _ _ rfl | exact hB.i _ _ _ _ rfl | assumption | exact b2n_31 _ | decide) (fun c_87 => ?_) (fun c_87 => ?_)
            · refine v_iconst (v := nI 0) hC dX6_merges_93 (by decide) ?_
              refine v_istore_n hC dX6_merges_94 (by decide) ?_
              obtain ⟨hne, h3, h4⟩ := hit_at hR1 ho (.inr c_78)
              have hh := h4.mpr (b2n_1 c_87)
              have key2 : ∀ q, q ≤ 64 → V X G 0 0 ok ad (mck τ1 i o q) [(0, .ref (ad 30 0 0)), (1, iv i), (2, iv o), (3, iv q)] 95 [] := by
                refine down (64) ?_ ?_
                · refine v_iload_n hC dX6_merges_95 rfl ?_
                  refine v_bipush (v := nI 64) hC dX6_merges_96 (by decide) ?_
                  refine v_icmp_geN (tgt := 145) hC dX6_merges_98 (by decide) (by first | omega | exact hB1 _ _ _ _ rfl | exact hB1.i _ _ _ _ rfl | exact mck_BD hB1 _ _ _ _ _ _ _ rfl | exact (mck_BD hB1 i o q).i _ _ _ _ rfl | exact hB.i _ _ _ _ rfl | assumption | exact b2n_31 _ | decide) (by first | omega | exact hB1 _ _ _ _ rfl | exact hB1.i _ _ _ _ rfl | exact mck_BD hB1 _ _ _ _ _ _ _ rfl | exact (mck_BD hB1 i o q).i _ _ _ _ rfl | exact hB.i _ _ _ _ rfl | assumption | exact b2n_31 _ | decide) (fun c_98 => ?_) (fun c_98 => ?_)
                  · refine v_aload_n hC dX6_merges_145 rfl ?_
                    refine gf_X6_75 hC dX6_merges_146 hQ ?_
                    refine v_iload_n hC dX6_merges_149 rfl ?_
                    refine al_52 hC dX6_merges_150 hQ (by omega) ?_
                    rw [show mck τ1 i o 64 52 0 0 o = 113 from c_78]
                    refine v_bipush (v := nI 113) hC dX6_merges_151 (by decide) ?_
                    refine v_icmp_neN (tgt := 169) hC dX6_merges_153 (by decide) (by decide) (by decide) (fun z => absurd rfl z) (fun _ => ?_)
                    refine v_aload_n hC dX6_merges_156 rfl ?_
                    refine v_iload_n hC dX6_merges_157 rfl ?_
                    have hm3 : o ∈ lsM τ1 0 := by
                      rw [hR1.2.2.2.1]
                      refine List.mem_filter.mpr ⟨?_, ?_⟩
                      · exact hQm.1 o ho (h3.symm.trans c_78)
                      · simp [hne]
                    obtain ⟨k1, b1, b2, b3⟩ := lsM_at hm3
                    refine v_callV_v0 hC lk_X6_146 dX6_merges_158 (c_X6_leaves (σ := mck τ1 i o 64) hl0 hQ (mck_BD hB1 _ _ _) (by omega) b1 b2 b3) (by decide) (by decide) hQ.k30 rfl rfl rfl rfl (Nat.le_of_ble_eq_true rfl) (by omega) (by omega) ?_
                    refine v_aload_n hC dX6_merges_161 rfl ?_
                    refine gf_X6_75 hC dX6_merges_162 hQ ?_
                    refine v_iload_n hC dX6_merges_165 rfl ?_
                    refine v_bipush (v := nI 111) hC dX6_merges_166 (by decide) ?_
                    refine as_52 hC dX6_merges_168 hQ (by first | omega | exact hB1 _ _ _ _ rfl | exact hB1.i _ _ _ _ rfl | exact mck_BD hB1 _ _ _ _ _ _ _ rfl | exact (mck_BD hB1 i o q).i _ _ _ _ rfl | exact hB.i _ _ _ _ rfl | assumption | exact b2n_31 _ | decide) (by first | omega | exact hB1 _ _ _ _ rfl | exact hB1.i _ _ _ _ rfl | exact mck_BD hB1 _ _ _ _ _ _ _ rfl | exact (mck_BD hB1 i o q).i _ _ _ _ rfl | exact hB.i _ _ _ _ rfl | assumption | exact b2n_31 _ | decide) ?_
                    refine v_iincN hC dX6_merges_169 rfl (by decide) ?_
                    refine v_goto (tgt := 51) hC dX6_merges_172 (by decide) ?_
                    exact v_sub rfl (ih _ ((RM_mck hS1 hA hi ho hh hR1).2 (h3.symm.trans c_78) k1 b1 b2 b3) ((h2m.Mck.Lvs).Up rfl) (BD.put (lvs_BD (mck_BD hB1 _ _ _) _ _) (by show 111 < 65536; decide)))
                  · exact absurd c_98 (by omega)
                · intro q hq ih2 
                  refine v_iload_n hC dX6_merges_95 rfl ?_
                  refine v_bipush (v := nI 64) hC dX6_merges_96 (by decide) ?_
                  refine v_icmp_geN (tgt := 145) hC dX6_merges_98 (by decide) (by first | omega | exact hB1 _ _ _ _ rfl | exact hB1.i _ _ _ _ rfl | exact mck_BD hB1 _ _ _ _ _ _ _ rfl | exact (mck_BD hB1 i o q).i _ _ _ _ rfl | exact hB.i _ _ _ _ rfl | assumption | exact b2n_31 _ | decide) (by first | omega | exact hB1 _ _ _ _ rfl | exact hB1.i _ _ _ _ rfl | exact mck_BD hB1 _ _ _ _ _ _ _ rfl | exact (mck_BD hB1 i o q).i _ _ _ _ rfl | exact hB.i _ _ _ _ rfl | assumption | exact b2n_31 _ | decide) (fun c_98 => ?_) (fun c_98 => ?_)
                  · exact absurd c_98 (by omega)
                  · refine v_aload_n hC dX6_merges_101 rfl ?_
                    refine gf_X6_53 hC dX6_merges_102 hQ ?_
                    refine v_iload_n hC dX6_merges_105 rfl ?_
                    refine al_42 hC dX6_merges_106 hQ (by first | omega | exact hB1 _ _ _ _ rfl | exact hB1.i _ _ _ _ rfl | exact mck_BD hB1 _ _ _ _ _ _ _ rfl | exact (mck_BD hB1 i o q).i _ _ _ _ rfl | exact hB.i _ _ _ _ rfl | assumption | exact b2n_31 _ | decide) ?_
                    refine v_iload_n hC dX6_merges_107 rfl ?_
                    refine v_dup2 hC dX6_merges_108 rfl rfl ?_
                    refine al_43 hC dX6_merges_109 hQ (by first | omega | exact hB1 _ _ _ _ rfl | exact hB1.i _ _ _ _ rfl | exact mck_BD hB1 _ _ _ _ _ _ _ rfl | exact (mck_BD hB1 i o q).i _ _ _ _ rfl | exact hB.i _ _ _ _ rfl | assumption | exact b2n_31 _ | decide) (by first | omega | exact hB1 _ _ _ _ rfl | exact hB1.i _ _ _ _ rfl | exact mck_BD hB1 _ _ _ _ _ _ _ rfl | exact (mck_BD hB1 i o q).i _ _ _ _ rfl | exact hB.i _ _ _ _ rfl | assumption | exact b2n_31 _ | decide) ?_
                    refine v_aload_n hC dX6_merges_110 rfl ?_
                    refine gf_X6_48 hC dX6_merges_111 hQ ?_
                    refine v_iload_n hC dX6_merges_114 rfl ?_
                    refine al_40 hC dX6_merges_115 hQ (by first | omega | exact hB1 _ _ _ _ rfl | exact hB1.i _ _ _ _ rfl | exact mck_BD hB1 _ _ _ _ _ _ _ rfl | exact (mck_BD hB1 i o q).i _ _ _ _ rfl | exact hB.i _ _ _ _ rfl | assumption | exact b2n_31 _ | decide) ?_
                    refine v_iload_n hC dX6_merges_116 rfl ?_
                    refine al_41 hC dX6_merges_117 hQ (by omega) (by omega) ?_
                    rw [mck_k (by decide)]
                    refine v_if_ltM (tgt := 136) hC dX6_merges_118 (by decide) (by first | omega | exact hB1 _ _ _ _ rfl | exact hB1.i _ _ _ _ rfl | exact mck_BD hB1 _ _ _ _ _ _ _ rfl | exact (mck_BD hB1 i o q).i _ _ _ _ rfl | exact hB.i _ _ _ _ rfl | assumption | exact b2n_31 _ | decide) (fun c_118 => ?_) (fun c_118 => ?_)
                    · refine v_iconst (v := nI 0) hC dX6_merges_136 (by decide) ?_
                      have hb2 : b2n (decide (τ1 41 i 0 q ≠ 0) && decide (τ1 41 o 0 q ≠ 0)) = 0 := by rw [decide_eq_false (show ¬ τ1 41 i 0 q ≠ 0 from fun z => z c_118)]; rfl
                      refine v_ior hC dX6_merges_137 ?_
                      rw [mck_at, nI_or0 (hB1 43 o 0 q rfl)]
                      refine as_43 hC dX6_merges_138 hQ (by omega) (by omega) (or_lt2 (hB1 43 o 0 q rfl) (by decide)) ?_
                      rw [show up (mck τ1 i o q) 43 o 0 q (τ1 43 o 0 q ||| 0) = mck τ1 i o (q + 1) by rw [mck_s, hb2]]
                      refine v_iincN hC dX6_merges_139 rfl (by decide) ?_
                      refine v_goto (tgt := 95) hC dX6_merges_142 (by decide) ?_
                      exact v_sub rfl ih2
                    · refine v_aload_n hC dX6_merges_121 rfl ?_
                      refine gf_X6_48 hC dX6_merges_122 hQ ?_
                      refine v_iload_n hC dX6_merges_125 rfl ?_
                      refine al_40 hC dX6_merges_126 hQ (by first | omega | exact hB1 _ _ _ _ rfl | exact hB1.i _ _ _ _ rfl | exact mck_BD hB1 _ _ _ _ _ _ _ rfl | exact (mck_BD hB1 i o q).i _ _ _ _ rfl | exact hB.i _ _ _ _ rfl | assumption | exact b2n_31 _ | decide) ?_
                      refine v_iload_n hC dX6_merges_127 rfl ?_
                      refine al_41 hC dX6_merges_128 hQ (by omega) (by omega) ?_
                      rw [mck_k (by decide)]
                      refine v_if_ltM (tgt := 136) hC dX6_merges_129 (by decide) (by first | omega | exact hB1 _ _ _ _ rfl | exact hB1.i _ _ _ _ rfl | exact mck_BD hB1 _ _ _ _ _ _ _ rfl | exact (mck_BD hB1 i o q).i _ _ _ _ rfl | exact hB.i _ _ _ _ rfl | assumption | exact b2n_31 _ | decide) (fun c_129 => ?_) (fun c_129 => ?_)
                      · refine v_iconst (v := nI 0) hC dX6_merges_136 (by decide) ?_
                        have hb2 : b2n (decide (τ1 41 i 0 q ≠ 0) && decide (τ1 41 o 0 q ≠ 0)) = 0 := by rw [decide_eq_false (show ¬ τ1 41 o 0 q ≠ 0 from fun z => z c_129), Bool.and_false]; rfl
                        refine v_ior hC dX6_merges_137 ?_
                        rw [mck_at, nI_or0 (hB1 43 o 0 q rfl)]
                        refine as_43 hC dX6_merges_138 hQ (by omega) (by omega) (or_lt2 (hB1 43 o 0 q rfl) (by decide)) ?_
                        rw [show up (mck τ1 i o q) 43 o 0 q (τ1 43 o 0 q ||| 0) = mck τ1 i o (q + 1) by rw [mck_s, hb2]]
                        refine v_iincN hC dX6_merges_139 rfl (by decide) ?_
                        refine v_goto (tgt := 95) hC dX6_merges_142 (by decide) ?_
                        exact v_sub rfl ih2
                      · refine v_iconst (v := nI 1) hC dX6_merges_132 (by decide) ?_
                        refine v_goto (tgt := 137) hC dX6_merges_133 (by decide) ?_
                        have hb2 : b2n (decide (τ1 41 i 0 q ≠ 0) && decide (τ1 41 o 0 q ≠ 0)) = 1 := by rw [decide_eq_true (show τ1 41 i 0 q ≠ 0 from c_118), decide_eq_true (show τ1 41 o 0 q ≠ 0 from c_129)]; rfl
                        refine v_ior hC dX6_merges_137 ?_
                        rw [mck_at, nI_or1 (hB1 43 o 0 q rfl)]
                        refine as_43 hC dX6_merges_138 hQ (by omega) (by omega) (or_lt2 (hB1 43 o 0 q rfl) (by decide)) ?_
                        rw [show up (mck τ1 i o q) 43 o 0 q (τ1 43 o 0 q ||| 1) = mck τ1 i o (q + 1) by rw [mck_s, hb2]]
                        refine v_iincN hC dX6_merges_139 rfl (by decide) ?_
                        refine v_goto (tgt := 95) hC dX6_merges_142 (by decide) ?_
                        exact v_sub rfl ih2
              have k00 := key2 0 (Nat.zero_le _)
              rw [mck_0] at k00
              exact v_sub rfl k00
            · refine v_goto (tgt := 169) hC dX6_merges_90 (by decide) ?_
              refine v_iincN hC dX6_merges_169 rfl (by decide) ?_
              refine v_goto (tgt := 51) hC dX6_merges_172 (by decide) ?_
              exact v_sub rfl (ih τ1 (by rw [mrP_no (by cases e : hit s A i o with
                  | false => rfl
                  | true => exact absurd ((hit_at hR1 ho (.inr c_78)).2.2.mp e) (by rw [b2n_0 c_87]; decide))]; exact hR1) h2m hB1)
  have hR0 := RM_mm0 hS hR hA hi a1 a2 a3
  exact v_sub rfl (key 0 (Nat.zero_le _) (mm0 τ k0 i) hR0 (mm0_MF τ k0 i) hBm)

