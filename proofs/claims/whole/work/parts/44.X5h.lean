/-- the candidate laid down from the trunk, and the batch's changes from a on laid over it -/
def cnd (σ : SG) : SG := upr σ 15 1 0 (fun x => if x < 64 then σ 15 0 0 x else σ 15 1 0 x)
theorem cnd_BD {σ : SG} (h : BD σ) : BD (cnd σ) := by
  unfold cnd
  refine BD.putr h (fun x _ => ?_)
  split
  · exact h 15 0 0 x rfl
  · exact h 15 1 0 x rfl
def lyl (σ : SG) (a : Nat) : Nat → SG
  | 0 => cnd σ
  | n + 1 => lay (lyl σ a n) (σ 14 0 0 (a + n)) 1 64
theorem lyl_BD {σ : SG} (h : BD σ) (a : Nat) : ∀ n, BD (lyl σ a n)
  | 0 => cnd_BD h
  | n + 1 => lay_BD (lyl_BD h a n)
theorem lyl_k {σ : SG} {a k i j x : Nat} (hk : k ≠ 15) : ∀ n, lyl σ a n k i j x = σ k i j x
  | 0 => by
    show cnd σ k i j x = σ k i j x
    unfold cnd
    exact upr_k hk
  | n + 1 => (lay_k hk).trans (lyl_k hk n)
theorem lyl_kf {σ : SG} {a k : Nat} (hk : k ≠ 15) (n : Nat) : lyl σ a n k = σ k := by
  funext i j x
  exact lyl_k hk n
theorem VK_of {σ σ' : SG} {K : List (List Nat)} (h : VK σ K) (h18 : σ' 18 = σ 18) (h16 : σ' 16 0 0 0 = σ 16 0 0 0) : VK σ' K := fun e he => by
  obtain ⟨v, d, hd, e1⟩ := h e he
  refine ⟨v, d, hd, ?_⟩
  rw [e1]
  unfold ev
  rw [inpv_18 h18, apv_18 h18, show nT σ' = nT σ from h16]

set_option maxHeartbeats 4000000 in
set_option maxRecDepth 100000 in
theorem c_X5_isGoodWithBatch {l : Launch} (hl0 : l.stackTraces = false) {G : GT} {ok : KF} {ad : AD} {σ : SG} (hO : OKC ok) (hB : BD σ) {K : List (List Nat)} (hCK : CK ok ad σ K) (hVK : VK σ K) (hc1 : σ 16 0 0 1 ≤ 3068) (hc2 : σ 16 0 0 2 ≤ 3990) (hc3 : σ 16 0 0 3 ≤ 99990) {a b : Nat} (hab : a ≤ b) (hb4 : b ≤ 4) : Ct l G 4 yX5_isGoodWithBatch cX5_isGoodWithBatch 4 (some .boolean) [.ref (ad 0 0 0), iv a, iv b] ok ad σ (fun v μ => v = some (iv (b2n (sbl (lyl σ a (b - a)) (lyl σ a (b - a) 15 1 0) 4 K).1)) ∧ Bld ok ad (lyl σ a (b - a)) K (sbl (lyl σ a (b - a)) (lyl σ a (b - a) 15 1 0) 4 K).2.1 (sbl (lyl σ a (b - a)) (lyl σ a (b - a) 15 1 0) 4 K).2.2 μ) (NX) 8 108 := by
  refine Ct.mk (by decide +kernel) hl0 (Nat.le_of_ble_eq_true rfl) (fun X hX hC hM => ?_)
  subst hX
  have hBl := lyl_BD hB a (b - a)
  have hkf : ∀ k, k ≠ 15 → lyl σ a (b - a) k = σ k := fun k hk => lyl_kf hk _
  have hk16 : ∀ x, lyl σ a (b - a) 16 0 0 x = σ 16 0 0 x := fun x => lyl_k (by decide) _
  refine v_aload_n hC dX5_isGoodWithBatch_0 rfl ?_
  refine gf_X5_42 hC dX5_isGoodWithBatch_1 hO ?_
  refine v_iconst (v := nI 0) hC dX5_isGoodWithBatch_4 (by decide) ?_
  refine v_aload_n hC dX5_isGoodWithBatch_5 rfl ?_
  refine gf_X5_45 hC dX5_isGoodWithBatch_6 hO ?_
  refine v_iconst (v := nI 0) hC dX5_isGoodWithBatch_9 (by decide) ?_
  refine v_bipush (v := nI 64) hC dX5_isGoodWithBatch_10 (by decide) ?_
  refine v_copyi (k := 15) (i := 0) (j := 0) (k2 := 15) (i2 := 1) (j2 := 0) (m := 64) (N := 64) (N2 := 64) (σ1 := cnd σ) hC dX5_isGoodWithBatch_12 ac_X5_242 (hO.k15 (i := 0) (by decide)) (hO.k15 (i := 1) (by decide)) (by decide) rfl rfl (by decide) (by decide) (by decide) (fun _ _ _ h => upr_off _ _ h) (by unfold cnd; rw [upr_row]; rfl) (fun x => by dsimp only; split <;> rfl) (Nat.le_of_ble_eq_true rfl) ?_
  refine v_iload_n hC dX5_isGoodWithBatch_15 rfl ?_
  refine v_istore_n hC dX5_isGoodWithBatch_16 (by decide) ?_
  have key : ∀ n, n ≤ b - a → V X G 0 0 ok ad (lyl σ a n) [(0, .ref (ad 0 0 0)), (1, iv a), (2, iv b), (3, iv (a + n))] 17 [] := by
    refine down (b - a) ?_ ?_
    · refine v_iload_n hC dX5_isGoodWithBatch_17 rfl ?_
      refine v_iload_n hC dX5_isGoodWithBatch_18 rfl ?_
      refine v_icmp_geN (tgt := 46) hC dX5_isGoodWithBatch_19 (by decide) (by first | omega | exact hB _ _ _ _ rfl | assumption) (by first | omega | exact hB _ _ _ _ rfl | assumption) (fun c_19 => ?_) (fun c_19 => ?_)
      · refine v_aload_n hC dX5_isGoodWithBatch_46 rfl ?_
        refine gf_X5_51 hC dX5_isGoodWithBatch_47 hO ?_
        refine v_aload_n hC dX5_isGoodWithBatch_50 rfl ?_
        refine gf_X5_45 hC dX5_isGoodWithBatch_51 hO ?_
        have hBt : BD (lyl σ a (b - a)) := hBl
        refine v_callVN hC lk_X5_310 dX5_isGoodWithBatch_54 (c_X4_buildTrunk hl0 hO hBt (w := 1) (by decide) (K := K) (hCK.same (hkf 19 (by decide)) (hkf 21 (by decide)) (hkf 22 (by decide)) (hk16 1)) (VK_of hVK (hkf 18 (by decide)) (hk16 0)) (by rw [hk16]; exact hc1) (by rw [hk16]; exact hc2) (by rw [hk16]; exact hc3)) (by decide) (by decide) hO.k16 rfl rfl rfl rfl (Nat.le_of_ble_eq_true rfl) (by omega) (by omega) (fun v μ h => ?_) (fun _ _ h => h.elim)
        obtain ⟨rfl, hb⟩ := h
        obtain ⟨nk, na, τ, rfl, hb1, hb2⟩ := hb
        dsimp only
        refine v_zret hC hM dX5_isGoodWithBatch_57 (nar_z (b2n_lt _)) (by omega) (by omega) ?_
        exact ⟨rfl, nk, na, τ, rfl, hb1, hb2⟩
      · exact absurd c_19 (by omega)
    · intro n hp ih 
      refine v_iload_n hC dX5_isGoodWithBatch_17 rfl ?_
      refine v_iload_n hC dX5_isGoodWithBatch_18 rfl ?_
      refine v_icmp_geN (tgt := 46) hC dX5_isGoodWithBatch_19 (by decide) (by first | omega | exact hB _ _ _ _ rfl | assumption) (by first | omega | exact hB _ _ _ _ rfl | assumption) (fun c_19 => ?_) (fun c_19 => ?_)
      · exact absurd c_19 (by omega)
      · refine v_aload_n hC dX5_isGoodWithBatch_22 rfl ?_
        refine gf_X5_25 hC dX5_isGoodWithBatch_23 hO ?_
        refine v_aload_n hC dX5_isGoodWithBatch_26 rfl ?_
        refine gf_X5_39 hC dX5_isGoodWithBatch_27 hO ?_
        refine v_iload_n hC dX5_isGoodWithBatch_30 rfl ?_
        refine al_14 hC dX5_isGoodWithBatch_31 hO (by first | omega | exact hB _ _ _ _ rfl | assumption) ?_
        rw [lyl_k (by decide)]
        have h14 : σ 14 0 0 (a + n) < 16 := hB 14 0 0 _ rfl
        refine al_5 hC dX5_isGoodWithBatch_32 hO h14 ?_
        refine v_aload_n hC dX5_isGoodWithBatch_33 rfl ?_
        refine gf_X5_45 hC dX5_isGoodWithBatch_34 hO ?_
        refine v_callVN_v0 hC lk_X5_306 dX5_isGoodWithBatch_37 (c_X1_applyTo hl0 hO (lyl_BD hB a n) h14 (w := 1) (by decide)) (by decide) (by decide) (hO.k6 h14) rfl rfl rfl rfl (Nat.le_of_ble_eq_true rfl) (by omega) (by omega) ?_
        refine v_iincN hC dX5_isGoodWithBatch_40 rfl (by decide) ?_
        refine v_goto (tgt := 17) hC dX5_isGoodWithBatch_43 (by decide) ?_
        exact v_sub rfl ih
  exact v_sub rfl (key 0 (Nat.zero_le _))

