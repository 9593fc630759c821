theorem ar_Z : Cond.arrayClass FieldType.boolean ∈ lw_good := by decide +kernel
def k6_along (s : SG) (A : AS) (σ : SG) (c : Int32) : OM := gU σ c 109 fun c => .inr ((gnl s c (aM A)).length, σ)
theorem TM_m1 {G : GT} {ok : KF} {ad : AD} {s τ : SG} {A : AS} {e : Nat} (h : TM G ok ad s τ A e) : (lsM τ 1).Nodup ∧ (∀ c ∈ lsM τ 1, c < s 0 0 0 0) ∧ ∀ c, c < τ 30 0 0 2 → τ 52 0 0 c = 109 → c ∈ lsM τ 1 := by
  obtain ⟨hB, hS, hR, hArr, hKM, hA, hQm⟩ := h
  rw [hR.2.2.2.2.1]
  exact ⟨hA.2.1, fun c hc => (hA.2.2.2 c hc).1, fun c hc q => by
    rw [hS.1] at hc
    exact hQm.2 c hc ((hR.1 c hc).symm.trans q)⟩

set_option maxHeartbeats 4000000 in
set_option maxRecDepth 100000 in
theorem c_X6_along {l : Launch} (hl0 : l.stackTraces = false) {G : GT} {ok : KF} {ad : AD} {σ : SG} (hQ : OKM ok) (hB : BD σ) (c : Int32) {s : SG} {A : AS} {e : Nat} (hBs : BD s) (hT : TM G ok ad s σ A e) (n58 : ¬ ok 58 0 0) : Ct l G 3 yX6_along cX6_along 2 (some .int) [.ref (ad 30 0 0), .int c] ok ad σ (mV (k6_along s A (th σ 0) c) ok ad (th σ 0)) (NX) 1 16 := by
  refine Ct.mk (by decide +kernel) hl0 (Nat.le_of_ble_eq_true rfl) (fun X hX hC hM => ?_)
  subst hX
  have hT := TM_th (k := 0) hT (by decide)
  refine v_aload_n hC dX6_along_0 rfl ?_
  refine v_iload_n hC dX6_along_1 rfl ?_
  refine v_bipush (v := nI 109) hC dX6_along_2 (by decide) ?_
  refine v_callV hC lk_X6_116 dX6_along_4 (c_X6_isUnlike hl0 hQ hB (x := c) (s := 109) (by decide)) (by decide) (by decide) hQ.k30 rfl rfl rfl rfl (Nat.le_of_ble_eq_true rfl) (by omega) (by omega) (fun v μ h => ?_) (fun _ _ h => h.elim)
  rcases h with ⟨h_c, rfl, rfl⟩ | ⟨c, h_c, rfl, b2_c, b_c, ⟨h_st, rfl, rfl⟩ | ⟨h_st, rfl, rfl⟩⟩
  · dsimp only
    have hB : BD (th σ 0) := th_BD hB (by decide)
    have h0 : th σ 0 30 0 0 0 = 0 := up_same _ _ _ _ _ _
    generalize th σ 0 = σ at *
    refine v_if_eqN (tgt := 14) hC dX6_along_7 (by decide) (by decide) (fun c_7 => absurd c_7 (by decide)) (fun c_7 => ?_)
    refine v_iconst (v := nI 0) hC dX6_along_10 (by decide) ?_
    refine v_goto (tgt := 23) hC dX6_along_11 (by decide) ?_
    refine v_iret hC hM dX6_along_23 (by omega) (by omega) ?_
    exact .inl ⟨1, by simp [k6_along, gM, gU, gS, h_c], rfl, rfl⟩
  · dsimp only
    have hB : BD (th σ 0) := th_BD hB (by decide)
    have h0 : th σ 0 30 0 0 0 = 0 := up_same _ _ _ _ _ _
    generalize th σ 0 = σ at *
    refine v_if_eqN (tgt := 14) hC dX6_along_7 (by decide) (by decide) (fun c_7 => absurd c_7 (by decide)) (fun c_7 => ?_)
    refine v_iconst (v := nI 0) hC dX6_along_10 (by decide) ?_
    refine v_goto (tgt := 23) hC dX6_along_11 (by decide) ?_
    refine v_iret hC hM dX6_along_23 (by omega) (by omega) ?_
    exact .inl ⟨2, by simp [k6_along, gM, gU, gS, h_c, h_st], rfl, rfl⟩
  · dsimp only
    have hB : BD (th σ 0) := th_BD hB (by decide)
    have h0 : th σ 0 30 0 0 0 = 0 := up_same _ _ _ _ _ _
    generalize th σ 0 = σ at *
    refine v_if_eqN (tgt := 14) hC dX6_along_7 (by decide) (by decide) (fun c_7 => ?_) (fun c_7 => absurd c_7 (by decide))
    refine v_aload_n hC dX6_along_14 rfl ?_
    refine v_iload_n hC dX6_along_15 rfl ?_
    refine v_bipush (v := nI 16) hC dX6_along_16 (by decide) ?_
    refine v_newa (atype := .boolean) (ty := .boolean) (N := 16) (a0 := (16, .inl fun x => nI ((fun _ => 0) x))) (σ1 := upr σ 58 0 0 (fun _ => 0)) 1 58 0 0 hC dX6_along_18 rfl ar_Z rfl rfl (by omega) (by decide) (by omega) (by omega) n58 (fun a k' i' j' _ s => enck_dyn (.inr (.inr (.inr (by decide)))) k' i' j' s) (fun _ _ _ h => upr_off _ _ h) (fun a => by rw [upr_row]; rfl) rfl (fun z => ?_)
    have hQ1 : OKM (okA ok 58 0 0) := fun k i j h => .inl (hQ k i j h)
    have hk58 : (okA ok 58 0 0) 58 0 0 := .inr ⟨rfl, rfl, rfl⟩
    have hm := TM_m1 hT
    have hcm := hm.2.2 c b_c h_st
    refine v_stk (st' := [.ref ((adA ad 58 0 0 z) 58 0 0), iv c, .ref (ad 30 0 0)]) (congrArg (fun z => [Value.ref z, iv c, .ref (ad 30 0 0)]) (adA_self _ _ _ _ _)) ?_
    refine v_callV hC lk_X6_220 dX6_along_20 (c_X6_marks (ok := (okA ok 58 0 0)) (ad := (adA ad 58 0 0 z)) hl0 hQ1 hBs hB hT.2.1 hm.1 hm.2.1 hk58 hcm) (by decide) (by decide) hQ1.k30 rfl rfl rfl rfl (Nat.le_of_ble_eq_true rfl) (by omega) (by omega) (fun v μ h => ?_) (fun _ _ h => h.elim)
    obtain ⟨g, rfl, rfl, hg⟩ := h
    dsimp only
    refine v_forget (σ := σ) n58 (.inr (.inr (.inr (by decide)))) (fun k i j q => upr_off _ _ (by rintro ⟨rfl, rfl, rfl⟩; exact n58 q)) ?_
    refine v_iret hC hM dX6_along_23 (by omega) (by omega) ?_
    rw [hT.2.2.1.2.2.2.2.1]
    exact .inr ⟨_, _, by simp [k6_along, gU, h_c, h_st], rfl, rfl⟩

