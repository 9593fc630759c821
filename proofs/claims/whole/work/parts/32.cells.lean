set_option maxHeartbeats 4000000 in
set_option maxRecDepth 100000 in
theorem c_X0_init {l : Launch} (hl0 : l.stackTraces = false) {G : GT} {ok : KF} {ad : AD} {σ : SG} (h95 : ok 95 0 0) {p g q : Nat} (hg : g < 2) : Ct l G 0 yX0_init cX0_init 4 (none) [.ref (ad 95 0 0), .ref p, iv g, va_rf (rf q)] ok ad σ (Rt none ok ad (up (up (up σ 95 0 0 0 (p + 1)) 95 0 0 1 g) 95 0 0 2 q)) (NX) 0 0 := by
  refine Ct.mk (by decide +kernel) hl0 (by cases q <;> exact Nat.le_of_ble_eq_true rfl) (fun X hX hC hM => ?_)
  subst hX
  refine v_aload_n hC dX0_init_0 rfl ?_
  refine v_objInit hC dX0_init_1 oi_X0 (Nat.le_of_ble_eq_true rfl) ?_
  refine v_aload_n hC dX0_init_4 rfl ?_
  refine v_aload_n hC dX0_init_5 rfl ?_
  refine pr_X0_7 (v := (p + 1)) hC hM.2.1 dX0_init_6 h95 ?_
  refine v_aload_n hC dX0_init_9 rfl ?_
  refine v_iload_n hC dX0_init_10 rfl ?_
  refine pr_X0_13 hC hM.2.1 dX0_init_11 h95 (by first | omega | exact hB _ _ _ _ rfl | exact hB.i _ _ _ _ rfl | assumption | exact and_lt (hB _ _ _ _ rfl) | exact b2n_31 _) ?_
  refine v_aload_n hC dX0_init_14 rfl ?_
  refine v_aloadP_n hC dX0_init_15 rfl ?_
  refine pr_X0_17 hC hM.2.1 dX0_init_16 h95 ?_
  refine v_vret hC hM dX0_init_19 (by omega) (by omega) ?_
  exact ⟨rfl, rfl⟩

/-- what a cell keeps is the inputs just read -/
def hld (σ : SG) (n c : Nat) : Bool := decide (n = σ 22 c 0 30) && allB (fun x => decide (σ 22 c 0 x = σ 20 0 0 x)) 0 n
set_option maxHeartbeats 4000000 in
set_option maxRecDepth 100000 in
theorem c_X0_holds {l : Launch} (hl0 : l.stackTraces = false) {G : GT} {ok : KF} {ad : AD} {σ : SG} (hO : OKC ok) (hB : BD σ) {c n : Nat} (h21 : ok 21 c 0) (h22 : ok 22 c 0) (hc : σ 22 c 0 30 ≤ 24) (hn : n ≤ 24) : Ct l G 0 yX0_holds cX0_holds 4 (some .boolean) [.ref (ad 21 c 0), .ref (ad 20 0 0), iv n] ok ad σ (Rt (some (iv (b2n (hld σ n c)))) ok ad σ) (NX) 0 0 := by
  refine Ct.mk (by decide +kernel) hl0 (Nat.le_of_ble_eq_true rfl) (fun X hX hC hM => ?_)
  subst hX
  refine v_iload_n hC dX0_holds_0 rfl ?_
  refine v_aload_n hC dX0_holds_1 rfl ?_
  refine gf_X0_7 hC dX0_holds_2 h21 ?_
  refine v_alenN (N := σ 22 c 0 30) 0 rfl hC dX0_holds_5 h22 rfl ?_
  refine v_icmp_neN (tgt := 15) hC dX0_holds_6 (by decide) (by first | omega | exact hB _ _ _ _ rfl | exact hB.i _ _ _ _ rfl | assumption) (by first | omega | exact hB _ _ _ _ rfl | exact hB.i _ _ _ _ rfl | assumption) (fun c_6 => ?_) (fun c_6 => ?_)
  · refine v_iconst (v := nI 0) hC dX0_holds_15 (by decide) ?_
    refine v_zret hC hM dX0_holds_16 rfl (by omega) (by omega) ?_
    exact ⟨by rw [show hld σ n c = false from by simp [hld, c_6]] <;> rfl, rfl⟩
  · refine v_iload_n hC dX0_holds_9 rfl ?_
    refine v_aload_n hC dX0_holds_10 rfl ?_
    refine v_alenN (N := 24) 0 rfl hC dX0_holds_11 hO.k20 rfl ?_
    refine v_icmp_leN (tgt := 17) hC dX0_holds_12 (by decide) (by first | omega | exact hB _ _ _ _ rfl | exact hB.i _ _ _ _ rfl | assumption) (by first | omega | exact hB _ _ _ _ rfl | exact hB.i _ _ _ _ rfl | assumption) (fun c_12 => ?_) (fun c_12 => ?_)
    · refine v_iconst (v := nI 0) hC dX0_holds_17 (by decide) ?_
      refine v_istore_n hC dX0_holds_18 (by decide) ?_
      have key : ∀ t, t ≤ n → (∀ q, q < t → σ 22 c 0 q = σ 20 0 0 q) → V X G 0 0 ok ad σ [(0, .ref (ad 21 c 0)), (1, .ref (ad 20 0 0)), (2, iv n), (3, iv t)] 19 [] := by
        refine down (n) ?_ ?_
        · intro hq
          refine v_iload_n hC dX0_holds_19 rfl ?_
          refine v_iload_n hC dX0_holds_20 rfl ?_
          refine v_icmp_geN (tgt := 44) hC dX0_holds_21 (by decide) (by first | omega | exact hB _ _ _ _ rfl | exact hB.i _ _ _ _ rfl | assumption) (by first | omega | exact hB _ _ _ _ rfl | exact hB.i _ _ _ _ rfl | assumption) (fun c_21 => ?_) (fun c_21 => ?_)
          · refine v_iconst (v := nI 1) hC dX0_holds_44 (by decide) ?_
            refine v_zret hC hM dX0_holds_45 rfl (by omega) (by omega) ?_
            exact ⟨by rw [show hld σ n c = true from by simp only [hld, (allB_iff (fun x => decide (σ 22 c 0 x = σ 20 0 0 x)) 0 n).mpr (fun q h1 h2 => decide_eq_true (hq q (by omega))), decide_eq_true c_6, Bool.and_true]] <;> rfl, rfl⟩
          · exact absurd c_21 (by omega)
        · intro t hp ih hq
          refine v_iload_n hC dX0_holds_19 rfl ?_
          refine v_iload_n hC dX0_holds_20 rfl ?_
          refine v_icmp_geN (tgt := 44) hC dX0_holds_21 (by decide) (by first | omega | exact hB _ _ _ _ rfl | exact hB.i _ _ _ _ rfl | assumption) (by first | omega | exact hB _ _ _ _ rfl | exact hB.i _ _ _ _ rfl | assumption) (fun c_21 => ?_) (fun c_21 => ?_)
          · exact absurd c_21 (by omega)
          · refine v_aload_n hC dX0_holds_24 rfl ?_
            refine gf_X0_7 hC dX0_holds_25 h21 ?_
            refine v_iload_n hC dX0_holds_28 rfl ?_
            refine v_iald hC dX0_holds_29 h22 rfl (by omega) (by omega) ?_
            refine v_aload_n hC dX0_holds_30 rfl ?_
            refine v_iload_n hC dX0_holds_31 rfl ?_
            refine al_20 hC dX0_holds_32 hO (by first | omega | exact hB _ _ _ _ rfl | exact hB.i _ _ _ _ rfl | assumption) ?_
            refine v_icmp_eqN (tgt := 38) hC dX0_holds_33 (by decide) (by first | omega | exact hB _ _ _ _ rfl | exact hB.i _ _ _ _ rfl | assumption) (by first | omega | exact hB _ _ _ _ rfl | exact hB.i _ _ _ _ rfl | assumption) (fun c_33 => ?_) (fun c_33 => ?_)
            · refine v_iincN hC dX0_holds_38 rfl (by decide) ?_
              refine v_goto (tgt := 19) hC dX0_holds_41 (by decide) ?_
              refine v_sub rfl (ih (fun q h2 => ?_))
              by_cases e : q = t
              · subst e
                exact c_33
              · exact hq q (by omega)
            · refine v_iconst (v := nI 0) hC dX0_holds_36 (by decide) ?_
              refine v_zret hC hM dX0_holds_37 rfl (by omega) (by omega) ?_
              exact ⟨by rw [show hld σ n c = false from by simp only [hld, allB_no (f := fun x => decide (σ 22 c 0 x = σ 20 0 0 x)) (q := t) (n := n) (Nat.zero_le _) (by omega) (decide_eq_false c_33), Bool.and_false]] <;> rfl, rfl⟩
      exact v_sub rfl (key 0 (Nat.zero_le _) (fun q h1 => absurd h1 (by omega)))
    · refine v_iconst (v := nI 0) hC dX0_holds_15 (by decide) ?_
      refine v_zret hC hM dX0_holds_16 rfl (by omega) (by omega) ?_
      exact absurd c_12 (by omega)

