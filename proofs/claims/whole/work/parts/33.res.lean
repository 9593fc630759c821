/-- the cells of a directory, the newest first, from the raw reference p -/
def Chn (ok : KF) (ad : AD) (σ : SG) : Nat → List Nat → Prop
  | p, [] => p = 0
  | p, c :: cs => p = ad 21 c 0 + 1 ∧ ok 21 c 0 ∧ ok 22 c 0 ∧ σ 22 c 0 30 ≤ 24 ∧ Chn ok ad σ (σ 21 c 0 1) cs
theorem up_rc {σ τ : SG} {k i j : Nat} (h : σ k i j = τ k i j) (a b c x v : Nat) : up σ a b c x v k i j = up τ a b c x v k i j := by
  funext x'
  have h2 : σ k i j x' = τ k i j x' := by rw [h]
  simp only [up, h2]
/-- the state behind a new build: the cell c0 made, of the result g -/
def r21 (σ : SG) (d g : Nat) : Nat → Nat := fun x => if x = 0 then g else if x = 1 then σ 19 0 0 d else 0
def nwS (σ : SG) (d n c0 g a1 : Nat) : SG := up (up (upr (upr (up σ 16 0 0 2 (σ 16 0 0 2 + 1)) 21 c0 0 (r21 σ d g)) 22 c0 0 (cpI σ n)) 19 0 0 d (a1 + 1)) 16 0 0 1 (σ 16 0 0 1 + 1)
theorem aps_16 (σ : SG) (x v w d n : Nat) : aps (up σ 16 0 0 x v) w d n = aps σ w d n := rfl

set_option maxHeartbeats 8000000 in
set_option maxRecDepth 100000 in
theorem c_X4_resultOf_A {l : Launch} (hl0 : l.stackTraces = false) {G : GT} {ok : KF} {ad : AD} {σ : SG} (hO : OKC ok) (hB : BD σ) {d w n : Nat} (hd : d < 4) (hw : w < 2) (hn : n ≤ 24) {c0 : Nat} (L : List Nat) (hL : Chn ok ad σ (σ 19 0 0 d) L) (hf : L.find? (hld σ n) = some c0) : Ct l G 2 yX4_resultOf cX4_resultOf 5 (some .boolean) [.ref (ad 16 0 0), iv d, .ref (ad 15 w 0), iv n] ok ad σ (Rt (some (iv (σ 21 c0 0 0))) ok ad (up σ 16 0 0 3 (σ 16 0 0 3 + 1))) (NX) 2 27 := by
  refine Ct.mk (by decide +kernel) hl0 (Nat.le_of_ble_eq_true rfl) (fun X hX hC hM => ?_)
  subst hX
  have key : ∀ (cs : List Nat) (p : Nat), Chn ok ad σ p cs → cs.find? (hld σ n) = some c0 → V X G 0 0 ok ad σ [(0, .ref (ad 16 0 0)), (1, iv d), (2, .ref (ad 15 w 0)), (3, iv n), (4, va_rf (rf p))] 8 [] := by
    intro cs
    induction cs with
    | nil => intro p _ h; cases h
    | cons c cs ih =>
      intro p hp hq
      obtain ⟨rfl, h21, h22, hlen, hr⟩ := hp
      refine v_aload hC dX4_resultOf_8 rfl ?_
      refine v_ifnull hC dX4_resultOf_10 ?_
      refine v_aload hC dX4_resultOf_13 rfl ?_
      refine v_aload_n hC dX4_resultOf_15 rfl ?_
      refine gf_X4_23 hC dX4_resultOf_16 hO ?_
      refine v_iload_n hC dX4_resultOf_19 rfl ?_
      refine v_callVN_r0 hC lk_X4_64 dX4_resultOf_20 (c_X0_holds hl0 hO hB h21 h22 hlen hn) (by decide) (by decide) h21 rfl rfl rfl rfl (Nat.le_of_ble_eq_true rfl) (by omega) (by omega) ?_
      refine v_if_eqN (tgt := 42) hC dX4_resultOf_23 (by decide) (by first | omega | assumption | exact hB _ _ _ _ rfl | exact b2n_31 _) (fun c_23 => ?_) (fun c_23 => ?_)
      · rw [List.find?_cons_of_neg (by rw [b2n_0 c_23]; decide)] at hq
        refine v_aload hC dX4_resultOf_42 rfl ?_
        refine gf_X4_75 hC dX4_resultOf_44 h21 ?_
        refine v_astoreP hC dX4_resultOf_47 (by decide) ?_
        refine v_goto (tgt := 8) hC dX4_resultOf_49 (by decide) ?_
        exact v_sub rfl (ih _ hr hq)
      · have e : c = c0 := by
          rw [List.find?_cons_of_pos (b2n_1 c_23)] at hq
          exact Option.some.inj hq
        subst e
        refine v_aload_n hC dX4_resultOf_26 rfl ?_
        refine v_dup hC dX4_resultOf_27 rfl ?_
        refine gf_X4_68 hC dX4_resultOf_28 hO ?_
        refine v_lconst (v := lN 1) hC dX4_resultOf_31 (by decide) ?_
        refine v_laddN hC dX4_resultOf_32 ?_
        refine pf_X4_68 hC dX4_resultOf_33 hO ?_
        refine v_aload hC dX4_resultOf_36 rfl ?_
        refine gf_X4_72 hC dX4_resultOf_38 h21 ?_
        refine v_zret hC hM dX4_resultOf_41 (nar_z (hB 21 c 0 0 rfl)) (by omega) (by omega) ?_
        exact ⟨rfl, rfl⟩
  refine v_aload_n hC dX4_resultOf_0 rfl ?_
  refine gf_X4_19 hC dX4_resultOf_1 hO ?_
  refine v_iload_n hC dX4_resultOf_4 rfl ?_
  refine al_19 hC dX4_resultOf_5 hO (by first | omega | assumption | exact hB _ _ _ _ rfl | exact b2n_31 _) ?_
  refine v_astoreP hC dX4_resultOf_6 (by decide) ?_
  exact v_sub rfl (key L _ hL hf)

set_option maxHeartbeats 8000000 in
set_option maxRecDepth 100000 in
theorem c_X4_resultOf_B {l : Launch} (hl0 : l.stackTraces = false) {G : GT} {ok : KF} {ad : AD} {σ : SG} (hO : OKC ok) (hB : BD σ) (hNR : ∀ k i j, ok k i j → k < 80) (hJ : ∀ i j, ok 21 i j → j = 0) {d w n : Nat} (hd : d < 4) (hw : w < 2) (hn : n ≤ 24) {c0 : Nat} (L : List Nat) (hL : Chn ok ad σ (σ 19 0 0 d) L) (hf : ∀ c ∈ L, hld σ n c = false) (hm : σ 16 0 0 1 < 3072) (hb : σ 16 0 0 2 < 3999) : Ct l G 2 yX4_resultOf cX4_resultOf 5 (some .boolean) [.ref (ad 16 0 0), iv d, .ref (ad 15 w 0), iv n] ok ad σ (fun v μ => v = some (iv (b2n (aps σ w d (σ 16 0 0 0)))) ∧ ∃ a1 a2, μ = (okA (okA ok 21 c0 0) 22 c0 0, adA (adA ad 21 c0 0 a1) 22 c0 0 a2, nwS σ d n c0 (b2n (aps σ w d (σ 16 0 0 0))) a1)) (NX) 2 27 := by
  refine Ct.mk (by decide +kernel) hl0 (Nat.le_of_ble_eq_true rfl) (fun X hX hC hM => ?_)
  subst hX
  have key : ∀ (cs : List Nat), (∀ c ∈ cs, hld σ n c = false) → ∀ (p : Nat), Chn ok ad σ p cs → V X G 0 0 ok ad σ [(0, .ref (ad 16 0 0)), (1, iv d), (2, .ref (ad 15 w 0)), (3, iv n), (4, va_rf (rf p))] 8 [] := by
    intro cs
    induction cs with
    | nil =>
      intro _ p hp
      have hp0 : p = 0 := hp
      subst hp0
      refine v_aloadN hC dX4_resultOf_8 rfl ?_
      refine v_ifnullN (tgt := 52) hC dX4_resultOf_10 (by decide) ?_
      refine v_aload_n hC dX4_resultOf_52 rfl ?_
      refine v_dup hC dX4_resultOf_53 rfl ?_
      refine gf_X4_79 hC dX4_resultOf_54 hO ?_
      refine v_iconst (v := nI 1) hC dX4_resultOf_57 (by decide) ?_
      refine v_iaddN hC dX4_resultOf_58 ?_
      refine pf_X4_79 hC dX4_resultOf_59 hO ?_
      have hB1 : BD (up σ 16 0 0 2 (σ 16 0 0 2 + 1)) := BD.put hB (show σ 16 0 0 2 + 1 < 4000 by omega)
      refine v_aload_n hC dX4_resultOf_62 rfl ?_
      refine v_iload_n hC dX4_resultOf_63 rfl ?_
      refine v_aload_n hC dX4_resultOf_64 rfl ?_
      refine v_callV_r0 hC lk_X4_82 dX4_resultOf_65 (c_X4_allPass hl0 hO hB1 (by omega) (by omega)) (by decide) (by decide) hO.k16 rfl rfl rfl rfl (Nat.le_of_ble_eq_true rfl) (by omega) (by omega) ?_
      rw [show up σ 16 0 0 2 (σ 16 0 0 2 + 1) 16 0 0 0 = σ 16 0 0 0 from up_x (by decide), aps_16]
      generalize hg : b2n (aps σ w d (σ 16 0 0 0)) = g
      have hg2 : g < 2 := by rw [← hg]; exact b2n_lt _
      refine v_istore hC dX4_resultOf_68 (by decide) ?_
      refine v_aload_n hC dX4_resultOf_70 rfl ?_
      refine gf_X4_86 hC dX4_resultOf_71 hO ?_
      rw [show up σ 16 0 0 2 (σ 16 0 0 2 + 1) 16 0 0 1 = σ 16 0 0 1 from up_x (by decide)]
      refine v_sipush (v := nI 3072) hC dX4_resultOf_74 (by decide) ?_
      refine v_icmp_geN (tgt := 119) hC dX4_resultOf_77 (by decide) (by first | omega | assumption | exact hB1 _ _ _ _ rfl | exact hB _ _ _ _ rfl | exact b2n_31 _ | exact b2n_lt _) (by first | omega | assumption | exact hB1 _ _ _ _ rfl | exact hB _ _ _ _ rfl | exact b2n_31 _ | exact b2n_lt _) (fun c_77 => ?_) (fun c_77 => ?_)
      · exact absurd c_77 (by omega)
      · have h95 : ¬ ok 95 0 0 := fun q => absurd (hNR _ _ _ q) (by decide)
        have h80 : ¬ ok 80 0 0 := fun q => absurd (hNR _ _ _ q) (by decide)
        refine v_aload_n hC dX4_resultOf_80 rfl ?_
        refine gf_X4_19 hC dX4_resultOf_81 hO ?_
        refine v_iload_n hC dX4_resultOf_84 rfl ?_
        refine nw_X4_17 (i0 := 0) (j0 := 0) hC dX4_resultOf_85 h95 (by omega) (by omega) (fun a1 => ?_)
        have hO2 : OKC (okA ok 95 0 0) := fun k i j h => .inl (hO k i j h)
        refine v_dup hC dX4_resultOf_88 rfl ?_
        refine v_aload_n hC dX4_resultOf_89 rfl ?_
        refine gf_X4_23 hC dX4_resultOf_90 hO2 ?_
        refine v_iload_n hC dX4_resultOf_93 rfl ?_
        refine v_callS hC lk_X4_89 dX4_resultOf_94 (c_J7_copyOf_59c91 hl0 hO2 hn (fun q => q.elim h80 (fun q => absurd q.1 (by decide)))) (by decide) (by decide) rfl rfl (Nat.le_of_ble_eq_true rfl) (by omega) (by omega) (fun v μ h => ?_) (fun _ _ h => h.elim)
        obtain ⟨a2, rfl, rfl⟩ := h
        have hO3 : OKC (okA (okA ok 95 0 0) 80 0 0) := fun k i j h => .inl (hO2 k i j h)
        have h95r : okA (okA ok 95 0 0) 80 0 0 95 0 0 := .inl (.inr ⟨rfl, rfl, rfl⟩)
        dsimp only
        refine v_iload hC dX4_resultOf_97 rfl ?_
        refine v_aload_n hC dX4_resultOf_99 rfl ?_
        refine gf_X4_19 hC dX4_resultOf_100 hO3 ?_
        refine v_iload_n hC dX4_resultOf_103 rfl ?_
        refine al_19 hC dX4_resultOf_104 hO3 hd ?_
        rw [show (upr (upr (up σ 16 0 0 2 (σ 16 0 0 2 + 1)) 95 0 0 (fun _ => 0)) 80 0 0 (cpI (upr (up σ 16 0 0 2 (σ 16 0 0 2 + 1)) 95 0 0 (fun _ => 0)) n)) 19 0 0 d = σ 19 0 0 d from rfl]
        refine v_callIN_v0 hC lk_X4_95 dX4_resultOf_105 (c_X0_init (p := a2) hl0 h95r hg2) (by decide) (by decide) rfl rfl (Nat.le_of_ble_eq_true rfl) (by omega) (by omega) ?_
        refine v_aast (σ1 := (up (up (up (up (upr (upr (up σ 16 0 0 2 (σ 16 0 0 2 + 1)) 95 0 0 (fun _ => 0)) 80 0 0 (cpI (upr (up σ 16 0 0 2 (σ 16 0 0 2 + 1)) 95 0 0 (fun _ => 0)) n)) 95 0 0 0 (a2 + 1)) 95 0 0 1 g) 95 0 0 2 (σ 19 0 0 d)) 19 0 0 d (a1 + 1))) (k := 19) (i := 0) (j := 0) 7 rfl hC dX4_resultOf_108 hO3.k19 rfl hd (by decide) (any_own (k := 95) (i := 0) (j := 0) hC rfl h95r rfl rfl) (fun k' i' j' h => up_off _ _ _ h) (by rw [up_row]; rfl) (fun x => by dsimp only; by_cases h : x = d <;> simp [h, rf]) ?_
        refine v_aload_n hC dX4_resultOf_109 rfl ?_
        refine v_dup hC dX4_resultOf_110 rfl ?_
        refine gf_X4_86 hC dX4_resultOf_111 hO3 ?_
        rw [show (up (up (up (up (upr (upr (up σ 16 0 0 2 (σ 16 0 0 2 + 1)) 95 0 0 (fun _ => 0)) 80 0 0 (cpI (upr (up σ 16 0 0 2 (σ 16 0 0 2 + 1)) 95 0 0 (fun _ => 0)) n)) 95 0 0 0 (a2 + 1)) 95 0 0 1 g) 95 0 0 2 (σ 19 0 0 d)) 19 0 0 d (a1 + 1)) 16 0 0 1 = σ 16 0 0 1 from rfl]
        refine v_iconst (v := nI 1) hC dX4_resultOf_114 (by decide) ?_
        refine v_iaddN hC dX4_resultOf_115 ?_
        refine pf_X4_86 hC dX4_resultOf_116 hO3 ?_
        refine v_rekey (ok' := okA (okA ok 21 c0 0) 22 c0 0) (ad' := adA (adA ad 21 c0 0 a1) 22 c0 0 a2) (σ' := nwS σ d n c0 g a1) (fun k i j => if k = 21 ∧ i = c0 ∧ j = 0 then (95, 0, 0) else if k = 22 ∧ i = c0 ∧ j = 0 then (80, 0, 0) else (k, i, j)) (fun k i j hk => ?_) (fun k i j k' i' j' hk hk' he => ?_) ?_
        · by_cases h1 : k = 21 ∧ i = c0 ∧ j = 0
          · rw [if_pos h1]
            obtain ⟨rfl, rfl, rfl⟩ := h1
            refine ⟨h95r, ?_, ?_⟩
            · rw [adA_off (adA ad 21 i 0 a1) a2 (by omega), adA_self]
              rfl
            · have e1 : nwS σ d n i g a1 21 i 0 = r21 σ d g := by
                unfold nwS
                rw [up_off _ _ _ (by omega), up_off _ _ _ (by omega), upr_off _ _ (by omega), upr_row]
              have e2 : adA (adA ad 21 i 0 a1) 22 i 0 a2 22 i 0 = a2 := adA_self _ _ _ _ _
              rw [e1]
              show (Sum.inr (5, [Value.ref (adA (adA ad 21 i 0 a1) 22 i 0 a2 22 i 0), iv g, va_rf (rf (σ 19 0 0 d))]) : va_E) = _
              rw [e2]
              rfl
          · rw [if_neg h1]
            by_cases h2 : k = 22 ∧ i = c0 ∧ j = 0
            · rw [if_pos h2]
              obtain ⟨rfl, rfl, rfl⟩ := h2
              refine ⟨.inr ⟨rfl, rfl, rfl⟩, ?_, ?_⟩
              · rw [adA_self]
                rfl
              · have e1 : nwS σ d n i g a1 22 i 0 = cpI σ n := by
                  unfold nwS
                  rw [up_off _ _ _ (by omega), up_off _ _ _ (by omega), upr_row]
                rw [e1]
                rfl
            · rw [if_neg h2]
              have hk0 : ok k i j := by
                rcases hk with (h | h) | h
                · exact h
                · exact absurd h h1
                · exact absurd h h2
              have hk80 := hNR _ _ _ hk0
              have n95 : ¬ (k = 95 ∧ i = 0 ∧ j = 0) := fun q => by omega
              have n80 : ¬ (k = 80 ∧ i = 0 ∧ j = 0) := fun q => by omega
              refine ⟨.inl (.inl hk0), ?_, ?_⟩
              · rw [adA_off _ _ h2, adA_off _ _ h1, adA_off _ _ n80, adA_off _ _ n95]
              · have n21 : ¬ (k = 21 ∧ i = c0) := fun q => by
                  obtain ⟨rfl, rfl⟩ := q
                  exact h1 ⟨rfl, rfl, hJ _ _ hk0⟩
                rw [enck_22i n21, enck_dyn (.inr (.inl rfl)), enck_dyn (.inr (.inr (.inr (by decide)))), enck_dyn (.inr (.inr (.inr (by decide))))]
                congr 1
                refine up_rc (up_rc ?_ _ _ _ _ _) _ _ _ _ _
                rw [upr_off _ _ h2, upr_off _ _ h1, up_off _ _ _ n95, up_off _ _ _ n95, up_off _ _ _ n95, upr_off _ _ n80, upr_off _ _ n95]
        · have hb : ∀ k i j, okA (okA ok 21 c0 0) 22 c0 0 k i j → k < 80 := fun k i j h => by
            rcases h with (h | h) | h
            · exact hNR _ _ _ h
            · omega
            · omega
          have b1 := hb _ _ _ hk
          have b2 := hb _ _ _ hk'
          split at he <;> split at he <;> (try split at he) <;> (try split at he) <;> simp only [Prod.mk.injEq] at he <;> omega
        refine v_iload hC dX4_resultOf_119 rfl ?_
        refine v_zret hC hM dX4_resultOf_121 (nar_z hg2) (by omega) (by omega) ?_
        exact ⟨by rw [hg], a1, a2, by rw [hg]⟩
    | cons c cs ih =>
      intro hcs p hp
      obtain ⟨rfl, h21, h22, hlen, hr⟩ := hp
      have hno : hld σ n c = false := hcs c List.mem_cons_self
      refine v_aload hC dX4_resultOf_8 rfl ?_
      refine v_ifnull hC dX4_resultOf_10 ?_
      refine v_aload hC dX4_resultOf_13 rfl ?_
      refine v_aload_n hC dX4_resultOf_15 rfl ?_
      refine gf_X4_23 hC dX4_resultOf_16 hO ?_
      refine v_iload_n hC dX4_resultOf_19 rfl ?_
      refine v_callVN_r0 hC lk_X4_64 dX4_resultOf_20 (c_X0_holds hl0 hO hB h21 h22 hlen hn) (by decide) (by decide) h21 rfl rfl rfl rfl (Nat.le_of_ble_eq_true rfl) (by omega) (by omega) ?_
      rw [hno]
      refine v_if_eqN (tgt := 42) hC dX4_resultOf_23 (by decide) (by first | omega | assumption | exact hB1 _ _ _ _ rfl | exact hB _ _ _ _ rfl | exact b2n_31 _ | exact b2n_lt _) (fun c_23 => ?_) (fun c_23 => ?_)
      · refine v_aload hC dX4_resultOf_42 rfl ?_
        refine gf_X4_75 hC dX4_resultOf_44 h21 ?_
        refine v_astoreP hC dX4_resultOf_47 (by decide) ?_
        refine v_goto (tgt := 8) hC dX4_resultOf_49 (by decide) ?_
        exact v_sub rfl (ih (fun c hc => hcs c (List.mem_cons_of_mem _ hc)) _ hr)
      · exact absurd rfl c_23
  refine v_aload_n hC dX4_resultOf_0 rfl ?_
  refine gf_X4_19 hC dX4_resultOf_1 hO ?_
  refine v_iload_n hC dX4_resultOf_4 rfl ?_
  refine al_19 hC dX4_resultOf_5 hO (by first | omega | assumption | exact hB1 _ _ _ _ rfl | exact hB _ _ _ _ rfl | exact b2n_31 _ | exact b2n_lt _) ?_
  refine v_astoreP hC dX4_resultOf_6 (by decide) ?_
  exact v_sub rfl (key L hf _ hL)

