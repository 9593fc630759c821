theorem cel_eq {σ : SG} {c m : Nat} (h1 : σ 56 c 0 30 = σ 56 m 0 30) (h2 : ∀ x, x < σ 56 m 0 30 → σ 56 c 0 x = σ 56 m 0 x) : cel σ c = cel σ m := by
  unfold cel
  rw [h1]
  exact List.map_congr_left (fun x hx => h2 x (List.mem_range.mp hx))
theorem cel_ne {σ : SG} {c m : Nat} (h1 : σ 56 c 0 30 ≠ σ 56 m 0 30) : cel σ c ≠ cel σ m := fun h => by
  have := congrArg List.length h
  simp only [cel, List.length_map, List.length_range] at this
  exact h1 this
theorem cel_nx {σ : SG} {c m x : Nat} (h1 : σ 56 c 0 30 = σ 56 m 0 30) (hx : x < σ 56 m 0 30) (h2 : σ 56 c 0 x ≠ σ 56 m 0 x) : cel σ c ≠ cel σ m := fun h => by
  have h3 := congrArg (fun l => l[x]?) h
  simp only [cel, List.getElem?_map] at h3
  rw [List.getElem?_range (by omega), List.getElem?_range (by omega)] at h3
  exact h2 (by simpa using h3)
theorem not_mem_getD {K : List (List Nat)} {E : List Nat} (h : ∀ q, q < K.length → K.getD q [] ≠ E) : E ∉ K := fun q => by
  obtain ⟨i, hi, e⟩ := List.getElem_of_mem q
  exact h i hi (by simp [List.getD, hi, e])
theorem mem_getD {K : List (List Nat)} {E : List Nat} {q : Nat} (h : q < K.length) (e : K.getD q [] = E) : E ∈ K := by
  rw [← e]
  simp [List.getD, h]

set_option maxHeartbeats 4000000 in
set_option maxRecDepth 100000 in
theorem c_X6_isKept {l : Launch} (hl0 : l.stackTraces = false) {G : GT} {ok : KF} {ad : AD} {σ : SG} (hQ : OKM ok) (hB : BD σ) {K : List (List Nat)} {m m0 e : Nat} (hArr : Arr G ok ad σ K e) (hKM : KM ok m0 e) (hm : ok 56 m 0) (h26 : σ 56 m 0 30 ≤ 26) (hK : K.length ≤ 3100) (he : e ≤ 4700) : Ct l G 2 yX6_isKept cX6_isKept 6 (some .boolean) [.ref (ad 30 0 0), .ref (ad 56 m 0)] ok ad σ (Rt (some (iv (b2n (decide (cel σ m ∈ K))))) ok ad σ) (NX) 1 4 := by
  refine Ct.mk (by decide +kernel) hl0 (Nat.le_of_ble_eq_true rfl) (fun X hX hC hM => ?_)
  subst hX
  have n59 : ¬ ok 59 0 0 := fun q => absurd rfl (hKM.1 _ _ _ q).2
  have hQ1 : OKM (okA ok 59 0 0) := fun k i j h => .inl (hQ k i j h)
  have hk59 : okA ok 59 0 0 59 0 0 := .inr ⟨rfl, rfl, rfl⟩
  refine v_aload_n hC dX6_isKept_0 rfl ?_
  refine gf_X6_85 hC dX6_isKept_1 hQ ?_
  refine v_callV hC lk_X6_160 dX6_isKept_4 (c_alist_iterator hl0 hQ hKM) (by decide) (by decide) hQ.k54 rfl rfl rfl rfl (Nat.le_of_ble_eq_true rfl) (by omega) (by omega) (fun v μ h => ?_) (fun _ _ h => h.elim)
  obtain ⟨a, rfl, rfl⟩ := h
  dsimp only
  refine v_astore_n hC dX6_isKept_7 (by decide) ?_
  have key : ∀ p, p ≤ K.length → ∀ lr, (∀ q, q < p → K.getD q [] ≠ cel σ m) → V X G (0 + 1) (0 + 4) (okA ok 59 0 0) (adA ad 59 0 0 a) (itS σ p lr) [(0, .ref (ad 30 0 0)), (1, .ref (ad 56 m 0)), (2, .ref a)] 8 [] := by
    refine down K.length ?_ ?_
    · intro lr hq
      refine v_aload_n hC dX6_isKept_8 rfl ?_
      refine v_callF_r0 hC lkf_164 dX6_isKept_9 (c_Jx35411_hasNext_aae02 (ok := (okA ok 59 0 0)) (ad := (adA ad 59 0 0 a)) (σ := itS σ (K.length) lr) hl0 hQ1 hk59 (by rw [itS_0]; omega) (by rw [itS_k (by decide), hArr.1]; omega)) (by decide) (by decide) hk59 rfl rfl (Nat.le_of_ble_eq_true rfl) (by omega) (by omega) ?_
      rw [itS_0, itS_k (by decide), hArr.1, show decide (K.length ≠ K.length) = false from decide_eq_false (fun q => q rfl)]
      rw [show b2n false = 0 from rfl]
      refine v_if_eqN (tgt := 90) hC dX6_isKept_14 (by decide) (by decide) (fun c_14 => ?_) (fun c_14 => absurd c_14 (by decide))
      refine v_iconst (v := nI 0) hC dX6_isKept_90 (by decide) ?_
      refine v_forget n59 (.inr (.inr (.inr (by decide)))) (fun k i j q => funext fun x => itS_k (hKM.1 _ _ _ q).2) ?_
      refine v_zret hC hM dX6_isKept_91 (nar_z b_of0) (by omega) (by omega) ?_
      have hnin := not_mem_getD hq
      exact ⟨by simp [b2n, hnin], rfl⟩
    · intro p hp ih lr hq
      have hA := hArr.2
      rcases hA with ⟨-, rfl, -⟩ | ⟨h10, hk55, h1, h9, hl, L, hL⟩
      · exact absurd hp (Nat.not_lt_zero _)
      have hLp := hL p hp
      have hL26 := hLp.2.2.2
      refine v_aload_n hC dX6_isKept_8 rfl ?_
      refine v_callF_r0 hC lkf_164 dX6_isKept_9 (c_Jx35411_hasNext_aae02 (ok := (okA ok 59 0 0)) (ad := (adA ad 59 0 0 a)) (σ := itS σ p lr) hl0 hQ1 hk59 (by rw [itS_0]; omega) (by rw [itS_k (by decide), hArr.1]; omega)) (by decide) (by decide) hk59 rfl rfl (Nat.le_of_ble_eq_true rfl) (by omega) (by omega) ?_
      rw [itS_0, itS_k (by decide), hArr.1, show decide (p ≠ K.length) = true from decide_eq_true (by omega)]
      rw [show b2n true = 1 from rfl]
      refine v_if_eqN (tgt := 90) hC dX6_isKept_14 (by decide) (by decide) (fun c_14 => absurd c_14 (by decide)) (fun c_14 => ?_)
      refine v_aload_n hC dX6_isKept_17 rfl ?_
      have h55 : okA ok 59 0 0 55 e 0 := .inl hk55
      refine v_callF hC lkf_170 dX6_isKept_18 (c_Jx35411_next_0502b (ok := (okA ok 59 0 0)) (ad := (adA ad 59 0 0 a)) (σ := itS σ p lr) (e := e) (p := p) (c := L p) hl0 hQ1 hk59 h55 (by rw [itS_k (by decide)]; exact h1) (by rw [itS_k (by decide)]; exact h9) (by omega) (by rw [itS_2, itS_k (by decide)]) (itS_0 _ _ _) (by rw [itS_k (by decide), hArr.1]; exact hp) (by rw [itS_k (by decide), hArr.1]; exact hl) (by rw [itS_k (by decide)]; exact hLp.2.1)) (by decide) (by decide) hk59 rfl rfl (Nat.le_of_ble_eq_true rfl) (by omega) (by omega) (fun v μ h => ?_) (fun _ _ h => h.elim)
      obtain ⟨rfl, rfl⟩ := h
      dsimp only
      rw [nxS_it]
      have hk56 : okA ok 59 0 0 56 (L p) 0 := .inl hLp.1
      have hkm : okA ok 59 0 0 56 m 0 := .inl hm
      have ihp := ih p
      refine v_castA (k := 56) (i := L p) (j := 0) (t0 := 0) (x := (σ 56 (L p) 0 30, .inl fun x => nI (σ 56 (L p) 0 x))) (ad := (adA ad 59 0 0 a)) hC dX6_isKept_23 cl_174 hk56 rfl hC.nmI ?_
      refine v_astore_n hC dX6_isKept_26 (by decide) ?_
      have no : cel σ (L p) ≠ cel σ m → ∀ x5, V X G (0 + 1) (0 + 4) (okA ok 59 0 0) (adA ad 59 0 0 a) (itS σ (p + 1) p) [(0, .ref (ad 30 0 0)), (1, .ref (ad 56 m 0)), (2, .ref a), (3, .ref (ad 56 (L p) 0)), (4, iv 0), (5, iv x5)] 44 [] := by
        intro hne x5
        refine v_iload hC dX6_isKept_44 rfl ?_
        refine v_if_eqN (tgt := 80) hC dX6_isKept_46 (by decide) (by decide) (fun _ => ?_) (fun q => absurd rfl q)
        refine v_iload hC dX6_isKept_80 rfl ?_
        refine v_if_eqN (tgt := 87) hC dX6_isKept_82 (by decide) (by decide) (fun _ => ?_) (fun q => absurd rfl q)
        refine v_goto (tgt := 8) hC dX6_isKept_87 (by decide) ?_
        refine v_sub rfl (ihp (fun q h2 => ?_))
        by_cases e1 : q = p
        · subst e1
          rw [← hLp.2.2.1]
          exact hne
        · exact hq q (by omega)
      have yes : cel σ (L p) = cel σ m → ∀ x5, V X G (0 + 1) (0 + 4) (okA ok 59 0 0) (adA ad 59 0 0 a) (itS σ (p + 1) p) [(0, .ref (ad 30 0 0)), (1, .ref (ad 56 m 0)), (2, .ref a), (3, .ref (ad 56 (L p) 0)), (4, iv 1), (5, iv x5)] 80 [] := by
        intro he1 x5
        refine v_iload hC dX6_isKept_80 rfl ?_
        refine v_if_eqN (tgt := 87) hC dX6_isKept_82 (by decide) (by decide) (fun q => absurd q (by decide)) (fun _ => ?_)
        refine v_iconst (v := nI 1) hC dX6_isKept_85 (by decide) ?_
        refine v_forget n59 (.inr (.inr (.inr (by decide)))) (fun k i j q => funext fun x => itS_k (hKM.1 _ _ _ q).2) ?_
        refine v_zret hC hM dX6_isKept_86 (nar_z b_of1) (by omega) (by omega) ?_
        have hin := mem_getD hp (hLp.2.2.1.symm.trans he1)
        exact ⟨by simp [b2n, hin], rfl⟩
      refine v_aload_n hC dX6_isKept_27 rfl ?_
      refine v_alenN (N := σ 56 (L p) 0 30) (ad := (adA ad 59 0 0 a)) 0 rfl hC dX6_isKept_28 hk56 rfl ?_
      refine v_aload_n hC dX6_isKept_29 rfl ?_
      refine v_alenN (N := σ 56 m 0 30) (ad := (adA ad 59 0 0 a)) 0 rfl hC dX6_isKept_30 hkm rfl ?_
      refine v_icmp_neN (tgt := 38) hC dX6_isKept_31 (by decide) (by first | omega | exact hB.i 56 _ _ _ rfl) (by first | omega | exact hB.i 56 _ _ _ rfl) (fun c_31 => ?_) (fun c_31 => ?_)
      · refine v_iconst (v := nI 0) hC dX6_isKept_38 (by decide) ?_
        refine v_istore hC dX6_isKept_39 (by decide) ?_
        refine v_iconst (v := nI 0) hC dX6_isKept_41 (by decide) ?_
        refine v_istore hC dX6_isKept_42 (by decide) ?_
        exact v_sub rfl (no (cel_ne c_31) 0)
      · refine v_iconst (v := nI 1) hC dX6_isKept_34 (by decide) ?_
        refine v_goto (tgt := 39) hC dX6_isKept_35 (by decide) ?_
        refine v_istore hC dX6_isKept_39 (by decide) ?_
        refine v_iconst (v := nI 0) hC dX6_isKept_41 (by decide) ?_
        refine v_istore hC dX6_isKept_42 (by decide) ?_
        have key2 : ∀ x, x ≤ σ 56 m 0 30 → (∀ y, y < x → σ 56 (L p) 0 y = σ 56 m 0 y) → V X G (0 + 1) (0 + 4) (okA ok 59 0 0) (adA ad 59 0 0 a) (itS σ (p + 1) p) [(0, .ref (ad 30 0 0)), (1, .ref (ad 56 m 0)), (2, .ref a), (3, .ref (ad 56 (L p) 0)), (4, iv 1), (5, iv x)] 44 [] := by
          refine down (σ 56 m 0 30) ?_ ?_
          · intro hx
            refine v_iload hC dX6_isKept_44 rfl ?_
            refine v_if_eqN (tgt := 80) hC dX6_isKept_46 (by decide) (by decide) (fun q => absurd q (by decide)) (fun _ => ?_)
            refine v_iload hC dX6_isKept_49 rfl ?_
            refine v_aload_n hC dX6_isKept_51 rfl ?_
            refine v_alenN (N := σ 56 m 0 30) (ad := (adA ad 59 0 0 a)) 0 rfl hC dX6_isKept_52 hkm rfl ?_
            refine v_icmp_geN (tgt := 80) hC dX6_isKept_53 (by decide) (by first | omega | exact hB.i 56 _ _ _ rfl) (by first | omega | exact hB.i 56 _ _ _ rfl) (fun c_53 => ?_) (fun c_53 => ?_)
            · exact v_sub rfl (yes (cel_eq c_31 hx) _)
            · exact absurd c_53 (by omega)
          · intro x hp2 ih2 hx
            refine v_iload hC dX6_isKept_44 rfl ?_
            refine v_if_eqN (tgt := 80) hC dX6_isKept_46 (by decide) (by decide) (fun q => absurd q (by decide)) (fun _ => ?_)
            refine v_iload hC dX6_isKept_49 rfl ?_
            refine v_aload_n hC dX6_isKept_51 rfl ?_
            refine v_alenN (N := σ 56 m 0 30) (ad := (adA ad 59 0 0 a)) 0 rfl hC dX6_isKept_52 hkm rfl ?_
            refine v_icmp_geN (tgt := 80) hC dX6_isKept_53 (by decide) (by first | omega | exact hB.i 56 _ _ _ rfl) (by first | omega | exact hB.i 56 _ _ _ rfl) (fun c_53 => ?_) (fun c_53 => ?_)
            · exact absurd c_53 (by omega)
            · refine v_aload_n hC dX6_isKept_56 rfl ?_
              refine v_iload hC dX6_isKept_57 rfl ?_
              refine v_iald (f := fun y => nI (σ 56 (L p) 0 y)) (N := σ 56 (L p) 0 30) (ad := (adA ad 59 0 0 a)) hC dX6_isKept_59 hk56 rfl (by omega) (by omega) ?_
              refine v_aload_n hC dX6_isKept_60 rfl ?_
              refine v_iload hC dX6_isKept_61 rfl ?_
              refine v_iald (f := fun y => nI (σ 56 m 0 y)) (N := σ 56 m 0 30) (ad := (adA ad 59 0 0 a)) hC dX6_isKept_63 hkm rfl (by omega) (by omega) ?_
              refine v_icmp_neN (tgt := 71) hC dX6_isKept_64 (by decide) (by first | omega | exact hB.i 56 _ _ _ rfl) (by first | omega | exact hB.i 56 _ _ _ rfl) (fun c_64 => ?_) (fun c_64 => ?_)
              · refine v_iconst (v := nI 0) hC dX6_isKept_71 (by decide) ?_
                refine v_istore hC dX6_isKept_72 (by decide) ?_
                refine v_iincN hC dX6_isKept_74 rfl (by decide) ?_
                refine v_goto (tgt := 44) hC dX6_isKept_77 (by decide) ?_
                exact v_sub rfl (no (cel_nx c_31 hp2 c_64) _)
              · refine v_iconst (v := nI 1) hC dX6_isKept_67 (by decide) ?_
                refine v_goto (tgt := 72) hC dX6_isKept_68 (by decide) ?_
                refine v_istore hC dX6_isKept_72 (by decide) ?_
                refine v_iincN hC dX6_isKept_74 rfl (by decide) ?_
                refine v_goto (tgt := 44) hC dX6_isKept_77 (by decide) ?_
                refine v_sub rfl (ih2 (fun y h2 => ?_))
                by_cases e1 : y = x
                · subst e1
                  exact c_64
                · exact hx y (by omega)
        exact v_sub rfl (key2 0 (Nat.zero_le _) (fun y h => absurd h (by omega)))
  exact v_sub rfl (key 0 (Nat.zero_le _) 4294967295 (fun q h => absurd h (by omega)))

