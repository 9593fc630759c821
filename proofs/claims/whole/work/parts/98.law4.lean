set_option maxRecDepth 100000 in
theorem law_disp {X : XT} {G : GT} {mc ms K0 S0 p N : Nat} {sc : Nat → Int32} {ok : KF} {ad : AD} {σ : SG} {A : AS} {e i : Nat} (hl0 : (xl X).stackTraces = false) (hC : Cx X G "BranchyardLaw" cL_law 9 16 mc ms) (hN : NC (xs X)) (hP : Scr G (xs X) p N sc) (hNl : N ≤ 3072) (hI : INV G ok ad σ A e i) (hj : 6 * i + 6 ≤ N) (h1 : K0 + 200 * (i + 1) ≤ mc) (h2 : S0 + 3000 * (i + 1) + 4 * 4700 ≤ ms)
    (nx : ∀ ok' ad' σ' A' e', INV G ok' ad' σ' A' e' (i + 1) → ad' 0 0 0 = ad 0 0 0 → ad' 30 0 0 = ad 30 0 0 → ad' 60 0 0 = ad 60 0 0 → ad' 61 0 0 = ad 61 0 0 → V X G (K0 + 200 * (i + 1)) (S0 + 3000 * (i + 1) + 4 * e') ok' ad' σ' [(0, .ref p), (1, .ref (ad 0 0 0)), (2, .ref (ad 30 0 0)), (3, .ref (ad 60 0 0)), (4, .ref (ad 61 0 0)), (5, iv (6 * i))] 2247 []) : V X G (K0 + 200 * i) (S0 + 3000 * i + 4 * e) ok ad σ [(0, .ref p), (1, .ref (ad 0 0 0)), (2, .ref (ad 30 0 0)), (3, .ref (ad 60 0 0)), (4, .ref (ad 61 0 0)), (5, iv (6 * i))] 38 [] := by
  refine v_aload_n hC dL_law_38 rfl ?_
  refine v_iload hC dL_law_39 rfl ?_
  refine v_scr (x := 6 * i) hC hP dL_law_41 (by omega) (by omega) ?_
  obtain ⟨z, hz, hze⟩ := wb_of32 (sc (6 * i))
  rw [hze]
  refine v_bipush (v := nI 63) hC dL_law_42 (by decide) ?_
  refine v_iandN hC dL_law_44 ?_
  have hq : z &&& 63 < 64 := Nat.lt_of_le_of_lt Nat.and_le_right (by decide)
  generalize z &&& 63 = q at *
  by_cases h33 : q < 33
  · have hc : q = 0 ∨ q = 1 ∨ q = 2 ∨ q = 3 ∨ q = 4 ∨ q = 5 ∨ q = 6 ∨ q = 7 ∨ q = 8 ∨ q = 9 ∨ q = 10 ∨ q = 11 ∨ q = 12 ∨ q = 13 ∨ q = 14 ∨ q = 15 ∨ q = 16 ∨ q = 17 ∨ q = 18 ∨ q = 19 ∨ q = 20 ∨ q = 21 ∨ q = 22 ∨ q = 23 ∨ q = 24 ∨ q = 25 ∨ q = 26 ∨ q = 27 ∨ q = 28 ∨ q = 29 ∨ q = 30 ∨ q = 31 ∨ q = 32 := by omega
    rcases hc with rfl | rfl | rfl | rfl | rfl | rfl | rfl | rfl | rfl | rfl | rfl | rfl | rfl | rfl | rfl | rfl | rfl | rfl | rfl | rfl | rfl | rfl | rfl | rfl | rfl | rfl | rfl | rfl | rfl | rfl | rfl | rfl | rfl
    · exact v_tableIn (off := 147) (tgt := 192) hC dL_law_45 (by decide) (by decide) (by decide) (by decide) (case_setOwner hl0 hC hN hP hNl hI hj h1 h2 nx)
    · exact v_tableIn (off := 227) (tgt := 272) hC dL_law_45 (by decide) (by decide) (by decide) (by decide) (case_setAway hl0 hC hN hP hNl hI hj h1 h2 nx)
    · exact v_tableIn (off := 318) (tgt := 363) hC dL_law_45 (by decide) (by decide) (by decide) (by decide) (case_open hl0 hC hN hP hNl hI hj h1 h2 nx)
    · exact v_tableIn (off := 374) (tgt := 419) hC dL_law_45 (by decide) (by decide) (by decide) (by decide) (case_edit hl0 hC hN hP hNl hI hj h1 h2 nx)
    · exact v_tableIn (off := 466) (tgt := 511) hC dL_law_45 (by decide) (by decide) (by decide) (by decide) (case_take hl0 hC hN hP hNl hI hj h1 h2 nx)
    · exact v_tableIn (off := 546) (tgt := 591) hC dL_law_45 (by decide) (by decide) (by decide) (by decide) (case_close hl0 hC hN hP hNl hI hj h1 h2 nx)
    · exact v_tableIn (off := 602) (tgt := 647) hC dL_law_45 (by decide) (by decide) (by decide) (by decide) (case_vote hl0 hC hN hP hNl hI hj h1 h2 nx)
    · exact v_tableIn (off := 698) (tgt := 743) hC dL_law_45 (by decide) (by decide) (by decide) (by decide) (case_verdict hl0 hC hN hP hNl hI hj h1 h2 nx)
    · exact v_tableIn (off := 766) (tgt := 811) hC dL_law_45 (by decide) (by decide) (by decide) (by decide) (case_asked hl0 hC hN hP hNl hI hj h1 h2 nx)
    · exact v_tableIn (off := 834) (tgt := 879) hC dL_law_45 (by decide) (by decide) (by decide) (by decide) (case_missing hl0 hC hN hP hNl hI hj h1 h2 nx)
    · exact v_tableIn (off := 890) (tgt := 935) hC dL_law_45 (by decide) (by decide) (by decide) (by decide) (case_queue hl0 hC hN hP hNl hI hj h1 h2 nx)
    · exact v_tableIn (off := 946) (tgt := 991) hC dL_law_45 (by decide) (by decide) (by decide) (by decide) (case_unqueue hl0 hC hN hP hNl hI hj h1 h2 nx)
    · exact v_tableIn (off := 1002) (tgt := 1047) hC dL_law_45 (by decide) (by decide) (by decide) (by decide) (case_queueAt hl0 hC hN hP hNl hI hj h1 h2 nx)
    · exact v_tableIn (off := 1058) (tgt := 1103) hC dL_law_45 (by decide) (by decide) (by decide) (by decide) (case_step hl0 hC hN hP hNl hI hj h1 h2 nx)
    · exact v_tableIn (off := 1102) (tgt := 1147) hC dL_law_45 (by decide) (by decide) (by decide) (by decide) (case_setFrozen hl0 hC hN hP hNl hI hj h1 h2 nx)
    · exact v_tableIn (off := 1193) (tgt := 1238) hC dL_law_45 (by decide) (by decide) (by decide) (by decide) (case_stateOf hl0 hC hN hP hNl hI hj h1 h2 nx)
    · exact v_tableIn (off := 1249) (tgt := 1294) hC dL_law_45 (by decide) (by decide) (by decide) (by decide) (case_hasFailed hl0 hC hN hP hNl hI hj h1 h2 nx)
    · exact v_tableIn (off := 1312) (tgt := 1357) hC dL_law_45 (by decide) (by decide) (by decide) (by decide) (case_clashes hl0 hC hN hP hNl hI hj h1 h2 nx)
    · exact v_tableIn (off := 1368) (tgt := 1413) hC dL_law_45 (by decide) (by decide) (by decide) (by decide) (case_update hl0 hC hN hP hNl hI hj h1 h2 nx)
    · exact v_tableIn (off := 1424) (tgt := 1469) hC dL_law_45 (by decide) (by decide) (by decide) (by decide) (case_addTest hl0 hC hN hP hNl hI hj h1 h2 nx)
    · exact v_tableIn (off := 1528) (tgt := 1573) hC dL_law_45 (by decide) (by decide) (by decide) (by decide) (case_dropTest hl0 hC hN hP hNl hI hj h1 h2 nx)
    · exact v_tableIn (off := 1584) (tgt := 1629) hC dL_law_45 (by decide) (by decide) (by decide) (by decide) (case_value hl0 hC hN hP hNl hI hj h1 h2 nx)
    · exact v_tableIn (off := 1652) (tgt := 1697) hC dL_law_45 (by decide) (by decide) (by decide) (by decide) (case_valueByMerges hl0 hC hN hP hNl hI hj h1 h2 nx)
    · exact v_tableIn (off := 1720) (tgt := 1765) hC dL_law_45 (by decide) (by decide) (by decide) (by decide) (case_valueWith hl0 hC hN hP hNl hI hj h1 h2 nx)
    · exact v_tableIn (off := 1800) (tgt := 1845) hC dL_law_45 (by decide) (by decide) (by decide) (by decide) (case_along hl0 hC hN hP hNl hI hj h1 h2 nx)
    · exact v_tableIn (off := 1856) (tgt := 1901) hC dL_law_45 (by decide) (by decide) (by decide) (by decide) (case_revert hl0 hC hN hP hNl hI hj h1 h2 nx)
    · exact v_tableIn (off := 1912) (tgt := 1957) hC dL_law_45 (by decide) (by decide) (by decide) (by decide) (case_mergedAt hl0 hC hN hP hNl hI hj h1 h2 nx)
    · exact v_tableIn (off := 1968) (tgt := 2013) hC dL_law_45 (by decide) (by decide) (by decide) (by decide) (case_isGood hl0 hC hN hP hNl hI hj h1 h2 nx)
    · exact v_tableIn (off := 2031) (tgt := 2076) hC dL_law_45 (by decide) (by decide) (by decide) (by decide) (case_builds hl0 hC hN hP hNl hI hj h1 h2 nx)
    · exact v_tableIn (off := 2044) (tgt := 2089) hC dL_law_45 (by decide) (by decide) (by decide) (by decide) (case_taken hl0 hC hN hP hNl hI hj h1 h2 nx)
    · exact v_tableIn (off := 2058) (tgt := 2103) hC dL_law_45 (by decide) (by decide) (by decide) (by decide) (case_takenShare hl0 hC hN hP hNl hI hj h1 h2 nx)
    · exact v_tableIn (off := 2124) (tgt := 2169) hC dL_law_45 (by decide) (by decide) (by decide) (by decide) (case_meanEdits hl0 hC hN hP hNl hI hj h1 h2 nx)
    · exact v_tableIn (off := 2189) (tgt := 2234) hC dL_law_45 (by decide) (by decide) (by decide) (by decide) (case_isSound hl0 hC hN hP hNl hI hj h1 h2 nx)
  · refine v_tableOut (tgt := 2247) hC dL_law_45 (.inr ?_) (by decide) ?_
    · rw [nI_toInt (by omega)]
      omega
    · exact v_wide (by omega) (by omega) (nx _ _ _ _ _ (hI.more (Nat.le_succ _)) rfl rfl rfl rfl)
set_option maxRecDepth 100000 in
theorem law_loop {X : XT} {G : GT} {nm : String} {Pv : Option Value → MT → Prop} {Px : String → MT → Prop} {mc ms K0 S0 p N : Nat} {sc : Nat → Int32} (hl0 : (xl X).stackTraces = false) (hC : Cx X G "BranchyardLaw" cL_law 9 16 mc ms) (hN : NC (xs X)) (hP : Scr G (xs X) p N sc) (hNl : N ≤ 3072) (hM : Mx X G nm (some .boolean) Pv Px mc ms) (hPv : ∀ μ, Pv (some (iv 1)) μ) (h1 : K0 + 200 * 512 ≤ mc) (h2 : S0 + 3000 * 512 + 4 * 4700 ≤ ms) : ∀ r i, i + r = N / 6 → ∀ {ok : KF} {ad : AD} {σ : SG} {A : AS} {e : Nat}, INV G ok ad σ A e i → V X G (K0 + 200 * i) (S0 + 3000 * i + 4 * e) ok ad σ [(0, .ref p), (1, .ref (ad 0 0 0)), (2, .ref (ad 30 0 0)), (3, .ref (ad 60 0 0)), (4, .ref (ad 61 0 0)), (5, iv (6 * i))] 28 [] := by
  intro r
  induction r with
  | zero =>
    intro i hi ok ad σ A e hI
    have ce := hI.2.2.2.2.2.2.2.2.2.2
    have fin : ∀ l, V X G (K0 + 200 * i) (S0 + 3000 * i + 4 * e) ok ad σ l 2253 [] := fun l => by
      refine v_iconst (v := nI 1) hC dL_law_2253 (by decide) ?_
      exact v_zret hC hM dL_law_2254 (nar_z b_of1) (by omega) (by omega) (hPv _)
    refine v_iload hC dL_law_28 rfl ?_
    refine v_aload_n hC dL_law_30 rfl ?_
    refine v_scrN hC hP dL_law_31 ?_
    refine v_bipush (v := nI 6) hC dL_law_32 (by decide) ?_
    by_cases h6 : 6 ≤ N
    · refine v_isubN hC dL_law_34 h6 ?_
      refine v_icmp_gtN (tgt := 2253) hC dL_law_35 (by decide) (by omega) (by omega) (fun _ => fin _) (fun q => absurd q (by omega))
    · refine v_isub hC dL_law_34 ?_
      refine v_icmp_gt (tgt := 2253) hC dL_law_35 (by decide) (fun _ => fin _) (fun q => absurd ?_ q)
      have hi0 : i = 0 := by omega
      rw [hi0]
      rcases (show N = 0 ∨ N = 1 ∨ N = 2 ∨ N = 3 ∨ N = 4 ∨ N = 5 by omega) with rfl | rfl | rfl | rfl | rfl | rfl <;> decide
  | succ r ih =>
    intro i hi ok ad σ A e hI
    have hj : 6 * i + 6 ≤ N := by omega
    refine v_iload hC dL_law_28 rfl ?_
    refine v_aload_n hC dL_law_30 rfl ?_
    refine v_scrN hC hP dL_law_31 ?_
    refine v_bipush (v := nI 6) hC dL_law_32 (by decide) ?_
    refine v_isubN hC dL_law_34 (by omega) ?_
    refine v_icmp_gtN (tgt := 2253) hC dL_law_35 (by decide) (by omega) (by omega) (fun q => absurd q (by omega)) (fun _ => ?_)
    refine law_disp hl0 hC hN hP hNl hI hj (by omega) (by omega) (fun ok' ad' σ' A' e' hI' a1 a2 a3 a4 => ?_)
    refine v_iincK (z := 6) hC dL_law_2247 rfl (by decide) (by decide) ?_
    refine v_goto (tgt := 28) hC dL_law_2250 (by decide) ?_
    have k := ih (i + 1) (by omega) hI'
    rw [a1, a2, a3, a4, show 6 * (i + 1) = 6 * i + 6 by omega] at k
    exact v_sub rfl k
