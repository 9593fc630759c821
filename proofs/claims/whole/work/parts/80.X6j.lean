/-! ===== what a build of the model reads and says ===== -/
abbrev nM (σ : SG) : Nat := σ 30 0 0 1
def mcn (σ : SG) (d n : Nat) : Nat := cnt (fun t => mct σ t d) n
def minp (σ : SG) (v : Nat → Nat) (d : Nat) : Nat → List Nat
  | 0 => []
  | t + 1 => minp σ v d t ++ (if mct σ t d = true then [v (σ 32 0 0 t), v (σ 33 0 0 t)] else [])
def mev (σ : SG) (v : Nat → Nat) (d : Nat) : List Nat := d :: b2n (mgo σ v d (nM σ)) :: minp σ v d (nM σ)
def msbl (σ : SG) (v : Nat → Nat) : Nat → List (List Nat) → Bool × List (List Nat) × Nat
  | 0, K => (true, K, 0)
  | r + 1, K =>
    if mcn σ (3 - r) (nM σ) = 0 then msbl σ v r K
    else if mgo σ v (3 - r) (nM σ) = true then ((msbl σ v r (addK K (mev σ v (3 - r)))).1, (msbl σ v r (addK K (mev σ v (3 - r)))).2.1, (msbl σ v r (addK K (mev σ v (3 - r)))).2.2 + (if mev σ v (3 - r) ∈ K then 1 else 0))
    else (false, addK K (mev σ v (3 - r)), if mev σ v (3 - r) ∈ K then 1 else 0)
theorem msbl_e {σ : SG} {v : Nat → Nat} {r : Nat} {K : List (List Nat)} (h : mcn σ (3 - r) (nM σ) = 0) : msbl σ v (r + 1) K = msbl σ v r K := if_pos h
theorem msbl_t {σ : SG} {v : Nat → Nat} {r : Nat} {K : List (List Nat)} (h : mcn σ (3 - r) (nM σ) ≠ 0) (h2 : mgo σ v (3 - r) (nM σ) = true) : msbl σ v (r + 1) K = ((msbl σ v r (addK K (mev σ v (3 - r)))).1, (msbl σ v r (addK K (mev σ v (3 - r)))).2.1, (msbl σ v r (addK K (mev σ v (3 - r)))).2.2 + (if mev σ v (3 - r) ∈ K then 1 else 0)) := (if_neg h).trans (if_pos h2)
theorem msbl_f {σ : SG} {v : Nat → Nat} {r : Nat} {K : List (List Nat)} (h : mcn σ (3 - r) (nM σ) ≠ 0) (h2 : mgo σ v (3 - r) (nM σ) = false) : msbl σ v (r + 1) K = (false, addK K (mev σ v (3 - r)), if mev σ v (3 - r) ∈ K then 1 else 0) := (if_neg h).trans (if_neg (by rw [h2]; decide))
theorem mcn_mono (σ : SG) (d : Nat) : ∀ {a b : Nat}, a ≤ b → mcn σ d a ≤ mcn σ d b := fun {a b} h => by
  induction h with
  | refl => exact Nat.le_refl _
  | step _ ih => exact Nat.le_trans ih (Nat.le_add_right _ _)
theorem mcn_le (σ : SG) (d n : Nat) : mcn σ d n ≤ n := cnt_le _ _
theorem mcn_s {σ : SG} {d t : Nat} (h : mct σ t d = true) : mcn σ d (t + 1) = mcn σ d t + 1 := by
  show mcn σ d t + b2n (mct σ t d) = _
  rw [h]
  rfl
theorem mcn_n {σ : SG} {d t : Nat} (h : mct σ t d = false) : mcn σ d (t + 1) = mcn σ d t := by
  show mcn σ d t + b2n (mct σ t d) = _
  rw [h]
  rfl
/-- a cell's row while it is filled, and where the next goes -/
def mrd (σ : SG) (v : Nat → Nat) (d g N : Nat) : Nat → (Nat → Nat) × Nat
  | 0 => (fun x => if x = 30 then N else if x = 1 then g else if x = 0 then d else 0, 2)
  | t + 1 => if mct σ t d = true then (fun x => if x = (mrd σ v d g N t).2 + 1 then v (σ 33 0 0 t) else if x = (mrd σ v d g N t).2 then v (σ 32 0 0 t) else (mrd σ v d g N t).1 x, (mrd σ v d g N t).2 + 2) else mrd σ v d g N t
theorem mrd_at (σ : SG) (v : Nat → Nat) (d g N : Nat) : ∀ t, (mrd σ v d g N t).2 = 2 + 2 * mcn σ d t
  | 0 => rfl
  | t + 1 => by
    have ih := mrd_at σ v d g N t
    unfold mrd
    by_cases h : mct σ t d = true
    · rw [if_pos h, mcn_s h]
      show (mrd σ v d g N t).2 + 2 = _
      omega
    · rw [if_neg h, mcn_n (by simpa using h)]
      exact ih
theorem mrd_30 (σ : SG) (v : Nat → Nat) (d g N : Nat) : ∀ t, t ≤ 12 → (mrd σ v d g N t).1 30 = N
  | 0, _ => rfl
  | t + 1, ht => by
    have ih := mrd_30 σ v d g N t (by omega)
    have h2 := mrd_at σ v d g N t
    have h3 := mcn_le σ d t
    unfold mrd
    by_cases h : mct σ t d = true
    · rw [if_pos h]
      show (if 30 = (mrd σ v d g N t).2 + 1 then _ else if 30 = (mrd σ v d g N t).2 then _ else (mrd σ v d g N t).1 30) = N
      rw [if_neg (by omega), if_neg (by omega)]
      exact ih
    · rw [if_neg h]
      exact ih
theorem mrd_1 (σ : SG) (v : Nat → Nat) (d g N : Nat) : ∀ t, (mrd σ v d g N t).1 1 = g
  | 0 => rfl
  | t + 1 => by
    have ih := mrd_1 σ v d g N t
    have h2 := mrd_at σ v d g N t
    unfold mrd
    by_cases h : mct σ t d = true
    · rw [if_pos h]
      show (if 1 = (mrd σ v d g N t).2 + 1 then _ else if 1 = (mrd σ v d g N t).2 then _ else (mrd σ v d g N t).1 1) = g
      rw [if_neg (by omega), if_neg (by omega)]
      exact ih
    · rw [if_neg h]
      exact ih
theorem mrd_lt {σ : SG} {v : Nat → Nat} {d g N : Nat} (hv : ∀ x, v x < 100) (hd : d < 4) (hg : g < 2) (hN : N < 100) : ∀ t x, (mrd σ v d g N t).1 x < 100
  | 0, x => by
    show (if x = 30 then N else if x = 1 then g else if x = 0 then d else 0) < 100
    split
    · exact hN
    split
    · omega
    split <;> omega
  | t + 1, x => by
    unfold mrd
    by_cases h : mct σ t d = true
    · rw [if_pos h]
      show (if x = (mrd σ v d g N t).2 + 1 then _ else if x = (mrd σ v d g N t).2 then _ else (mrd σ v d g N t).1 x) < 100
      split
      · exact hv _
      split
      · exact hv _
      exact mrd_lt hv hd hg hN t x
    · rw [if_neg h]
      exact mrd_lt hv hd hg hN t x
theorem mrd_list (σ : SG) (v : Nat → Nat) (d g N : Nat) : ∀ t, (List.range (mrd σ v d g N t).2).map (mrd σ v d g N t).1 = d :: g :: minp σ v d t
  | 0 => rfl
  | t + 1 => by
    have ih := mrd_list σ v d g N t
    unfold mrd minp
    by_cases h : mct σ t d = true
    · rw [if_pos h, if_pos h]
      show (List.range ((mrd σ v d g N t).2 + 2)).map _ = _
      rw [List.range_succ, List.range_succ, List.map_append, List.map_append]
      rw [show d :: g :: (minp σ v d t ++ [v (σ 32 0 0 t), v (σ 33 0 0 t)]) = (d :: g :: minp σ v d t) ++ [v (σ 32 0 0 t), v (σ 33 0 0 t)] from rfl, ← ih, List.append_assoc]
      congr 1
      · apply List.map_congr_left
        intro x hx
        have hx2 := List.mem_range.mp hx
        dsimp only
        rw [if_neg (by omega), if_neg (by omega)]
      · simp
    · rw [if_neg h, if_neg h, List.append_nil]
      exact ih

set_option maxHeartbeats 4000000 in
set_option maxRecDepth 100000 in
theorem c_X6_inputs {l : Launch} (hl0 : l.stackTraces = false) {G : GT} {ok : KF} {ad : AD} {σ : SG} (hQ : OKM ok) (hB : BD σ) {d m e : Nat} (hd : d < 4) (hk : ok 62 0 0) (hKM : KM ok m e) : Ct l G 3 yX6_inputs cX6_inputs 7 (some (.array .int)) [.ref (ad 30 0 0), .ref (ad 62 0 0), iv d] ok ad σ (fun v μ => (mcn σ d (nM σ) = 0 ∧ v = some .null ∧ μ = (ok, ad, σ)) ∨ (mcn σ d (nM σ) ≠ 0 ∧ ∃ a row, v = some (.ref a) ∧ μ = (okA ok 56 m 0, adA ad 56 m 0 a, upr σ 56 m 0 row) ∧ (∀ x, row x < 100) ∧ row 30 ≤ 26 ∧ row 1 = b2n (mgo σ (σ 62 0 0) d (nM σ)) ∧ (List.range (row 30)).map row = mev σ (σ 62 0 0) d)) (NX) 1 26 := by
  refine Ct.mk (by decide +kernel) hl0 (Nat.le_of_ble_eq_true rfl) (fun X hX hC hM => ?_)
  subst hX
  have hn13 : nM σ < 13 := hB 30 0 0 1 rfl
  have hnM : nM σ = σ 30 0 0 1 := rfl
  have hcn2 := mcn_le σ d (nM σ)
  have hnm : ¬ ok 56 m 0 := fun q => absurd (hKM.2.2 _ _ q).2 (Nat.lt_irrefl _)
  refine v_iconst (v := nI 0) hC dX6_inputs_0 (by decide) ?_
  refine v_istore_n hC dX6_inputs_1 (by decide) ?_
  refine v_iconst (v := nI 0) hC dX6_inputs_2 (by decide) ?_
  refine v_istore hC dX6_inputs_3 (by decide) ?_
  have key : ∀ t, t ≤ nM σ → V X G 0 0 ok ad σ [(0, .ref (ad 30 0 0)), (1, .ref (ad 62 0 0)), (2, iv d), (3, iv (mcn σ d t)), (4, iv t)] 5 [] := by
    refine down (nM σ) ?_ ?_
    · refine v_iload hC dX6_inputs_5 rfl ?_
      refine v_aload_n hC dX6_inputs_7 rfl ?_
      refine gf_X6_150 hC dX6_inputs_8 hQ ?_
      refine v_icmp_geN (tgt := 38) hC dX6_inputs_11 (by decide) (by first | omega | exact hB _ _ _ _ rfl | exact hB.i _ _ _ _ rfl | assumption | exact b2n_31 _) (by first | omega | exact hB _ _ _ _ rfl | exact hB.i _ _ _ _ rfl | assumption | exact b2n_31 _) (fun c_11 => ?_) (fun c_11 => ?_)
      · refine v_iload_n hC dX6_inputs_38 rfl ?_
        refine v_if_neN (tgt := 44) hC dX6_inputs_39 (by decide) (by first | omega | exact hB _ _ _ _ rfl | exact hB.i _ _ _ _ rfl | assumption | exact b2n_31 _) (fun c_39 => ?_) (fun c_39 => ?_)
        · refine v_iconst (v := nI 2) hC dX6_inputs_44 (by decide) ?_
          refine v_iconst (v := nI 2) hC dX6_inputs_45 (by decide) ?_
          refine v_iload_n hC dX6_inputs_46 rfl ?_
          refine v_imulN hC dX6_inputs_47 ?_
          refine v_iaddN hC dX6_inputs_48 ?_
          have hcn := mcn_le σ d (nM σ)
          refine v_newa (atype := .int) (ty := .int) (N := 2 + 2 * mcn σ d (nM σ)) (a0 := (2 + 2 * mcn σ d (nM σ), .inl fun x => nI ((fun x => if x = 30 then 2 + 2 * mcn σ d (nM σ) else 0) x))) (σ1 := upr σ 56 m 0 (fun x => if x = 30 then 2 + 2 * mcn σ d (nM σ) else 0)) 0 56 m 0 hC dX6_inputs_49 rfl ar_I rfl rfl (by omega) (by show (2 + 2 * mcn σ d (nM σ)) * 4 ≤ 536870912; omega) (by omega) (by omega) hnm (fun a k' i' j' _ s => enck_dyn (.inr (.inr (.inr (by decide)))) k' i' j' s) (fun _ _ _ h => upr_off _ _ h) (fun a => by rw [upr_row]; rfl) (show arrV (G.2.2.1 0) (2 + 2 * mcn σ d (nM σ)) (fun x => Value.int (nI (if x = 30 then 2 + 2 * mcn σ d (nM σ) else 0))) = arrV (G.2.2.1 0) (2 + 2 * mcn σ d (nM σ)) (fun _ => Value.int 0) from arrV_congr (fun j hj => by rw [if_neg (by omega)]; rfl)) (fun a => ?_)
          have hQ1 : OKM (okA ok 56 m 0) := fun k i j h => .inl (hQ k i j h)
          have hk1 : okA ok 56 m 0 56 m 0 := .inr ⟨rfl, rfl, rfl⟩
          have hself : adA ad 56 m 0 a 56 m 0 = a := adA_self _ _ _ _ _
          have hv : ∀ x, σ 62 0 0 x < 100 := fun x => hB 62 0 0 x rfl
          have hBr : ∀ r : Nat → Nat, (∀ x, r x < 100) → BD (upr σ 56 m 0 r) := fun r hr => BD.putr hB (fun x _ => hr x)
          have h62 : okA ok 56 m 0 62 0 0 := .inl hk
          generalize hN : 2 + 2 * mcn σ d (nM σ) = N at *
          have hN26 : N ≤ 26 := by omega
          have store : ∀ (r : Nat → Nat) (x y : Nat) {kc ks : Nat} {l : List (Nat × Value)} {pc : Nat} {st : List Value}, x < N → r 30 = N → decode cX6_inputs pc = .ok (.iastore, 1) → V X G kc ks (okA ok 56 m 0) (adA ad 56 m 0 a) (upr σ 56 m 0 (fun z => if z = x then y else r z)) l (pc + 1) st → V X G kc ks (okA ok 56 m 0) (adA ad 56 m 0 a) (upr σ 56 m 0 r) l pc (iv y :: iv x :: .ref a :: st) := by
            intro r x y kc ks l pc st hx hr dd kk
            refine v_stk (st' := iv y :: iv x :: .ref (adA ad 56 m 0 a 56 m 0) :: st) (congrArg (fun z => iv y :: iv x :: Value.ref z :: st) hself) ?_
            refine v_iast (N := N) (f := fun z => nI (r z)) (f1 := fun z => nI (if z = x then y else r z)) (σ1 := upr σ 56 m 0 (fun z => if z = x then y else r z)) hC dd hk1 (by rw [upr_row]; show eI _ (r 30) _ = _; rw [hr]) hx (by omega) (fun _ _ _ h => by rw [upr_off _ _ h, upr_off _ _ h]) (by rw [upr_row]; show eI _ (if 30 = x then y else r 30) _ = _; rw [if_neg (by omega), hr]) (fun z => by by_cases q : z = x <;> simp [q]) kk
          refine v_astore hC dX6_inputs_51 (by decide) ?_
          refine v_aload hC dX6_inputs_53 rfl ?_
          refine v_iconst (v := nI 0) hC dX6_inputs_55 (by decide) ?_
          refine v_iload_n hC dX6_inputs_56 rfl ?_
          refine store _ 0 d (by omega) rfl dX6_inputs_57 ?_
          refine v_aload hC dX6_inputs_58 rfl ?_
          refine v_iconst (v := nI 1) hC dX6_inputs_60 (by decide) ?_
          refine v_aload_n hC dX6_inputs_61 rfl ?_
          refine v_aload_n hC dX6_inputs_62 rfl ?_
          refine v_iload_n hC dX6_inputs_63 rfl ?_
          refine v_callV_r0 hC lk_X6_156 dX6_inputs_64 (c_X6_isGoodOn_62 (ok := (okA ok 56 m 0)) (ad := (adA ad 56 m 0 a)) hl0 hQ1 (hBr _ (fun z => by split <;> (try split) <;> omega)) h62 hd) (by decide) (by decide) hQ1.k30 rfl rfl rfl rfl (Nat.le_of_ble_eq_true rfl) (by omega) (by omega) ?_
          rw [show mgo (upr σ 56 m 0 (fun z => if z = 0 then d else if z = 30 then N else 0)) (upr σ 56 m 0 (fun z => if z = 0 then d else if z = 30 then N else 0) 62 0 0) d (upr σ 56 m 0 (fun z => if z = 0 then d else if z = 30 then N else 0) 30 0 0 1) = mgo σ (σ 62 0 0) d (nM σ) from rfl]
          refine v_if_eqN (tgt := 74) hC dX6_inputs_67 (by decide) (by first | omega | exact hB _ _ _ _ rfl | exact hB.i _ _ _ _ rfl | assumption | exact b2n_31 _) (fun c_67 => ?_) (fun c_67 => ?_)
          · refine v_iconst (v := nI 0) hC dX6_inputs_74 (by decide) ?_
            have hg : b2n (mgo σ (σ 62 0 0) d (nM σ)) = 0 := by rw [b2n_0 c_67]; rfl
            refine store _ 1 0 (by omega) rfl dX6_inputs_75 ?_
            rw [show (fun z => if z = 1 then 0 else (fun z => if z = 0 then d else if z = 30 then N else 0) z) = (mrd σ (σ 62 0 0) d (b2n (mgo σ (σ 62 0 0) d (nM σ))) N 0).1 from by
              funext z
              rw [hg]
              show (if z = 1 then 0 else if z = 0 then d else if z = 30 then N else 0) = if z = 30 then N else if z = 1 then 0 else if z = 0 then d else 0
              by_cases q : z = 30
              · subst q; rfl
              · simp [q]]
            have hmev : mev σ (σ 62 0 0) d = d :: b2n (mgo σ (σ 62 0 0) d (nM σ)) :: minp σ (σ 62 0 0) d (nM σ) := rfl
            generalize b2n (mgo σ (σ 62 0 0) d (nM σ)) = g at *
            have hg2 : g < 2 := by omega
            refine v_iconst (v := nI 2) hC dX6_inputs_76 (by decide) ?_
            refine v_istore hC dX6_inputs_77 (by decide) ?_
            refine v_iconst (v := nI 0) hC dX6_inputs_79 (by decide) ?_
            refine v_istore hC dX6_inputs_80 (by decide) ?_
            have key2 : ∀ t, t ≤ nM σ → V X G (0 + 1) (0 + N) (okA ok 56 m 0) (adA ad 56 m 0 a) (upr σ 56 m 0 (mrd σ (σ 62 0 0) d g N t).1) [(0, .ref (ad 30 0 0)), (1, .ref (ad 62 0 0)), (2, iv d), (4, .ref a), (5, iv (mrd σ (σ 62 0 0) d g N t).2), (6, iv t)] 82 [] := by
              refine down (nM σ) ?_ ?_
              · refine v_iload hC dX6_inputs_82 rfl ?_
                refine v_aload_n hC dX6_inputs_84 rfl ?_
                refine gf_X6_150 (ad := (adA ad 56 m 0 a)) hC dX6_inputs_85 hQ1 ?_
                rw [show upr σ 56 m 0 (mrd σ (σ 62 0 0) d g N (nM σ)).1 30 0 0 1 = nM σ from rfl]
                refine v_icmp_geN (tgt := 143) hC dX6_inputs_88 (by decide) (by first | omega | exact hB _ _ _ _ rfl | exact hB.i _ _ _ _ rfl | assumption | exact b2n_31 _) (by first | omega | exact hB _ _ _ _ rfl | exact hB.i _ _ _ _ rfl | assumption | exact b2n_31 _) (fun c_88 => ?_) (fun c_88 => ?_)
                · refine v_aload hC dX6_inputs_143 rfl ?_
                  refine v_aret hC hM dX6_inputs_145 (.inr ⟨_, rfl⟩) (.inr ⟨_, rfl⟩) (by omega) (by omega) ?_
                  refine .inr ⟨by omega, a, _, rfl, rfl, mrd_lt hv hd hg2 (by omega) _, ?_, mrd_1 _ _ _ _ _ _, ?_⟩
                  · rw [mrd_30 _ _ _ _ _ _ (by omega)]
                    exact hN26
                  · rw [mrd_30 _ _ _ _ _ _ (by omega)]
                    have h5 := mrd_list σ (σ 62 0 0) d g N (nM σ)
                    rw [mrd_at, hN] at h5
                    rw [hmev]
                    exact h5
                · exact absurd c_88 (by omega)
              · intro t hp ih 
                refine v_iload hC dX6_inputs_82 rfl ?_
                refine v_aload_n hC dX6_inputs_84 rfl ?_
                refine gf_X6_150 (ad := (adA ad 56 m 0 a)) hC dX6_inputs_85 hQ1 ?_
                rw [show upr σ 56 m 0 (mrd σ (σ 62 0 0) d g N t).1 30 0 0 1 = nM σ from rfl]
                refine v_icmp_geN (tgt := 143) hC dX6_inputs_88 (by decide) (by first | omega | exact hB _ _ _ _ rfl | exact hB.i _ _ _ _ rfl | assumption | exact b2n_31 _) (by first | omega | exact hB _ _ _ _ rfl | exact hB.i _ _ _ _ rfl | assumption | exact b2n_31 _) (fun c_88 => ?_) (fun c_88 => ?_)
                · exact absurd c_88 (by omega)
                · refine v_aload_n hC dX6_inputs_91 rfl ?_
                  refine v_iload hC dX6_inputs_92 rfl ?_
                  refine v_iload_n hC dX6_inputs_94 rfl ?_
                  refine v_callV_r0 hC lk_X6_153 dX6_inputs_95 (c_X6_counts (ok := (okA ok 56 m 0)) (ad := (adA ad 56 m 0 a)) hl0 hQ1 (hBr _ (mrd_lt hv hd hg2 (by omega) t)) (by omega) hd) (by decide) (by decide) hQ1.k30 rfl rfl rfl rfl (Nat.le_of_ble_eq_true rfl) (by omega) (by omega) ?_
                  rw [show mct (upr σ 56 m 0 (mrd σ (σ 62 0 0) d g N t).1) t d = mct σ t d from rfl]
                  refine v_if_neN (tgt := 104) hC dX6_inputs_98 (by decide) (by first | omega | exact hB _ _ _ _ rfl | exact hB.i _ _ _ _ rfl | assumption | exact b2n_31 _) (fun c_98 => ?_) (fun c_98 => ?_)
                  · have hmt := mcn_s (b2n_1 c_98)
                    have hmm := mcn_mono σ d (show t + 1 ≤ nM σ by omega)
                    have hat := mrd_at σ (σ 62 0 0) d g N t
                    have h12 := mcn_le σ d t
                    refine v_aload hC dX6_inputs_104 rfl ?_
                    refine v_iload hC dX6_inputs_106 rfl ?_
                    refine v_aload_n hC dX6_inputs_108 rfl ?_
                    refine v_aload_n hC dX6_inputs_109 rfl ?_
                    refine gf_X6_21 (ad := (adA ad 56 m 0 a)) hC dX6_inputs_110 hQ1 ?_
                    refine v_iload hC dX6_inputs_113 rfl ?_
                    refine al_32 (ad := (adA ad 56 m 0 a)) hC dX6_inputs_115 hQ1 (by omega) ?_
                    refine al_62 (i := 0) (ad := (adA ad 56 m 0 a)) hC dX6_inputs_116 h62 (hB 32 0 0 t rfl) ?_
                    refine store (mrd σ (σ 62 0 0) d g N t).1 (mrd σ (σ 62 0 0) d g N t).2 (σ 62 0 0 (σ 32 0 0 t)) (by omega) (mrd_30 _ _ _ _ _ _ (by omega)) dX6_inputs_117 ?_
                    refine v_aload hC dX6_inputs_118 rfl ?_
                    refine v_iload hC dX6_inputs_120 rfl ?_
                    refine v_iconst (v := nI 1) hC dX6_inputs_122 (by decide) ?_
                    refine v_iaddN hC dX6_inputs_123 ?_
                    refine v_aload_n hC dX6_inputs_124 rfl ?_
                    refine v_aload_n hC dX6_inputs_125 rfl ?_
                    refine gf_X6_24 (ad := (adA ad 56 m 0 a)) hC dX6_inputs_126 hQ1 ?_
                    refine v_iload hC dX6_inputs_129 rfl ?_
                    refine al_33 (ad := (adA ad 56 m 0 a)) hC dX6_inputs_131 hQ1 (by omega) ?_
                    refine al_62 (i := 0) (ad := (adA ad 56 m 0 a)) hC dX6_inputs_132 h62 (hB 33 0 0 t rfl) ?_
                    refine store _ ((mrd σ (σ 62 0 0) d g N t).2 + 1) (σ 62 0 0 (σ 33 0 0 t)) (by omega) (by rw [if_neg (by omega)]; exact mrd_30 _ _ _ _ _ _ (by omega)) dX6_inputs_133 ?_
                    refine v_iincK (z := 2) hC dX6_inputs_134 rfl (by decide) (by decide) ?_
                    refine v_iincN hC dX6_inputs_137 rfl (by decide) ?_
                    refine v_goto (tgt := 82) hC dX6_inputs_140 (by decide) ?_
                    have e1 : mrd σ (σ 62 0 0) d g N (t + 1) = (fun x => if x = (mrd σ (σ 62 0 0) d g N t).2 + 1 then σ 62 0 0 (σ 33 0 0 t) else if x = (mrd σ (σ 62 0 0) d g N t).2 then σ 62 0 0 (σ 32 0 0 t) else (mrd σ (σ 62 0 0) d g N t).1 x, (mrd σ (σ 62 0 0) d g N t).2 + 2) := if_pos (b2n_1 c_98)
                    rw [e1] at ih
                    exact v_sub rfl ih
                  · refine v_goto (tgt := 137) hC dX6_inputs_101 (by decide) ?_
                    refine v_iincN hC dX6_inputs_137 rfl (by decide) ?_
                    refine v_goto (tgt := 82) hC dX6_inputs_140 (by decide) ?_
                    have e1 : mrd σ (σ 62 0 0) d g N (t + 1) = (mrd σ (σ 62 0 0) d g N t) := if_neg (by rw [b2n_0 c_98]; decide)
                    rw [e1] at ih
                    exact v_sub rfl ih
            exact v_sub rfl (key2 0 (Nat.zero_le _))
          · refine v_iconst (v := nI 1) hC dX6_inputs_70 (by decide) ?_
            refine v_goto (tgt := 75) hC dX6_inputs_71 (by decide) ?_
            have hg : b2n (mgo σ (σ 62 0 0) d (nM σ)) = 1 := by rw [b2n_1 c_67]; rfl
            refine store _ 1 1 (by omega) rfl dX6_inputs_75 ?_
            rw [show (fun z => if z = 1 then 1 else (fun z => if z = 0 then d else if z = 30 then N else 0) z) = (mrd σ (σ 62 0 0) d (b2n (mgo σ (σ 62 0 0) d (nM σ))) N 0).1 from by
              funext z
              rw [hg]
              show (if z = 1 then 1 else if z = 0 then d else if z = 30 then N else 0) = if z = 30 then N else if z = 1 then 1 else if z = 0 then d else 0
              by_cases q : z = 30
              · subst q; rfl
              · simp [q]]
            have hmev : mev σ (σ 62 0 0) d = d :: b2n (mgo σ (σ 62 0 0) d (nM σ)) :: minp σ (σ 62 0 0) d (nM σ) := rfl
            generalize b2n (mgo σ (σ 62 0 0) d (nM σ)) = g at *
            have hg2 : g < 2 := by omega
            refine v_iconst (v := nI 2) hC dX6_inputs_76 (by decide) ?_
            refine v_istore hC dX6_inputs_77 (by decide) ?_
            refine v_iconst (v := nI 0) hC dX6_inputs_79 (by decide) ?_
            refine v_istore hC dX6_inputs_80 (by decide) ?_
            have key2 : ∀ t, t ≤ nM σ → V X G (0 + 1) (0 + N) (okA ok 56 m 0) (adA ad 56 m 0 a) (upr σ 56 m 0 (mrd σ (σ 62 0 0) d g N t).1) [(0, .ref (ad 30 0 0)), (1, .ref (ad 62 0 0)), (2, iv d), (4, .ref a), (5, iv (mrd σ (σ 62 0 0) d g N t).2), (6, iv t)] 82 [] := by
              refine down (nM σ) ?_ ?_
              · refine v_iload hC dX6_inputs_82 rfl ?_
                refine v_aload_n hC dX6_inputs_84 rfl ?_
                refine gf_X6_150 (ad := (adA ad 56 m 0 a)) hC dX6_inputs_85 hQ1 ?_
                rw [show upr σ 56 m 0 (mrd σ (σ 62 0 0) d g N (nM σ)).1 30 0 0 1 = nM σ from rfl]
                refine v_icmp_geN (tgt := 143) hC dX6_inputs_88 (by decide) (by first | omega | exact hB _ _ _ _ rfl | exact hB.i _ _ _ _ rfl | assumption | exact b2n_31 _) (by first | omega | exact hB _ _ _ _ rfl | exact hB.i _ _ _ _ rfl | assumption | exact b2n_31 _) (fun c_88 => ?_) (fun c_88 => ?_)
                · refine v_aload hC dX6_inputs_143 rfl ?_
                  refine v_aret hC hM dX6_inputs_145 (.inr ⟨_, rfl⟩) (.inr ⟨_, rfl⟩) (by omega) (by omega) ?_
                  refine .inr ⟨by omega, a, _, rfl, rfl, mrd_lt hv hd hg2 (by omega) _, ?_, mrd_1 _ _ _ _ _ _, ?_⟩
                  · rw [mrd_30 _ _ _ _ _ _ (by omega)]
                    exact hN26
                  · rw [mrd_30 _ _ _ _ _ _ (by omega)]
                    have h5 := mrd_list σ (σ 62 0 0) d g N (nM σ)
                    rw [mrd_at, hN] at h5
                    rw [hmev]
                    exact h5
                · exact absurd c_88 (by omega)
              · intro t hp ih 
                refine v_iload hC dX6_inputs_82 rfl ?_
                refine v_aload_n hC dX6_inputs_84 rfl ?_
                refine gf_X6_150 (ad := (adA ad 56 m 0 a)) hC dX6_inputs_85 hQ1 ?_
                rw [show upr σ 56 m 0 (mrd σ (σ 62 0 0) d g N t).1 30 0 0 1 = nM σ from rfl]
                refine v_icmp_geN (tgt := 143) hC dX6_inputs_88 (by decide) (by first | omega | exact hB _ _ _ _ rfl | exact hB.i _ _ _ _ rfl | assumption | exact b2n_31 _) (by first | omega | exact hB _ _ _ _ rfl | exact hB.i _ _ _ _ rfl | assumption | exact b2n_31 _) (fun c_88 => ?_) (fun c_88 => ?_)
                · exact absurd c_88 (by omega)
                · refine v_aload_n hC dX6_inputs_91 rfl ?_
                  refine v_iload hC dX6_inputs_92 rfl ?_
                  refine v_iload_n hC dX6_inputs_94 rfl ?_
                  refine v_callV_r0 hC lk_X6_153 dX6_inputs_95 (c_X6_counts (ok := (okA ok 56 m 0)) (ad := (adA ad 56 m 0 a)) hl0 hQ1 (hBr _ (mrd_lt hv hd hg2 (by omega) t)) (by omega) hd) (by decide) (by decide) hQ1.k30 rfl rfl rfl rfl (Nat.le_of_ble_eq_true rfl) (by omega) (by omega) ?_
                  rw [show mct (upr σ 56 m 0 (mrd σ (σ 62 0 0) d g N t).1) t d = mct σ t d from rfl]
                  refine v_if_neN (tgt := 104) hC dX6_inputs_98 (by decide) (by first | omega | exact hB _ _ _ _ rfl | exact hB.i _ _ _ _ rfl | assumption | exact b2n_31 _) (fun c_98 => ?_) (fun c_98 => ?_)
                  · have hmt := mcn_s (b2n_1 c_98)
                    have hmm := mcn_mono σ d (show t + 1 ≤ nM σ by omega)
                    have hat := mrd_at σ (σ 62 0 0) d g N t
                    have h12 := mcn_le σ d t
                    refine v_aload hC dX6_inputs_104 rfl ?_
                    refine v_iload hC dX6_inputs_106 rfl ?_
                    refine v_aload_n hC dX6_inputs_108 rfl ?_
                    refine v_aload_n hC dX6_inputs_109 rfl ?_
                    refine gf_X6_21 (ad := (adA ad 56 m 0 a)) hC dX6_inputs_110 hQ1 ?_
                    refine v_iload hC dX6_inputs_113 rfl ?_
                    refine al_32 (ad := (adA ad 56 m 0 a)) hC dX6_inputs_115 hQ1 (by omega) ?_
                    refine al_62 (i := 0) (ad := (adA ad 56 m 0 a)) hC dX6_inputs_116 h62 (hB 32 0 0 t rfl) ?_
                    refine store (mrd σ (σ 62 0 0) d g N t).1 (mrd σ (σ 62 0 0) d g N t).2 (σ 62 0 0 (σ 32 0 0 t)) (by omega) (mrd_30 _ _ _ _ _ _ (by omega)) dX6_inputs_117 ?_
                    refine v_aload hC dX6_inputs_118 rfl ?_
                    refine v_iload hC dX6_inputs_120 rfl ?_
                    refine v_iconst (v := nI 1) hC dX6_inputs_122 (by decide) ?_
                    refine v_iaddN hC dX6_inputs_123 ?_
                    refine v_aload_n hC dX6_inputs_124 rfl ?_
                    refine v_aload_n hC dX6_inputs_125 rfl ?_
                    refine gf_X6_24 (ad := (adA ad 56 m 0 a)) hC dX6_inputs_126 hQ1 ?_
                    refine v_iload hC dX6_inputs_129 rfl ?_
                    refine al_33 (ad := (adA ad 56 m 0 a)) hC dX6_inputs_131 hQ1 (by omega) ?_
                    refine al_62 (i := 0) (ad := (adA ad 56 m 0 a)) hC dX6_inputs_132 h62 (hB 33 0 0 t rfl) ?_
                    refine store _ ((mrd σ (σ 62 0 0) d g N t).2 + 1) (σ 62 0 0 (σ 33 0 0 t)) (by omega) (by rw [if_neg (by omega)]; exact mrd_30 _ _ _ _ _ _ (by omega)) dX6_inputs_133 ?_
                    refine v_iincK (z := 2) hC dX6_inputs_134 rfl (by decide) (by decide) ?_
                    refine v_iincN hC dX6_inputs_137 rfl (by decide) ?_
                    refine v_goto (tgt := 82) hC dX6_inputs_140 (by decide) ?_
                    have e1 : mrd σ (σ 62 0 0) d g N (t + 1) = (fun x => if x = (mrd σ (σ 62 0 0) d g N t).2 + 1 then σ 62 0 0 (σ 33 0 0 t) else if x = (mrd σ (σ 62 0 0) d g N t).2 then σ 62 0 0 (σ 32 0 0 t) else (mrd σ (σ 62 0 0) d g N t).1 x, (mrd σ (σ 62 0 0) d g N t).2 + 2) := if_pos (b2n_1 c_98)
                    rw [e1] at ih
                    exact v_sub rfl ih
                  · refine v_goto (tgt := 137) hC dX6_inputs_101 (by decide) ?_
                    refine v_iincN hC dX6_inputs_137 rfl (by decide) ?_
                    refine v_goto (tgt := 82) hC dX6_inputs_140 (by decide) ?_
                    have e1 : mrd σ (σ 62 0 0) d g N (t + 1) = (mrd σ (σ 62 0 0) d g N t) := if_neg (by rw [b2n_0 c_98]; decide)
                    rw [e1] at ih
                    exact v_sub rfl ih
            exact v_sub rfl (key2 0 (Nat.zero_le _))
        · refine v_null hC dX6_inputs_42 ?_
          refine v_aret hC hM dX6_inputs_43 (.inr ⟨_, rfl⟩) (.inl rfl) (by omega) (by omega) ?_
          exact .inl ⟨c_39, rfl, rfl⟩
      · exact absurd c_11 (by omega)
    · intro t hp ih 
      refine v_iload hC dX6_inputs_5 rfl ?_
      refine v_aload_n hC dX6_inputs_7 rfl ?_
      refine gf_X6_150 hC dX6_inputs_8 hQ ?_
      refine v_icmp_geN (tgt := 38) hC dX6_inputs_11 (by decide) (by first | omega | exact hB _ _ _ _ rfl | exact hB.i _ _ _ _ rfl | assumption | exact b2n_31 _) (by first | omega | exact hB _ _ _ _ rfl | exact hB.i _ _ _ _ rfl | assumption | exact b2n_31 _) (fun c_11 => ?_) (fun c_11 => ?_)
      · exact absurd c_11 (by omega)
      · refine v_iload_n hC dX6_inputs_14 rfl ?_
        refine v_aload_n hC dX6_inputs_15 rfl ?_
        refine v_iload hC dX6_inputs_16 rfl ?_
        refine v_iload_n hC dX6_inputs_18 rfl ?_
        refine v_callV_r0 hC lk_X6_153 dX6_inputs_19 (c_X6_counts hl0 hQ hB (by first | omega | exact hB _ _ _ _ rfl | exact hB.i _ _ _ _ rfl | assumption | exact b2n_31 _) (by first | omega | exact hB _ _ _ _ rfl | exact hB.i _ _ _ _ rfl | assumption | exact b2n_31 _)) (by decide) (by decide) hQ.k30 rfl rfl rfl rfl (Nat.le_of_ble_eq_true rfl) (by omega) (by omega) ?_
        refine v_if_eqN (tgt := 29) hC dX6_inputs_22 (by decide) (by first | omega | exact hB _ _ _ _ rfl | exact hB.i _ _ _ _ rfl | assumption | exact b2n_31 _) (fun c_22 => ?_) (fun c_22 => ?_)
        · refine v_iconst (v := nI 0) hC dX6_inputs_29 (by decide) ?_
          refine v_iaddN hC dX6_inputs_30 ?_
          refine v_istore_n hC dX6_inputs_31 (by decide) ?_
          refine v_iincN hC dX6_inputs_32 rfl (by decide) ?_
          refine v_goto (tgt := 5) hC dX6_inputs_35 (by decide) ?_
          rw [mcn_n (b2n_0 c_22)] at ih
          exact v_sub rfl ih
        · refine v_iconst (v := nI 1) hC dX6_inputs_25 (by decide) ?_
          refine v_goto (tgt := 30) hC dX6_inputs_26 (by decide) ?_
          refine v_iaddN hC dX6_inputs_30 ?_
          refine v_istore_n hC dX6_inputs_31 (by decide) ?_
          refine v_iincN hC dX6_inputs_32 rfl (by decide) ?_
          refine v_goto (tgt := 5) hC dX6_inputs_35 (by decide) ?_
          rw [mcn_s (b2n_1 c_22)] at ih
          exact v_sub rfl ih
  exact v_sub rfl (key 0 (Nat.zero_le _))

