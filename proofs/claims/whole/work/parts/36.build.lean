/-- what a build of a trunk leaves: only the works' counts, cells and inputs are others -/
def Bld (ok : KF) (ad : AD) (σ : SG) (K K' : List (List Nat)) (t : Nat) (μ : MT) : Prop := ∃ nk na τ, μ = (mixK ok nk, mixA ad na, mixS σ τ) ∧ BD (mixS σ τ) ∧ CK (mixK ok nk) (mixA ad na) (mixS σ τ) K' ∧ VK σ K' ∧ τ 16 0 0 0 = σ 16 0 0 0 ∧ (K.length ≤ K'.length ∧ K'.length ≤ K.length + 4) ∧ τ 16 0 0 1 = σ 16 0 0 1 + (K'.length - K.length) ∧ τ 16 0 0 2 = σ 16 0 0 2 + (K'.length - K.length) ∧ τ 16 0 0 3 = σ 16 0 0 3 + t ∧ t ≤ 4
def Bst (ok : KF) (ad : AD) (σ : SG) (v : Nat → Nat) (K : List (List Nat)) (r : Nat) (nk : KF) (na : AD) (τ : SG) (Kd : List (List Nat)) (td : Nat) : Prop := BD (mixS σ τ) ∧ CK (mixK ok nk) (mixA ad na) (mixS σ τ) Kd ∧ VK σ Kd ∧ τ 16 0 0 0 = σ 16 0 0 0 ∧ (K.length ≤ Kd.length ∧ Kd.length + r ≤ K.length + 4) ∧ τ 16 0 0 1 = σ 16 0 0 1 + (Kd.length - K.length) ∧ τ 16 0 0 2 = σ 16 0 0 2 + (Kd.length - K.length) ∧ τ 16 0 0 3 = σ 16 0 0 3 + td ∧ td + r ≤ 4 ∧ sbl σ v 4 K = ((sbl σ v r Kd).1, (sbl σ v r Kd).2.1, (sbl σ v r Kd).2.2 + td)
theorem sbl_e {σ : SG} {v : Nat → Nat} {r : Nat} {K : List (List Nat)} (h : inpv σ v (3 - r) (nT σ) = []) : sbl σ v (r + 1) K = sbl σ v r K := if_pos h
theorem sbl_t {σ : SG} {v : Nat → Nat} {r : Nat} {K : List (List Nat)} (h : inpv σ v (3 - r) (nT σ) ≠ []) (h2 : apv σ v (3 - r) (nT σ) = true) : sbl σ v (r + 1) K = ((sbl σ v r (addK K (ev σ v (3 - r)))).1, (sbl σ v r (addK K (ev σ v (3 - r)))).2.1, (sbl σ v r (addK K (ev σ v (3 - r)))).2.2 + (if ev σ v (3 - r) ∈ K then 1 else 0)) := (if_neg h).trans (if_pos h2)
theorem sbl_f {σ : SG} {v : Nat → Nat} {r : Nat} {K : List (List Nat)} (h : inpv σ v (3 - r) (nT σ) ≠ []) (h2 : apv σ v (3 - r) (nT σ) = false) : sbl σ v (r + 1) K = (false, addK K (ev σ v (3 - r)), if ev σ v (3 - r) ∈ K then 1 else 0) := (if_neg h).trans (if_neg (by rw [h2]; decide))
theorem sbl_step {σ : SG} {v : Nat → Nat} {r td t1 : Nat} {K Kd K2 : List (List Nat)} (h : sbl σ v 4 K = ((sbl σ v (r + 1) Kd).1, (sbl σ v (r + 1) Kd).2.1, (sbl σ v (r + 1) Kd).2.2 + td)) (h2 : sbl σ v (r + 1) Kd = ((sbl σ v r K2).1, (sbl σ v r K2).2.1, (sbl σ v r K2).2.2 + t1)) : sbl σ v 4 K = ((sbl σ v r K2).1, (sbl σ v r K2).2.1, (sbl σ v r K2).2.2 + (td + t1)) := by
  rw [h, h2]
  simp only [Prod.mk.injEq, true_and]
  omega
theorem addK_len (K : List (List Nat)) (e : List Nat) : (addK K e).length = K.length + (if e ∈ K then 0 else 1) := by
  unfold addK
  split
  · rfl
  · simp
theorem KI_lt {ok : KF} {m : Nat} (h : KI ok m) : ∀ k i j, ok k i j → k < 80 := h.1

theorem nwS_BD {ρ : SG} (h : BD ρ) {d n c0 g a1 : Nat} (hn : n ≤ 24) (hg : g < 2) (h1 : ρ 16 0 0 1 < 3999) (h2 : ρ 16 0 0 2 < 3999) : BD (nwS ρ d n c0 g a1) := by
  unfold nwS
  refine BD.put (BD.putp (BD.putr (BD.putr (BD.put h (show ρ 16 0 0 2 + 1 < 4000 by omega)) (fun x hp => ?_)) (fun x _ => ?_)) rfl) (show ρ 16 0 0 1 + 1 < 4000 by omega)
  · unfold r21
    by_cases e0 : x = 0
    · subst e0
      exact hg
    · rw [if_neg e0]
      by_cases e1 : x = 1
      · subst e1
        cases hp
      · rw [if_neg e1]
        show 0 < bnd 21 x
        cases x with
        | zero => exact absurd rfl e0
        | succ x => show 0 < 18446744073709551616; decide
  · show cpI ρ n x < 100
    unfold cpI
    split
    · omega
    · split
      · omega
      · split
        · omega
        · split
          · exact h 20 0 0 x rfl
          · omega

set_option maxHeartbeats 16000000 in
set_option maxRecDepth 100000 in
theorem c_X4_buildTrunk {l : Launch} (hl0 : l.stackTraces = false) {G : GT} {ok : KF} {ad : AD} {σ : SG} (hO : OKC ok) (hB : BD σ) {w : Nat} (hw : w < 2) {K : List (List Nat)} (hCK : CK ok ad σ K) (hVK : VK σ K) (hm : σ 16 0 0 1 ≤ 3068) (hb : σ 16 0 0 2 ≤ 3990) (ht : σ 16 0 0 3 ≤ 99990) : Ct l G 3 yX4_buildTrunk cX4_buildTrunk 4 (some .boolean) [.ref (ad 16 0 0), .ref (ad 15 w 0)] ok ad σ (fun v μ => v = some (iv (b2n (sbl σ (σ 15 w 0) 4 K).1)) ∧ Bld ok ad σ K (sbl σ (σ 15 w 0) 4 K).2.1 (sbl σ (σ 15 w 0) 4 K).2.2 μ) NX 8 108 := by
  refine Ct.mk (by decide +kernel) hl0 (Nat.le_of_ble_eq_true rfl) (fun X hX hC hM => ?_)
  subst hX
  generalize hv : σ 15 w 0 = v
  have key : ∀ r, r ≤ 4 → ∀ nk na τ Kd td, Bst ok ad σ v K r nk na τ Kd td → V X G (2 * (4 - r)) (27 * (4 - r)) (mixK ok nk) (mixA ad na) (mixS σ τ) [(0, .ref (ad 16 0 0)), (1, .ref (ad 15 w 0)), (2, iv (4 - r))] 2 [] := by
    intro r
    induction r with
    | zero =>
      intro _ nk na τ Kd td ⟨f1, f2, f3, f4, f5, f6, f7, f8, f9, f10⟩
      refine v_iload_n hC dX4_buildTrunk_2 rfl ?_
      refine v_iconst (v := nI 4) hC dX4_buildTrunk_3 (by decide) ?_
      refine v_icmp_geN (tgt := 36) hC dX4_buildTrunk_4 (by decide) (by omega) (by omega) (fun c_4 => ?_) (fun c_4 => absurd c_4 (by omega))
      refine v_iconst (v := nI 1) hC dX4_buildTrunk_36 (by decide) ?_
      refine v_zret hC hM dX4_buildTrunk_37 rfl (by omega) (by omega) ?_
      have e0 : sbl σ v 0 Kd = (true, Kd, 0) := rfl
      rw [e0] at f10
      rw [hv, f10]
      exact ⟨rfl, nk, na, τ, rfl, f1, f2, f3, f4, ⟨f5.1, by show Kd.length ≤ K.length + 4; omega⟩, f6, f7, by show τ 16 0 0 3 = σ 16 0 0 3 + (0 + td); omega, by show 0 + td ≤ 4; omega⟩
    | succ r ih =>
      intro hr nk na τ Kd td ⟨f1, f2, f3, f4, f5, f6, f7, f8, f9, f10⟩
      obtain ⟨d, hdd⟩ : ∃ d, d = 4 - (r + 1) := ⟨_, rfl⟩
      have hd : d < 4 := by omega
      have hd3 : 3 - r = d := by omega
      rw [← hdd]
      have hO1 : OKC (mixK ok nk) := hO.mix
      refine v_iload_n hC dX4_buildTrunk_2 rfl ?_
      refine v_iconst (v := nI 4) hC dX4_buildTrunk_3 (by decide) ?_
      refine v_icmp_geN (tgt := 36) hC dX4_buildTrunk_4 (by decide) (by omega) (by omega) (fun c_4 => absurd c_4 (by omega)) (fun c_4 => ?_)
      refine v_aload_n hC dX4_buildTrunk_7 rfl ?_
      refine v_iload_n hC dX4_buildTrunk_8 rfl ?_
      refine v_aload_n hC dX4_buildTrunk_9 rfl ?_
      refine v_callV_r0 hC lk_X4_56 dX4_buildTrunk_10 (c_X4_readInputs hl0 hO1 f1 hd hw) (by decide) (by decide) hO1.k16 rfl rfl rfl rfl (Nat.le_of_ble_eq_true rfl) (by omega) (by omega) ?_
      have hn0 : mixS σ τ 16 0 0 0 = σ 16 0 0 0 := f4
      have hs13 : nT σ < 13 := hB 16 0 0 0 rfl
      have hn24 := rdi_le (mixS σ τ) w d (nT σ)
      have hinp : (List.range (rdi (mixS σ τ) w d (nT σ)).2).map (rdi (mixS σ τ) w d (nT σ)).1 = inpv σ v d (nT σ) := by
        rw [rdi_inp, ← hv]
        exact inpv_18 (σ := σ) (σ' := mixS σ τ) rfl (σ 15 w 0) d _
      rw [hn0]
      have hBr : BD (rdS (mixS σ τ) w d (nT σ)) := rdS_BD f1
      have hCr : CK (mixK ok nk) (mixA ad na) (rdS (mixS σ τ) w d (nT σ)) Kd := f2.same (by funext i j x; exact rdS_k (by decide)) (by funext i j x; exact rdS_k (by decide)) (by funext i j x; exact rdS_k (by decide)) (rdS_k (by decide))
      have hr20 : rdS (mixS σ τ) w d (nT σ) 20 0 0 = (rdi (mixS σ τ) w d (nT σ)).1 := upr_row _ _ _ _ _
      have hr16 : ∀ x, rdS (mixS σ τ) w d (nT σ) 16 0 0 x = τ 16 0 0 x := fun x => rdS_k (by decide)
      have hrm : rdS (mixS σ τ) w d (nT σ) = mixS σ (rdS (mixS σ τ) w d (nT σ)) := mixS_of (fun k hk => by
        funext i j x
        have : k ≠ 20 := fun q => by subst q; cases hk
        rw [rdS_k this]
        show (bif kS k then _ else _) = _
        rw [hk]
        rfl)
      rw [← hr20] at hinp
      generalize hn : (rdi (mixS σ τ) w d (nT σ)).2 = n at *
      generalize rdS (mixS σ τ) w d (nT σ) = ρ at *
      have hn2 : n ≤ 24 := Nat.le_trans hn24 (by omega)
      have hne : n = 0 ↔ inpv σ v d (nT σ) = [] := by
        rw [← hinp]
        cases n with
        | zero => simp
        | succ n => simp [List.range_succ]
      refine v_istore_n hC dX4_buildTrunk_13 (by decide) ?_
      refine v_iload_n hC dX4_buildTrunk_14 rfl ?_
      have goon : ∀ nk2 na2 τ2 K2 t2, Bst ok ad σ v K r nk2 na2 τ2 K2 t2 → V X G (2 * (4 - r)) (27 * (4 - r)) (mixK ok nk2) (mixA ad na2) (mixS σ τ2) [(0, .ref (ad 16 0 0)), (1, .ref (ad 15 w 0)), (2, iv d), (3, iv n)] 30 [] := fun nk2 na2 τ2 K2 t2 hf => by
        have k1 := ih (by omega) nk2 na2 τ2 K2 t2 hf
        rw [show 4 - r = d + 1 by omega] at k1 ⊢
        refine v_iincN hC dX4_buildTrunk_30 rfl (by decide) ?_
        refine v_goto (tgt := 2) hC dX4_buildTrunk_33 (by decide) ?_
        exact v_sub rfl k1
      refine v_if_leN (tgt := 30) hC dX4_buildTrunk_15 (by decide) (by omega) (fun c_15 => ?_) (fun c_15 => ?_)
      · have e0 := sbl_e (K := Kd) (show inpv σ v (3 - r) (nT σ) = [] by rw [hd3]; exact hne.mp c_15)
        have k1 := goon nk na ρ Kd td ⟨by rw [← hrm]; exact hBr, by rw [← hrm]; exact hCr, f3, (hr16 0).trans f4, ⟨f5.1, by omega⟩, (hr16 1).trans f6, (hr16 2).trans f7, (hr16 3).trans f8, by omega, by rw [f10, e0]⟩
        rw [← hrm] at k1
        exact v_wide (by omega) (by omega) (v_sub rfl k1)
      · have hnn : inpv σ v (3 - r) (nT σ) ≠ [] := by rw [hd3]; exact fun q => absurd (hne.mpr q) (by omega)
        have hρ18 : ρ 18 = σ 18 := by rw [hrm]; rfl
        have hρ15 : ρ 15 = σ 15 := by rw [hrm]; rfl
        have hap : aps ρ w d (ρ 16 0 0 0) = apv σ v d (nT σ) := by
          rw [aps_apv, hρ15, hv, apv_18 hρ18, hr16 0, f4]
        have hev : ev σ v d = d :: b2n (apv σ v d (nT σ)) :: (List.range n).map (ρ 20 0 0) := by rw [hinp]; rfl
        -- what is left, when the result is there
        have cont : ∀ nk2 na2 τ2 t1, BD (mixS σ τ2) → CK (mixK ok nk2) (mixA ad na2) (mixS σ τ2) (addK Kd (ev σ v d)) → τ2 16 0 0 0 = σ 16 0 0 0 → τ2 16 0 0 1 = ρ 16 0 0 1 + (if ev σ v d ∈ Kd then 0 else 1) → τ2 16 0 0 2 = ρ 16 0 0 2 + (if ev σ v d ∈ Kd then 0 else 1) → τ2 16 0 0 3 = ρ 16 0 0 3 + t1 → t1 = (if ev σ v d ∈ Kd then 1 else 0) →
            V X G (2 * (4 - r)) (27 * (4 - r)) (mixK ok nk2) (mixA ad na2) (mixS σ τ2) [(0, .ref (ad 16 0 0)), (1, .ref (ad 15 w 0)), (2, iv d), (3, iv n)] 25 [iv (b2n (apv σ v d (nT σ)))] := fun nk2 na2 τ2 t1 g1 g2 g3 g4 g5 g6 g7 => by
          have hlen := addK_len Kd (ev σ v d)
          have h01 : (if ev σ v d ∈ Kd then 0 else 1) ≤ 1 := by split <;> omega
          have h02 : t1 ≤ 1 := by rw [g7]; split <;> omega
          generalize (if ev σ v d ∈ Kd then 0 else 1) = q1 at *
          rw [hr16] at g4 g5 g6
          refine v_if_neN (tgt := 30) hC dX4_buildTrunk_25 (by decide) (b2n_31 _) (fun c_25 => ?_) (fun c_25 => ?_)
          · have e0 := sbl_t (K := Kd) hnn (by rw [hd3]; exact b2n_1 c_25)
            rw [hd3, ← g7] at e0
            exact goon nk2 na2 τ2 (addK Kd (ev σ v d)) (td + t1) ⟨g1, g2, f3.add v hd, g3, ⟨by omega, by omega⟩, by omega, by omega, by omega, by omega, sbl_step f10 e0⟩
          · have e0 := sbl_f (K := Kd) hnn (by rw [hd3]; exact b2n_0 c_25)
            rw [hd3, ← g7] at e0
            refine v_iconst (v := nI 0) hC dX4_buildTrunk_28 (by decide) ?_
            refine v_zret hC hM dX4_buildTrunk_29 rfl (by omega) (by omega) ?_
            rw [hv, f10, e0]
            exact ⟨rfl, nk2, na2, τ2, rfl, g1, g2, f3.add v hd, g3, ⟨by show K.length ≤ (addK Kd (ev σ v d)).length; omega, by show (addK Kd (ev σ v d)).length ≤ K.length + 4; omega⟩, by show τ2 16 0 0 1 = σ 16 0 0 1 + ((addK Kd (ev σ v d)).length - K.length); omega, by show τ2 16 0 0 2 = σ 16 0 0 2 + ((addK Kd (ev σ v d)).length - K.length); omega, by show τ2 16 0 0 3 = σ 16 0 0 3 + (t1 + td); omega, by show t1 + td ≤ 4; omega⟩
        refine v_aload_n hC dX4_buildTrunk_18 rfl ?_
        refine v_iload_n hC dX4_buildTrunk_19 rfl ?_
        refine v_aload_n hC dX4_buildTrunk_20 rfl ?_
        refine v_iload_n hC dX4_buildTrunk_21 rfl ?_
        obtain ⟨⟨L, hL⟩, hKI⟩ := id hCr
        obtain ⟨hL1, hL2⟩ := hL d hd
        have hm1 : ρ 16 0 0 1 = σ 16 0 0 1 + (Kd.length - K.length) := (hr16 1).trans f6
        have hm2 : ρ 16 0 0 2 = σ 16 0 0 2 + (Kd.length - K.length) := (hr16 2).trans f7
        have hm3 : ρ 16 0 0 3 = σ 16 0 0 3 + td := (hr16 3).trans f8
        have hold : ∀ c, hld ρ n c = true → ent ρ d c = d :: ρ 21 c 0 0 :: (List.range n).map (ρ 20 0 0) := fun c hc => by
          unfold ent
          rw [(hld_iff ρ n c).mp hc]
        have inK : ∀ e, e ∈ (L d).map (ent ρ d) ↔ e ∈ Kd ∧ (e.head? == some d) = true := fun e => by
          rw [hL2, List.mem_reverse, List.mem_filter]
        cases hf : (L d).find? (hld ρ n) with
        | some c0 =>
          have hc1 := List.find?_some hf
          have hc2 := List.mem_of_find?_eq_some hf
          have hin := ((inK _).mp (List.mem_map_of_mem (f := ent ρ d) hc2)).1
          rw [hold c0 hc1, hinp] at hin
          have hg := f3.good hin
          rw [hg] at hin
          have hin2 : ev σ v d ∈ Kd := hin
          refine v_callV hC lk_X4_60 dX4_buildTrunk_22 (c_X4_resultOf_A hl0 hO1 hBr hd hw hn2 (L d) hL1 hf) (by decide) (by decide) hO1.k16 rfl rfl rfl rfl (Nat.le_of_ble_eq_true rfl) (by omega) (by omega) (fun v' μ h => ?_) (fun _ _ h => h.elim)
          obtain ⟨rfl, rfl⟩ := h
          dsimp only
          rw [hg]
          have hBn : BD (up ρ 16 0 0 3 (ρ 16 0 0 3 + 1)) := BD.put hBr (show ρ 16 0 0 3 + 1 < 100000 by omega)
          have hmm : up ρ 16 0 0 3 (ρ 16 0 0 3 + 1) = mixS σ (up ρ 16 0 0 3 (ρ 16 0 0 3 + 1)) := mixS_of (fun k hk => by
            funext i j x
            have : k ≠ 16 := fun q => by subst q; cases hk
            rw [up_k this, hrm]
            show (bif kS k then _ else _) = _
            rw [hk]
            rfl)
          have k1 := cont nk na (up ρ 16 0 0 3 (ρ 16 0 0 3 + 1)) 1 (by rw [← hmm]; exact hBn) (by rw [← hmm, addK, if_pos hin2]; exact hCr.same (by funext i j x; exact up_k (by decide)) (by funext i j x; exact up_k (by decide)) (by funext i j x; exact up_k (by decide)) (up_x (by decide))) ((up_x (by decide)).trans ((hr16 0).trans f4)) (by rw [if_pos hin2]; exact up_x (by decide)) (by rw [if_pos hin2]; exact up_x (by decide)) (up_same _ _ _ _ _ _) (by rw [if_pos hin2])
          rw [← hmm] at k1
          exact v_wide (by omega) (by omega) (v_sub rfl k1)
        | none =>
          have hno : ∀ c ∈ L d, hld ρ n c = false := fun c hc => by
            have := List.find?_eq_none.mp hf c hc
            simpa using this
          have hnin : ev σ v d ∉ Kd := fun q => by
            have h2 := (inK _).mpr ⟨q, by rw [hev]; simp⟩
            obtain ⟨c, hc, he⟩ := List.mem_map.mp h2
            have h3 : hld ρ n c = true := (hld_iff ρ n c).mpr (by
              rw [hev] at he
              unfold ent at he
              simp only [List.cons.injEq] at he
              exact he.2.2)
            rw [hno c hc] at h3
            cases h3
          refine v_callV hC lk_X4_60 dX4_buildTrunk_22 (c_X4_resultOf_B (c0 := ρ 16 0 0 1) hl0 hO1 hBr hKI.1 hKI.2.1 hd hw hn2 (L d) hL1 hno (by omega) (by omega)) (by decide) (by decide) hO1.k16 rfl rfl rfl rfl (Nat.le_of_ble_eq_true rfl) (by omega) (by omega) (fun v' μ h => ?_) (fun _ _ h => h.elim)
          obtain ⟨rfl, a1, a2, rfl⟩ := h
          dsimp only
          rw [hap]
          have hCn := hCr.new (g := b2n (apv σ v d (nT σ))) hd hn2 a1 a2
          rw [← hev] at hCn
          have hBn : BD (nwS ρ d n (ρ 16 0 0 1) (b2n (apv σ v d (nT σ))) a1) := nwS_BD hBr hn2 (b2n_lt _) (by omega) (by omega)
          have hmm : nwS ρ d n (ρ 16 0 0 1) (b2n (apv σ v d (nT σ))) a1 = mixS σ (nwS ρ d n (ρ 16 0 0 1) (b2n (apv σ v d (nT σ))) a1) := mixS_of (fun k hk => by
            funext i j x
            have n16 : k ≠ 16 := fun q => by subst q; cases hk
            have n19 : k ≠ 19 := fun q => by subst q; cases hk
            have n21 : k ≠ 21 := fun q => by subst q; cases hk
            have n22 : k ≠ 22 := fun q => by subst q; cases hk
            unfold nwS
            rw [up_k n16, up_k n19, upr_k n22, upr_k n21, up_k n16, hrm]
            show (bif kS k then _ else _) = _
            rw [hk]
            rfl)
          have hkm : okA (okA (mixK ok nk) 21 (ρ 16 0 0 1) 0) 22 (ρ 16 0 0 1) 0 = mixK ok (okA (okA (mixK ok nk) 21 (ρ 16 0 0 1) 0) 22 (ρ 16 0 0 1) 0) := mixK_of (fun k i j hk => by
            have n21 : k ≠ 21 := fun q => by subst q; cases hk
            have n22 : k ≠ 22 := fun q => by subst q; cases hk
            refine ⟨fun h => ?_, fun h => .inl (.inl ?_)⟩
            · rcases h with (h | h) | h
              · have h2 : (bif dynB k then nk k i j else ok k i j) := h
                rw [hk] at h2
                exact h2
              · exact absurd h.1 n21
              · exact absurd h.1 n22
            · show (bif dynB k then nk k i j else ok k i j)
              rw [hk]
              exact h)
          have ham : adA (adA (mixA ad na) 21 (ρ 16 0 0 1) 0 a1) 22 (ρ 16 0 0 1) 0 a2 = mixA ad (adA (adA (mixA ad na) 21 (ρ 16 0 0 1) 0 a1) 22 (ρ 16 0 0 1) 0 a2) := mixA_of (fun k i j hk => by
            have n21 : k ≠ 21 := fun q => by subst q; cases hk
            have n22 : k ≠ 22 := fun q => by subst q; cases hk
            rw [adA_off _ _ (fun q => n22 q.1), adA_off _ _ (fun q => n21 q.1)]
            show (bif dynB k then _ else _) = _
            rw [hk]
            rfl)
          have w16 : ∀ x, x ≠ 1 → x ≠ 2 → nwS ρ d n (ρ 16 0 0 1) (b2n (apv σ v d (nT σ))) a1 16 0 0 x = ρ 16 0 0 x := fun x h1 h2 => by
            unfold nwS
            rw [up_x h1, up_k (by decide), upr_k (by decide), upr_k (by decide), up_x h2]
          have k1 := cont _ _ _ 0 (by rw [← hmm]; exact hBn) (by rw [← hmm, ← hkm, ← ham, addK, if_neg hnin]; exact hCn) ((w16 0 (by decide) (by decide)).trans ((hr16 0).trans f4)) (by rw [if_neg hnin]; exact up_same _ _ _ _ _ _) (by
            rw [if_neg hnin]
            unfold nwS
            rw [up_x (by decide), up_k (by decide), upr_k (by decide), upr_k (by decide), up_same]) (w16 3 (by decide) (by decide)) (by rw [if_neg hnin])
          rw [← hmm, ← hkm, ← ham] at k1
          exact v_wide (by omega) (by omega) (v_sub rfl k1)
  refine v_iconst (v := nI 0) hC dX4_buildTrunk_0 (by decide) ?_
  refine v_istore_n hC dX4_buildTrunk_1 (by decide) ?_
  have k0 := key 4 (Nat.le_refl _) ok ad σ K 0 ⟨by rw [mixS_id]; exact hB, by rw [mixS_id, mixK_id, mixA_id]; exact hCK, hVK, rfl, ⟨Nat.le_refl _, by omega⟩, by omega, by omega, rfl, by omega, rfl⟩
  rw [mixS_id, mixK_id, mixA_id] at k0
  exact v_sub rfl k0

