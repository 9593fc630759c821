/-! ===== the constructors of the class's own small classes ===== -/
theorem ar_J : Cond.arrayClass FieldType.long ∈ lw_good := gd_at 222 (by decide +kernel) (by decide +kernel)
theorem cw_X1_26 : Cond.classLink "Branchyard$Change" 26 ("[" ++ (FieldType.array .int).toString) ∈ lw_good := gd_at 188 (by decide +kernel) (by decide +kernel)
theorem cw_X4_9 : Cond.classLink "Branchyard$Works" 9 "Branchyard$Test" ∈ lw_good := gd_at 130 (by decide +kernel) (by decide +kernel)
theorem cw_X4_17 : Cond.classLink "Branchyard$Works" 17 "Branchyard$Cell" ∈ lw_good := gd_at 132 (by decide +kernel) (by decide +kernel)
theorem cw_X5_23 : Cond.classLink "Branchyard" 23 "Branchyard$Change" ∈ lw_good := gd_at 106 (by decide +kernel) (by decide +kernel)
theorem ao_II : FieldType.array .int ∈ aos := by decide +kernel
theorem ao_X1 : FieldType.object "Branchyard$Change" ∈ aos := by decide +kernel
theorem ao_X3 : FieldType.object "Branchyard$Test" ∈ aos := by decide +kernel
theorem ao_X0 : FieldType.object "Branchyard$Cell" ∈ aos := by decide +kernel
theorem up_k80 {σ : SG} {k0 i0 j0 x v : Nat} (h : 80 ≤ k0) : ∀ k i j, k < 80 → up σ k0 i0 j0 x v k i j = σ k i j := fun k i j h' => up_off σ x v (fun e => by omega)
theorem upr_k80 {σ : SG} {k0 i0 j0 : Nat} {f : Nat → Nat} (h : 80 ≤ k0) : ∀ k i j, k < 80 → upr σ k0 i0 j0 f k i j = σ k i j := fun k i j h' => upr_off σ f (fun e => by omega)
/-- what a constructor leaves: S are the keys made, (r, ri) the thing under construction -/
def FrK (S : Nat → Nat → Nat → Prop) (r ri : Nat) (μ μ1 : MT) : Prop := (∀ k i j, μ1.1 k i j ↔ μ.1 k i j ∨ S k i j) ∧ (∀ k i j, μ.1 k i j → μ1.2.1 k i j = μ.2.1 k i j) ∧ (∀ k i j, ¬ S k i j → ¬ (k = r ∧ i = ri ∧ j = 0) → μ1.2.2 k i j = μ.2.2 k i j) ∧ (∀ k i j, k < 80 → μ1.2.2 k i j = μ.2.2 k i j)
def LEAF (ok : KF) : Prop := ∀ k i j, ok k i j → lf k = true
theorem LEAF.ino {ok : KF} (h : LEAF ok) (k0 : Nat) : INo ok k0 := fun k i j q => .inl (h k i j q)
theorem LEAF.add {ok : KF} (h : LEAF ok) {k i j : Nat} (hl : lf k = true) : LEAF (okA ok k i j) := fun k' i' j' q => by
  rcases q with q | ⟨rfl, rfl, rfl⟩
  · exact h _ _ _ q
  · exact hl

set_option maxHeartbeats 4000000 in
set_option maxRecDepth 100000 in
theorem c_X3_init {l : Launch} (hl0 : l.stackTraces = false) {G : GT} {ok : KF} {ad : AD} {σ : SG} {c : Nat} : Ct l G 0 yX3_init cX3_init 1 (none) [.ref (ad 18 c 0)] ok ad σ (Rt none ok ad σ) (NX) 0 0 := by
  refine Ct.mk (by decide +kernel) hl0 (Nat.le_of_ble_eq_true rfl) (fun X hX hC hM => ?_)
  subst hX
  refine v_aload_n hC dX3_init_0 rfl ?_
  refine v_objInit hC dX3_init_1 oi_X3 (Nat.le_of_ble_eq_true rfl) ?_
  refine v_vret hC hM dX3_init_4 (by omega) (by omega) ?_
  exact ⟨rfl, rfl⟩

set_option maxHeartbeats 4000000 in
set_option maxRecDepth 100000 in
theorem c_X2_init {l : Launch} (hl0 : l.stackTraces = false) {G : GT} {ok : KF} {ad : AD} {σ : SG} {i : Nat} (hk : ok 92 i 0) (hn : ¬ ok 13 i 0) (hin : INo ok 13) (hz : σ 13 i 0 = fun _ => 0) : Ct l G 0 yX2_init cX2_init 1 (none) [.ref (ad 92 i 0)] ok ad σ (fun v μ => v = none ∧ ∃ a, μ = (okA ok 13 i 0, adA ad 13 i 0 a, up σ 92 i 0 0 (a + 1))) NX 1 16 := by
  refine Ct.mk (by decide +kernel) hl0 (Nat.le_of_ble_eq_true rfl) (fun X hX hC hM => ?_)
  subst hX
  refine v_aload_n hC dX2_init_0 rfl ?_
  refine v_objInit hC dX2_init_1 oi_X2 (Nat.le_of_ble_eq_true rfl) ?_
  refine v_aload_n hC dX2_init_4 rfl ?_
  refine v_bipush (v := nI 16) hC dX2_init_5 (by decide) ?_
  refine n_a (N := 16) (a0 := (16, .inl fun _ => nI 0)) 0 13 i 0 hC dX2_init_7 rfl ar_I rfl rfl (by decide) (by decide) (by omega) (by omega) hn hin rfl (by rw [hz]; rfl) rfl (fun a => ?_)
  refine pr_X2_9 (ad := adA ad 13 i 0 a) (v := a + 1) (i := i) (j := 0) hC hM.2.1 dX2_init_9 (.inl hk) ?_
  refine v_vret hC hM dX2_init_12 (by omega) (by omega) ⟨rfl, a, rfl⟩

theorem v_rm {X : XT} {G : GT} {kc ks kc' ks' : Nat} {ok : KF} {ad : AD} {σ : SG} {l : List (Nat × Value)} {pc : Nat} {st : List Value} (h1 : kc' = kc) (h2 : ks' = ks) (k : V X G kc' ks' ok ad σ l pc st) : V X G kc ks ok ad σ l pc st := by
  subst h1 h2
  exact k
def SX1 (c : Nat) : Nat → Nat → Nat → Prop := fun k i j => (i = c ∧ j = 0 ∧ (k = 7 ∨ k = 8 ∨ k = 9)) ∨ (k = 11 ∧ i = c ∧ j < 6) ∨ (k = 82 ∧ i = 1000 + c ∧ j = 0)
def CHG (c : Nat) (ad : AD) (σ : SG) : Prop := (σ 91 c 0 0 = 0 ∧ σ 91 c 0 1 = 111 ∧ σ 91 c 0 2 = 0 ∧ σ 91 c 0 3 = 0 ∧ σ 91 c 0 4 = 0) ∧ (σ 91 c 0 5 = ad 7 c 0 + 1 ∧ σ 91 c 0 6 = ad 8 c 0 + 1 ∧ σ 91 c 0 7 = ad 9 c 0 + 1 ∧ σ 91 c 0 8 = ad 82 (1000 + c) 0 + 1) ∧ σ 82 (1000 + c) 0 9000 = 6 ∧ σ 82 (1000 + c) 0 9001 = 8 ∧ ∀ x, x < 6 → σ 82 (1000 + c) 0 x = ad 11 c x + 1

set_option maxHeartbeats 4000000 in
set_option maxRecDepth 100000 in
theorem c_X1_init {l : Launch} (hl0 : l.stackTraces = false) {G : GT} {ok : KF} {ad : AD} {σ : SG} {c : Nat} (hk : ok 91 c 0) (hl : LEAF ok) (hn : ∀ k i j, SX1 c k i j → ¬ ok k i j) (hz91 : σ 91 c 0 = fun _ => 0) (hz7 : σ 7 c 0 = fun _ => 0) (hz8 : σ 8 c 0 = fun _ => 0) (hz9 : σ 9 c 0 = fun _ => 0) (hz11 : ∀ x, x < 6 → σ 11 c x = fun _ => 0) : Ct l G 0 yX1_init cX1_init 1 (none) [.ref (ad 91 c 0)] ok ad σ (fun v μ => v = none ∧ FrK (SX1 c) 91 c (ok, ad, σ) μ ∧ CHG c μ.2.1 μ.2.2) NX 10 466 := by
  refine Ct.mk (by decide +kernel) hl0 (Nat.le_of_ble_eq_true rfl) (fun X hX hC hM => ?_)
  subst hX
  refine v_aload_n hC dX1_init_0 rfl ?_
  refine v_objInit hC dX1_init_1 oi_X1 (Nat.le_of_ble_eq_true rfl) ?_
  refine v_aload_n hC dX1_init_4 rfl ?_
  refine v_bipush (v := nI 111) hC dX1_init_5 (by decide) ?_
  refine pr_X1_9 (v := 111) hC dX1_init_7 hk (by decide) ?_
  refine v_aload_n hC dX1_init_10 rfl ?_
  refine v_bipush (v := nI 64) hC dX1_init_11 (by decide) ?_
  refine n_a (N := 64) (a0 := (64, .inl fun _ => nI 0)) 0 7 c 0 hC dX1_init_13 rfl ar_I rfl rfl (by decide) (by decide) (by omega) (by omega) (hn 7 c 0 (.inl ⟨rfl, rfl, .inl rfl⟩)) (hl.ino 7) rfl (by rw [up_off _ _ _ (fun e => absurd e.1 (by decide)), hz7]; rfl) rfl (fun a7 => ?_)
  refine pr_X1_15 (ad := adA ad 7 c 0 a7) (v := a7 + 1) (i := c) (j := 0) hC hM.2.1 dX1_init_15 (.inl hk) ?_
  refine v_aload_n hC dX1_init_18 rfl ?_
  refine v_bipush (v := nI 6) hC dX1_init_19 (by decide) ?_
  refine n_a (N := 6) (a0 := (6, .inl fun _ => nI 0)) 0 8 c 0 hC dX1_init_21 rfl ar_I rfl rfl (by decide) (by decide) (by omega) (by omega) (fun q => by rcases q with q | q; exact hn 8 c 0 (.inl ⟨rfl, rfl, .inr (.inl rfl)⟩) q; exact absurd q.1 (by decide)) ((hl.add rfl).ino 8) rfl (by rw [up_off _ _ _ (fun e => absurd e.1 (by decide)), up_off _ _ _ (fun e => absurd e.1 (by decide)), hz8]; rfl) rfl (fun a8 => ?_)
  refine pr_X1_19 (ad := adA (adA ad 7 c 0 a7) 8 c 0 a8) (v := a8 + 1) (i := c) (j := 0) hC hM.2.1 dX1_init_23 (.inl (.inl hk)) ?_
  refine v_aload_n hC dX1_init_26 rfl ?_
  refine v_bipush (v := nI 6) hC dX1_init_27 (by decide) ?_
  refine n_a (N := 6) (a0 := (6, .inr (.inl fun _ => lN 0))) 3 9 c 0 hC dX1_init_29 rfl ar_J rfl rfl (by decide) (by decide) (by omega) (by omega) (fun q => by rcases q with (q | q) | q; exact hn 9 c 0 (.inl ⟨rfl, rfl, .inr (.inr rfl)⟩) q; exact absurd q.1 (by decide); exact absurd q.1 (by decide)) (((hl.add rfl).add rfl).ino 9) rfl (by rw [up_off _ _ _ (fun e => absurd e.1 (by decide)), up_off _ _ _ (fun e => absurd e.1 (by decide)), up_off _ _ _ (fun e => absurd e.1 (by decide)), hz9]; rfl) rfl (fun a9 => ?_)
  refine pr_X1_22 (ad := adA (adA (adA ad 7 c 0 a7) 8 c 0 a8) 9 c 0 a9) (v := a9 + 1) (i := c) (j := 0) hC hM.2.1 dX1_init_31 (.inl (.inl (.inl hk))) ?_
  refine v_aload_n hC dX1_init_34 rfl ?_
  refine v_bipush (v := nI 6) hC dX1_init_35 (by decide) ?_
  refine v_bipush (v := nI 64) hC dX1_init_37 (by decide) ?_
  have hO : LEAF (okA (okA (okA ok 7 c 0) 8 c 0) 9 c 0) := ((hl.add rfl).add rfl).add rfl
  have no : ∀ k i j, (k = 82 ∨ k = 11) → SX1 c k i j → ¬ okA (okA (okA ok 7 c 0) 8 c 0) 9 c 0 k i j := fun k i j h hs q => by
    rcases q with ((q | q) | q) | q
    · exact hn _ _ _ hs q
    · omega
    · omega
    · omega
  refine v_mna2 (ty := .int) (N := 6) (M := 64) (ki := 11) (a := fun _ => c) (b := fun x => x) (inv := fun _ j => j) (ai := (64, .inl fun _ => nI 0)) 8 0 (1000 + c) hC dX1_init_39 cw_X1_26 ao_II ar_I rfl rfl rfl (by decide) (by decide) (by decide) rfl rfl (by omega) (by omega) (by decide) rfl (hO.ino 11) (no _ _ _ (.inl rfl) (.inr (.inr ⟨rfl, rfl, rfl⟩))) (fun x hx => no _ _ _ (.inr rfl) (.inr (.inl ⟨rfl, rfl, hx⟩))) (fun x hx => rfl)
    (fun x hx => by rw [up_off _ _ _ (fun e => absurd e.1 (by decide)), up_off _ _ _ (fun e => absurd e.1 (by decide)), up_off _ _ _ (fun e => absurd e.1 (by decide)), up_off _ _ _ (fun e => absurd e.1 (by decide)), hz11 x hx]; rfl) rfl (fun ok1 ad1 σ1 k1 k2 k3 k4 k5 k6 => ?_)
  have e91 : ad1 91 c 0 = ad 91 c 0 := k2 91 c 0 (.inl (.inl (.inl hk)))
  refine v_stk (st' := [.ref (ad1 82 (1000 + c) 0), .ref (ad1 91 c 0)]) (by rw [e91]) ?_
  refine pr_X1_28 (ad := ad1) (v := ad1 82 (1000 + c) 0 + 1) (i := c) (j := 0) hC hM.2.1 dX1_init_43 ((k1 91 c 0).mpr (.inl (.inl (.inl (.inl hk))))) ?_
  refine v_vret hC hM dX1_init_46 (by omega) (by omega) ⟨rfl, ⟨fun k i j => ?_, fun k i j q => ?_, fun k i j h1 h2 => ?_, fun k i j h => ?_⟩, ?_⟩
  · show ok1 k i j ↔ ok k i j ∨ SX1 c k i j
    rw [k1]
    constructor
    · rintro ((((q | q) | q) | q) | q | ⟨x, hx, rfl, rfl, rfl⟩)
      · exact .inl q
      · exact .inr (.inl ⟨q.2.1, q.2.2, .inl q.1⟩)
      · exact .inr (.inl ⟨q.2.1, q.2.2, .inr (.inl q.1)⟩)
      · exact .inr (.inl ⟨q.2.1, q.2.2, .inr (.inr q.1)⟩)
      · exact .inr (.inr (.inr q))
      · exact .inr (.inr (.inl ⟨rfl, rfl, hx⟩))
    · rintro (q | ⟨rfl, rfl, rfl | rfl | rfl⟩ | ⟨rfl, rfl, hx⟩ | q)
      · exact .inl (.inl (.inl (.inl q)))
      · exact .inl (.inl (.inl (.inr ⟨rfl, rfl, rfl⟩)))
      · exact .inl (.inl (.inr ⟨rfl, rfl, rfl⟩))
      · exact .inl (.inr ⟨rfl, rfl, rfl⟩)
      · exact .inr (.inr ⟨j, hx, rfl, rfl, rfl⟩)
      · exact .inr (.inl q)
  · show ad1 k i j = ad k i j
    have hq : ∀ k' i' j', SX1 c k' i' j' → ¬ (k = k' ∧ i = i' ∧ j = j') := fun k' i' j' hs e => by
      obtain ⟨rfl, rfl, rfl⟩ := e
      exact hn _ _ _ hs q
    rw [k2 k i j (.inl (.inl (.inl q))), adA_off _ _ (hq 9 c 0 (.inl ⟨rfl, rfl, .inr (.inr rfl)⟩)), adA_off _ _ (hq 8 c 0 (.inl ⟨rfl, rfl, .inr (.inl rfl)⟩)), adA_off _ _ (hq 7 c 0 (.inl ⟨rfl, rfl, .inl rfl⟩))]
  · show up σ1 91 c 0 8 _ k i j = σ k i j
    rw [up_off _ _ _ h2, k3 k i j (fun e => h1 (.inr (.inr e))), up_off _ _ _ h2, up_off _ _ _ h2, up_off _ _ _ h2, up_off _ _ _ h2]
  · show up σ1 91 c 0 8 _ k i j = σ k i j
    rw [up_k80 (by decide) k i j h, k3 k i j (fun e => by omega), up_k80 (by decide) k i j h, up_k80 (by decide) k i j h, up_k80 (by decide) k i j h, up_k80 (by decide) k i j h]
  · have b7 : ad1 7 c 0 = a7 := (k2 7 c 0 (.inl (.inl (.inr ⟨rfl, rfl, rfl⟩)))).trans (by simp [adA])
    have b8 : ad1 8 c 0 = a8 := (k2 8 c 0 (.inl (.inr ⟨rfl, rfl, rfl⟩))).trans (by simp [adA])
    have b9 : ad1 9 c 0 = a9 := (k2 9 c 0 (.inr ⟨rfl, rfl, rfl⟩)).trans (by simp [adA])
    have s91 : σ1 91 c 0 = _ := k3 91 c 0 (fun e => absurd e.1 (by decide))
    have s82 : ∀ x, up σ1 91 c 0 8 (ad1 82 (1000 + c) 0 + 1) 82 (1000 + c) 0 x = σ1 82 (1000 + c) 0 x := fun x => congrFun (up_off σ1 _ _ (fun e => absurd e.1 (by decide))) x
    refine ⟨?_, ?_, ?_, ?_, fun x hx => ?_⟩
    · show up σ1 91 c 0 8 _ 91 c 0 0 = 0 ∧ up σ1 91 c 0 8 _ 91 c 0 1 = 111 ∧ up σ1 91 c 0 8 _ 91 c 0 2 = 0 ∧ up σ1 91 c 0 8 _ 91 c 0 3 = 0 ∧ up σ1 91 c 0 8 _ 91 c 0 4 = 0
      simp [up, s91, hz91]
    · show up σ1 91 c 0 8 _ 91 c 0 5 = ad1 7 c 0 + 1 ∧ up σ1 91 c 0 8 _ 91 c 0 6 = ad1 8 c 0 + 1 ∧ up σ1 91 c 0 8 _ 91 c 0 7 = ad1 9 c 0 + 1 ∧ up σ1 91 c 0 8 _ 91 c 0 8 = ad1 82 (1000 + c) 0 + 1
      rw [b7, b8, b9]
      simp [up, s91]
    · exact (s82 9000).trans k4
    · exact (s82 9001).trans k5
    · exact (s82 x).trans (k6 x hx)

def SX4 (t : Nat) : Nat → Nat → Nat → Prop := fun k i j => (j = 0 ∧ i = 0 ∧ (k = 19 ∨ k = 20)) ∨ (k = 82 ∧ i = 1700 ∧ j = 0) ∨ (k = 18 ∧ i < t ∧ j = 0)
def WRK (t : Nat) (ad : AD) (σ : SG) : Prop := (σ 94 0 0 0 = ad 82 1700 0 + 1 ∧ σ 94 0 0 1 = 0 ∧ σ 94 0 0 2 = ad 19 0 0 + 1 ∧ σ 94 0 0 3 = 0 ∧ σ 94 0 0 4 = ad 20 0 0 + 1 ∧ σ 94 0 0 5 = 0 ∧ σ 94 0 0 6 = 0) ∧ σ 82 1700 0 9000 = 12 ∧ σ 82 1700 0 9001 = 6 ∧ ∀ x, x < t → σ 82 1700 0 x = ad 18 x 0 + 1
theorem upr_sm {σ : SG} {k i j : Nat} {f : Nat → Nat} (h : σ k i j = f) : upr σ k i j f = σ := by
  funext k' i' j' x
  unfold upr
  by_cases c : k' = k ∧ i' = i ∧ j' = j
  · rw [if_pos c]
    obtain ⟨rfl, rfl, rfl⟩ := c
    rw [h]
  · rw [if_neg c]

set_option maxHeartbeats 4000000 in
set_option maxRecDepth 100000 in
theorem c_X4_init {l : Launch} (hl0 : l.stackTraces = false) {G : GT} {ok : KF} {ad : AD} {σ : SG} (hk : ok 94 0 0) (hl : LEAF ok) (hn : ∀ k i j, SX4 12 k i j → ¬ ok k i j) (hz94 : σ 94 0 0 = fun _ => 0) (hz19 : σ 19 0 0 = fun _ => 0) (hz20 : σ 20 0 0 = fun _ => 0) (hz18 : ∀ x, x < 12 → σ 18 x 0 = fun _ => 0) : Ct l G 1 yX4_init cX4_init 2 (none) [.ref (ad 94 0 0)] ok ad σ (fun v μ => v = none ∧ FrK (SX4 12) 94 0 (ok, ad, σ) μ ∧ WRK 12 μ.2.1 μ.2.2) NX 15 88 := by
  refine Ct.mk (by decide +kernel) hl0 (Nat.le_of_ble_eq_true rfl) (fun X hX hC hM => ?_)
  subst hX
  refine v_aload_n hC dX4_init_0 rfl ?_
  refine v_objInit hC dX4_init_1 oi_X4 (Nat.le_of_ble_eq_true rfl) ?_
  refine v_aload_n hC dX4_init_4 rfl ?_
  refine v_bipush (v := nI 12) hC dX4_init_5 (by decide) ?_
  refine n_q (N := 12) 6 1700 hC dX4_init_7 cw_X4_9 ao_X3 rfl (by decide) (by omega) (by omega) (hn _ _ _ (.inr (.inl ⟨rfl, rfl, rfl⟩))) (fun a17 => ?_)
  refine pr_X4_11 (ad := adA ad 82 1700 0 a17) (v := a17 + 1) (i := 0) (j := 0) hC hM.2.1 dX4_init_10 (.inl hk) ?_
  refine v_aload_n hC dX4_init_13 rfl ?_
  refine v_iconst (v := nI 4) hC dX4_init_14 (by decide) ?_
  refine n_q19 hC dX4_init_15 cw_X4_17 ao_X0 (by omega) (by omega) (fun q => by rcases q with q | q; exact hn 19 0 0 (.inl ⟨rfl, rfl, .inl rfl⟩) q; exact absurd q.1 (by decide)) ((hl.add rfl).ino 19) (by rw [up_k80 (by decide) _ _ _ (by decide), upr_k80 (by decide) _ _ _ (by decide), hz19]) (fun a19 => ?_)
  refine pr_X4_19 (ad := adA (adA ad 82 1700 0 a17) 19 0 0 a19) (v := a19 + 1) (i := 0) (j := 0) hC hM.2.1 dX4_init_18 (.inl (.inl hk)) ?_
  refine v_aload_n hC dX4_init_21 rfl ?_
  refine v_bipush (v := nI 24) hC dX4_init_22 (by decide) ?_
  refine n_a (N := 24) (a0 := (24, .inl fun _ => nI 0)) 0 20 0 0 hC dX4_init_24 rfl ar_I rfl rfl (by decide) (by decide) (by omega) (by omega) (fun q => by rcases q with (q | q) | q; exact hn 20 0 0 (.inl ⟨rfl, rfl, .inr rfl⟩) q; exact absurd q.1 (by decide); exact absurd q.1 (by decide)) (((hl.add rfl).add rfl).ino 20) rfl (by rw [up_k80 (by decide) _ _ _ (by decide), up_k80 (by decide) _ _ _ (by decide), upr_k80 (by decide) _ _ _ (by decide), hz20]; rfl) rfl (fun a20 => ?_)
  refine pr_X4_23 (ad := adA (adA (adA ad 82 1700 0 a17) 19 0 0 a19) 20 0 0 a20) (v := a20 + 1) (i := 0) (j := 0) hC hM.2.1 dX4_init_26 (.inl (.inl (.inl hk))) ?_
  refine v_iconst (v := nI 0) hC dX4_init_29 (by decide) ?_
  refine v_istore_n hC dX4_init_30 (by decide) ?_
  have key : ∀ t, t ≤ 12 → ∀ (ok1 : KF) (ad1 : AD) (σ1 : SG), FrK (SX4 t) 94 0 (ok, ad, σ) (ok1, ad1, σ1) → WRK t ad1 σ1 → V X G (3 + t) (40 + 4 * t) ok1 ad1 σ1 [(0, .ref (ad 94 0 0)), (1, iv t)] 31 [] := by
    refine down 12 ?_ ?_
    · intro ok1 ad1 σ1 hF hW
      refine v_iload_n hC dX4_init_31 rfl ?_
      refine v_bipush (v := nI 12) hC dX4_init_32 (by decide) ?_
      refine v_icmp_geN (tgt := 56) hC dX4_init_34 (by decide) (by decide) (by decide) (fun c_34 => ?_) (fun c_34 => absurd c_34 (by decide))
      exact v_vret hC hM dX4_init_56 (by omega) (by omega) ⟨rfl, hF, hW⟩
    · intro t ht ih ok1 ad1 σ1 hF hW
      obtain ⟨f1, f2, f3, f4⟩ := hF
      obtain ⟨w0, w1, w2, w3⟩ := hW
      have hk1 : ok1 94 0 0 := (f1 94 0 0).mpr (.inl hk)
      have e94 : ad1 94 0 0 = ad 94 0 0 := f2 94 0 0 hk
      have h82 : ok1 82 1700 0 := (f1 82 1700 0).mpr (.inr (.inr (.inl ⟨rfl, rfl, rfl⟩)))
      have hn18 : ¬ ok1 18 t 0 := fun q => by
        rcases (f1 18 t 0).mp q with q | q | q | q
        · exact hn 18 t 0 (.inr (.inr ⟨rfl, ht, rfl⟩)) q
        · omega
        · omega
        · omega
      have hl1 : LEAF ok1 := fun k i j q => by
        rcases (f1 k i j).mp q with q | ⟨rfl, rfl, rfl | rfl⟩ | ⟨rfl, rfl, rfl⟩ | ⟨rfl, -, rfl⟩
        · exact hl _ _ _ q
        · rfl
        · rfl
        · rfl
        · rfl
      have hz1 : σ1 18 t 0 = fun _ => 0 := (f4 18 t 0 (by decide)).trans (hz18 t ht)
      refine v_iload_n hC dX4_init_31 rfl ?_
      refine v_bipush (v := nI 12) hC dX4_init_32 (by decide) ?_
      refine v_icmp_geN (tgt := 56) hC dX4_init_34 (by decide) (by omega) (by decide) (fun c_34 => absurd c_34 (by omega)) (fun c_34 => ?_)
      refine v_aload_n hC dX4_init_37 rfl ?_
      refine v_stk (st' := [.ref (ad1 94 0 0)]) (by rw [e94]) ?_
      refine gr_X4_11 hC dX4_init_38 hk1 ?_
      refine v_stk (st' := [.ref (ad1 82 1700 0)]) (by rw [w0.1]; rfl) ?_
      refine v_iload_n hC dX4_init_41 rfl ?_
      refine nw_X4_9 (i0 := t) (j0 := 0) hC dX4_init_42 hn18 (fun a k' i' j' q s => ((hl1.ino 18) k' i' j' q).e) (by omega) (by omega) (fun a => ?_)
      rw [upr_sm hz1]
      obtain ⟨ad2, had2⟩ : ∃ ad2, ad2 = adA ad1 18 t 0 a := ⟨_, rfl⟩
      have e18 : ad2 18 t 0 = a := by rw [had2]; exact adA_self _ _ _ _ _
      have eo : ∀ k i j, ok1 k i j → ad2 k i j = ad1 k i j := fun k i j q => by
        rw [had2]
        exact adA_off _ _ (fun e => hn18 (by obtain ⟨rfl, rfl, rfl⟩ := e; exact q))
      rw [← had2]
      refine v_stk (st' := [.ref (ad2 18 t 0), iv t, .ref (ad2 82 1700 0)]) (by rw [e18, eo _ _ _ h82]) ?_
      refine v_dup hC dX4_init_45 rfl ?_
      refine v_callIN_v0 hC lk_X4_27 dX4_init_46 (c_X3_init hl0) (by decide) (by decide) rfl rfl (Nat.le_of_ble_eq_true rfl) (by omega) (by omega) ?_
      refine s_q (E := "Branchyard$Test") (N := 12) (t := 6) (ci := 3) (r := (RX3, TX3, 4)) rfl hC dX4_init_49 (.inl h82) w1 w2 ht (by decide) rfl rfl (.inr ⟨rfl, rfl, rfl⟩) rfl ?_
      refine v_iincN hC dX4_init_50 rfl (by decide) ?_
      refine v_goto (tgt := 31) hC dX4_init_53 (by decide) ?_
      refine v_rm (by omega) (by omega) (v_sub rfl (ih (okA ok1 18 t 0) ad2 (up σ1 82 1700 0 t (ad2 18 t 0 + 1)) ⟨fun k i j => ?_, fun k i j q => ?_, fun k i j h1 h2 => ?_, fun k i j h => ?_⟩ ⟨?_, ?_, ?_, fun x hx => ?_⟩))
      · show okA ok1 18 t 0 k i j ↔ _
        constructor
        · rintro (q | ⟨rfl, rfl, rfl⟩)
          · rcases (f1 k i j).mp q with q | q | q | q
            · exact .inl q
            · exact .inr (.inl q)
            · exact .inr (.inr (.inl q))
            · exact .inr (.inr (.inr ⟨q.1, by omega, q.2.2⟩))
          · exact .inr (.inr (.inr ⟨rfl, by omega, rfl⟩))
        · rintro (q | q | q | q)
          · exact .inl ((f1 k i j).mpr (.inl q))
          · exact .inl ((f1 k i j).mpr (.inr (.inl q)))
          · exact .inl ((f1 k i j).mpr (.inr (.inr (.inl q))))
          · by_cases e : i = t
            · exact .inr ⟨q.1, e, q.2.2⟩
            · exact .inl ((f1 k i j).mpr (.inr (.inr (.inr ⟨q.1, by omega, q.2.2⟩))))
      · show ad2 k i j = ad k i j
        rw [eo k i j ((f1 k i j).mpr (.inl q))]
        exact f2 k i j q
      · show up σ1 82 1700 0 t _ k i j = σ k i j
        rw [up_off _ _ _ (fun e => h1 (.inr (.inl e)))]
        exact f3 k i j (fun q => h1 (by
          rcases q with q | q | q
          · exact .inl q
          · exact .inr (.inl q)
          · exact .inr (.inr ⟨q.1, by omega, q.2.2⟩))) h2
      · show up σ1 82 1700 0 t _ k i j = σ k i j
        rw [up_k80 (by decide) k i j h]
        exact f4 k i j h
      · have s94 : up σ1 82 1700 0 t (ad2 18 t 0 + 1) 94 0 0 = σ1 94 0 0 := up_off _ _ _ (fun e => absurd e.1 (by decide))
        rw [s94, eo _ _ _ h82, eo 19 0 0 ((f1 19 0 0).mpr (.inr (.inl ⟨rfl, rfl, .inl rfl⟩))), eo 20 0 0 ((f1 20 0 0).mpr (.inr (.inl ⟨rfl, rfl, .inr rfl⟩)))]
        exact w0
      · show (if _ then _ else _) = _
        rw [if_neg (by omega)]
        exact w1
      · show (if _ then _ else _) = _
        rw [if_neg (by omega)]
        exact w2
      · show (if _ then _ else _) = _
        by_cases e : x = t
        · subst e
          rw [if_pos ⟨rfl, rfl, rfl, rfl⟩]
        · rw [if_neg (fun q => e q.2.2.2), w3 x (by omega), eo 18 x 0 ((f1 18 x 0).mpr (.inr (.inr (.inr ⟨rfl, by omega, rfl⟩))))]
  refine v_sub rfl (key 0 (by decide) _ _ _ ⟨fun k i j => ?_, fun k i j q => ?_, fun k i j h1 h2 => ?_, fun k i j h => ?_⟩ ⟨?_, ?_, ?_, fun x hx => absurd hx (by omega)⟩)
  · show okA (okA (okA ok 82 1700 0) 19 0 0) 20 0 0 k i j ↔ _
    constructor
    · rintro (((q | q) | q) | q)
      · exact .inl q
      · exact .inr (.inr (.inl q))
      · exact .inr (.inl ⟨q.2.2, q.2.1, .inl q.1⟩)
      · exact .inr (.inl ⟨q.2.2, q.2.1, .inr q.1⟩)
    · rintro (q | ⟨rfl, rfl, rfl | rfl⟩ | q | q)
      · exact .inl (.inl (.inl q))
      · exact .inl (.inr ⟨rfl, rfl, rfl⟩)
      · exact .inr ⟨rfl, rfl, rfl⟩
      · exact .inl (.inl (.inr q))
      · exact absurd q.2.1 (by omega)
  · show adA (adA (adA ad 82 1700 0 a17) 19 0 0 a19) 20 0 0 a20 k i j = ad k i j
    have hq : ∀ k' i' j', SX4 12 k' i' j' → ¬ (k = k' ∧ i = i' ∧ j = j') := fun k' i' j' hs e => by
      obtain ⟨rfl, rfl, rfl⟩ := e
      exact hn _ _ _ hs q
    rw [adA_off _ _ (hq 20 0 0 (.inl ⟨rfl, rfl, .inr rfl⟩)), adA_off _ _ (hq 19 0 0 (.inl ⟨rfl, rfl, .inl rfl⟩)), adA_off _ _ (hq 82 1700 0 (.inr (.inl ⟨rfl, rfl, rfl⟩)))]
  · show up _ 94 0 0 4 _ k i j = σ k i j
    rw [up_off _ _ _ h2, up_off _ _ _ h2, up_off _ _ _ h2, upr_off _ _ (fun e => h1 (.inr (.inl e)))]
  · show up _ 94 0 0 4 _ k i j = σ k i j
    rw [up_k80 (by decide) k i j h, up_k80 (by decide) k i j h, up_k80 (by decide) k i j h, upr_k80 (by decide) k i j h]
  · simp [up, upr, adA, hz94]
  · rfl
  · rfl

