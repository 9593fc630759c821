/-- one cell laid at the list's end -/
def adE (σ : SG) (e s v : Nat) : SG := up (up σ 55 e 0 s (v + 1)) 54 0 0 2 (s + 1)
theorem adE_f (σ : SG) (e s v : Nat) : ∀ a, rf (up σ 55 e 0 s (v + 1) 55 e 0 a) = if a = s then some v else rf (σ 55 e 0 a) := fun a => by
  by_cases h : a = s
  · rw [if_pos h, h, up_same]
    rfl
  · rw [if_neg h, up_x h]
theorem Arr_snoc {G : GT} {ok : KF} {ad : AD} {σ : SG} {K : List (List Nat)} {e m : Nat} (h10 : 10 ≤ e) (hk : ok 55 e 0) (h1 : σ 54 0 0 1 = ad 55 e 0 + 1) (h9 : σ 55 e 0 9000 = e) (hl : K.length + 1 ≤ e) (hL : ∃ L : Nat → Nat, ∀ t, t < K.length → ok 56 (L t) 0 ∧ σ 55 e 0 t = ad 56 (L t) 0 + 1 ∧ cel σ (L t) = K.getD t [] ∧ σ 56 (L t) 0 30 ≤ 26) (hm : ok 56 m 0) (hat : σ 55 e 0 K.length = ad 56 m 0 + 1) (h2 : σ 54 0 0 2 = K.length + 1) (h26 : σ 56 m 0 30 ≤ 26) : Arr G ok ad σ (K ++ [cel σ m]) e := by
  obtain ⟨L, hL⟩ := hL
  refine ⟨by rw [h2]; simp, .inr ⟨h10, hk, h1, h9, by simp; exact hl, fun t => if t = K.length then m else L t, fun t ht => ?_⟩⟩
  have ht2 : t < K.length + 1 := by simpa using ht
  by_cases q : t = K.length
  · subst q
    dsimp only
    rw [if_pos rfl]
    exact ⟨hm, hat, by simp, h26⟩
  · dsimp only
    rw [if_neg q]
    obtain ⟨a1, a2, a3, a4⟩ := hL t (by omega)
    refine ⟨a1, a2, ?_, a4⟩
    rw [a3]
    simp [List.getD, List.getElem?_append_left (show t < K.length by omega)]

set_option maxHeartbeats 4000000 in
set_option maxRecDepth 100000 in
theorem c_add3_A {l : Launch} (hl0 : l.stackTraces = false) {G : GT} {ok : KF} {ad : AD} {σ : SG} (hQ : OKM ok) {e m : Nat} (hk : ok 55 e 0) (h9 : σ 55 e 0 9000 = e) (hm : ok 56 m 0) (he : e ≤ 4800) {s : Nat} (hs : s < e) : Ct l G 6 yJx4a65c_add_72be8 cJx4a65c_add_72be8 4 (none) [.ref (ad 54 0 0), .ref (ad 56 m 0), .ref (ad 55 e 0), iv s] ok ad σ (Rt none ok ad (adE σ e s (ad 56 m 0))) (NX) 0 0 := by
  refine Ct.mk (by decide +kernel) hl0 (Nat.le_of_ble_eq_true rfl) (fun X hX hC hM => ?_)
  subst hX
  refine v_iload_n hC dJx4a65c_add_72be8_0 rfl ?_
  refine v_aload_n hC dJx4a65c_add_72be8_1 rfl ?_
  refine v_alenN (N := e) (c := G.2.2.1 12) (a := .inr (.inr (.inr (.inr fun x => rf (σ 55 e 0 x))))) 12 rfl hC dJx4a65c_add_72be8_2 hk (by show eQ _ (σ 55 e 0 9000) _ = _; rw [h9]) ?_
  refine v_icmp_neN (tgt := 11) hC dJx4a65c_add_72be8_3 (by decide) (by first | omega | decide) (by first | omega | decide) (fun c_3 => ?_) (fun c_3 => ?_)
  · refine v_aload_n hC dJx4a65c_add_72be8_11 rfl ?_
    refine v_iload_n hC dJx4a65c_add_72be8_12 rfl ?_
    refine v_aload_n hC dJx4a65c_add_72be8_13 rfl ?_
    refine v_aast (k := 55) (i := e) (j := 0) (N := e) (c := G.2.2.1 12) (x := s) (v := (ad 56 m 0)) (f := fun x => rf (σ 55 e 0 x)) (f1 := fun x => rf (up (σ) 55 e 0 s ((ad 56 m 0) + 1) 55 e 0 x)) (σ1 := up (σ) 55 e 0 s ((ad 56 m 0) + 1)) (ad := ad) 12 rfl hC dJx4a65c_add_72be8_14 hk (by show eQ _ (σ 55 e 0 9000) _ = _; rw [h9]) (by omega) (by omega) (any_I hC hm rfl) (fun _ _ _ h => funext fun x' => congrFun (up_off _ _ _ h) x') (by show eQ _ (up (σ) 55 e 0 s ((ad 56 m 0) + 1) 55 e 0 9000) _ = _; rw [up_x (by omega), h9]) (adE_f _ _ _ _) ?_
    refine v_aload_n hC dJx4a65c_add_72be8_15 rfl ?_
    refine v_iload_n hC dJx4a65c_add_72be8_16 rfl ?_
    refine v_iconst (v := nI 1) hC dJx4a65c_add_72be8_17 (by decide) ?_
    refine v_iaddN hC dJx4a65c_add_72be8_18 ?_
    refine pf_Jx4a65c_48 hC dJx4a65c_add_72be8_19 hQ ?_
    refine v_vret hC hM dJx4a65c_add_72be8_22 (by omega) (by omega) ?_
    exact ⟨rfl, rfl⟩
  · exact absurd c_3 (by omega)

set_option maxHeartbeats 4000000 in
set_option maxRecDepth 100000 in
theorem c_add3_0 {l : Launch} (hl0 : l.stackTraces = false) {G : GT} {ok : KF} {ad : AD} {σ : SG} (hQ : OKM ok) {m : Nat} (hm : ok 56 m 0) (h2 : σ 54 0 0 2 = 0) (h1 : σ 54 0 0 1 = G.2.2.2 0 + 1) (hn : ¬ ok 55 10 0) : Ct l G 6 yJx4a65c_add_72be8 cJx4a65c_add_72be8 4 (none) [.ref (ad 54 0 0), .ref (ad 56 m 0), .ref (G.2.2.2 0), iv 0] ok ad σ (fun v μ => v = none ∧ ∃ a, μ = (okA ok 55 10 0, adA ad 55 10 0 a, adE (gw0 σ a) 10 0 (ad 56 m 0))) (NX) 1 10 := by
  refine Ct.mk (by decide +kernel) hl0 (Nat.le_of_ble_eq_true rfl) (fun X hX hC hM => ?_)
  subst hX
  have hQ1 : OKM (okA ok 55 10 0) := fun k i j h => .inl (hQ k i j h)
  have hk1 : okA ok 55 10 0 55 10 0 := .inr ⟨rfl, rfl, rfl⟩
  have hm1 : okA ok 55 10 0 56 m 0 := .inl hm
  refine v_iload_n hC dJx4a65c_add_72be8_0 rfl ?_
  refine v_aload_n hC dJx4a65c_add_72be8_1 rfl ?_
  refine v_alen0 hC dJx4a65c_add_72be8_2 ?_
  refine v_icmp_neN (tgt := 11) hC dJx4a65c_add_72be8_3 (by decide) (by first | omega | decide) (by first | omega | decide) (fun c_3 => ?_) (fun c_3 => ?_)
  · exact absurd rfl c_3
  · refine v_aload_n hC dJx4a65c_add_72be8_6 rfl ?_
    refine v_callV hC lk_Jx4a65c_129 dJx4a65c_add_72be8_7 (c_grow_0 hl0 hQ h2 h1 hn) (by decide) (by decide) hQ.k54 rfl rfl rfl rfl (Nat.le_of_ble_eq_true rfl) (by omega) (by omega) (fun v μ h => ?_) (fun _ _ h => h.elim)
    obtain ⟨a, rfl, rfl⟩ := h
    dsimp only
    refine v_astore_n hC dJx4a65c_add_72be8_10 (by decide) ?_
    have h9 : gw0 σ a 55 10 0 9000 = 10 := by
      unfold gw0
      rw [up_k (by decide), upr_same]
      rfl
    refine v_aload_n hC dJx4a65c_add_72be8_11 rfl ?_
    refine v_iload_n hC dJx4a65c_add_72be8_12 rfl ?_
    refine v_aload_n hC dJx4a65c_add_72be8_13 rfl ?_
    refine v_aast (k := 55) (i := 10) (j := 0) (N := 10) (c := G.2.2.1 12) (x := 0) (v := (ad 56 m 0)) (f := fun x => rf (gw0 σ a 55 10 0 x)) (f1 := fun x => rf (up (gw0 σ a) 55 10 0 0 ((ad 56 m 0) + 1) 55 10 0 x)) (σ1 := up (gw0 σ a) 55 10 0 0 ((ad 56 m 0) + 1)) (ad := adA ad 55 10 0 a) 12 rfl hC dJx4a65c_add_72be8_14 hk1 (by show eQ _ (gw0 σ a 55 10 0 9000) _ = _; rw [h9]) (by omega) (by omega) (any_I hC hm1 rfl) (fun _ _ _ h => funext fun x' => congrFun (up_off _ _ _ h) x') (by show eQ _ (up (gw0 σ a) 55 10 0 0 ((ad 56 m 0) + 1) 55 10 0 9000) _ = _; rw [up_x (by omega), h9]) (adE_f _ _ _ _) ?_
    refine v_aload_n hC dJx4a65c_add_72be8_15 rfl ?_
    refine v_iload_n hC dJx4a65c_add_72be8_16 rfl ?_
    refine v_iconst (v := nI 1) hC dJx4a65c_add_72be8_17 (by decide) ?_
    refine v_iaddN hC dJx4a65c_add_72be8_18 ?_
    refine pf_Jx4a65c_48 (ad := adA ad 55 10 0 a) hC dJx4a65c_add_72be8_19 hQ1 ?_
    refine v_vret hC hM dJx4a65c_add_72be8_22 (by omega) (by omega) ?_
    exact ⟨rfl, a, rfl⟩

set_option maxHeartbeats 4000000 in
set_option maxRecDepth 100000 in
theorem c_add3_N {l : Launch} (hl0 : l.stackTraces = false) {G : GT} {ok : KF} {ad : AD} {σ : SG} (hQ : OKM ok) {e m : Nat} (hm : ok 56 m 0) (h2 : σ 54 0 0 2 = e) (he10 : 10 ≤ e) (he : e ≤ 3200) (hk : ok 55 e 0) (h1 : σ 54 0 0 1 = ad 55 e 0 + 1) (h9 : σ 55 e 0 9000 = e) (hn : ¬ ok 55 (e + e / 2) 0) (hL : ∀ x, x < e → ∀ y, σ 55 e 0 x = y + 1 → ∃ c, ok 56 c 0 ∧ y = ad 56 c 0) : Ct l G 6 yJx4a65c_add_72be8 cJx4a65c_add_72be8 4 (none) [.ref (ad 54 0 0), .ref (ad 56 m 0), .ref (ad 55 e 0), iv e] ok ad σ (fun v μ => v = none ∧ ∃ a, μ = (okA ok 55 (e + e / 2) 0, adA ad 55 (e + e / 2) 0 a, adE (gwN σ e a) (e + e / 2) e (ad 56 m 0))) (NX) 1 (e + e / 2) := by
  refine Ct.mk (by decide +kernel) hl0 (Nat.le_of_ble_eq_true rfl) (fun X hX hC hM => ?_)
  subst hX
  have hQ1 : OKM (okA ok 55 (e + e / 2) 0) := fun k i j h => .inl (hQ k i j h)
  have hk1 : okA ok 55 (e + e / 2) 0 55 (e + e / 2) 0 := .inr ⟨rfl, rfl, rfl⟩
  have hm1 : okA ok 55 (e + e / 2) 0 56 m 0 := .inl hm
  refine v_iload_n hC dJx4a65c_add_72be8_0 rfl ?_
  refine v_aload_n hC dJx4a65c_add_72be8_1 rfl ?_
  refine v_alenN (N := e) (c := G.2.2.1 12) (a := .inr (.inr (.inr (.inr fun x => rf (σ 55 e 0 x))))) 12 rfl hC dJx4a65c_add_72be8_2 hk (by show eQ _ (σ 55 e 0 9000) _ = _; rw [h9]) ?_
  refine v_icmp_neN (tgt := 11) hC dJx4a65c_add_72be8_3 (by decide) (by first | omega | decide) (by first | omega | decide) (fun c_3 => ?_) (fun c_3 => ?_)
  · exact absurd rfl c_3
  · refine v_aload_n hC dJx4a65c_add_72be8_6 rfl ?_
    refine v_callV hC lk_Jx4a65c_129 dJx4a65c_add_72be8_7 (c_grow_N hl0 hQ h2 he10 he hk h1 h9 hn hL) (by decide) (by decide) hQ.k54 rfl rfl rfl rfl (Nat.le_of_ble_eq_true rfl) (by omega) (by omega) (fun v μ h => ?_) (fun _ _ h => h.elim)
    obtain ⟨a, rfl, rfl⟩ := h
    dsimp only
    refine v_astore_n hC dJx4a65c_add_72be8_10 (by decide) ?_
    have h9 : gwN σ e a 55 (e + e / 2) 0 9000 = e + e / 2 := by
      unfold gwN
      rw [up_k (by decide), upr_same]
      rfl
    refine v_aload_n hC dJx4a65c_add_72be8_11 rfl ?_
    have hada : adA ad 55 (e + e / 2) 0 a 55 (e + e / 2) 0 = a := adA_self _ _ _ _ _
    refine v_stk (st' := .ref (adA ad 55 (e + e / 2) 0 a 55 (e + e / 2) 0) :: []) (congrArg (fun z => Value.ref z :: []) hada) ?_
    refine v_iload_n hC dJx4a65c_add_72be8_12 rfl ?_
    refine v_aload_n hC dJx4a65c_add_72be8_13 rfl ?_
    refine v_aast (k := 55) (i := (e + e / 2)) (j := 0) (N := (e + e / 2)) (c := G.2.2.1 12) (x := e) (v := (ad 56 m 0)) (f := fun x => rf (gwN σ e a 55 (e + e / 2) 0 x)) (f1 := fun x => rf (up (gwN σ e a) 55 (e + e / 2) 0 e ((ad 56 m 0) + 1) 55 (e + e / 2) 0 x)) (σ1 := up (gwN σ e a) 55 (e + e / 2) 0 e ((ad 56 m 0) + 1)) (ad := adA ad 55 (e + e / 2) 0 a) 12 rfl hC dJx4a65c_add_72be8_14 hk1 (by show eQ _ (gwN σ e a 55 (e + e / 2) 0 9000) _ = _; rw [h9]) (by omega) (by omega) (any_I hC hm1 rfl) (fun _ _ _ h => funext fun x' => congrFun (up_off _ _ _ h) x') (by show eQ _ (up (gwN σ e a) 55 (e + e / 2) 0 e ((ad 56 m 0) + 1) 55 (e + e / 2) 0 9000) _ = _; rw [up_x (by omega), h9]) (adE_f _ _ _ _) ?_
    refine v_aload_n hC dJx4a65c_add_72be8_15 rfl ?_
    refine v_iload_n hC dJx4a65c_add_72be8_16 rfl ?_
    refine v_iconst (v := nI 1) hC dJx4a65c_add_72be8_17 (by decide) ?_
    refine v_iaddN hC dJx4a65c_add_72be8_18 ?_
    refine pf_Jx4a65c_48 (ad := adA ad 55 (e + e / 2) 0 a) hC dJx4a65c_add_72be8_19 hQ1 ?_
    refine v_vret hC hM dJx4a65c_add_72be8_22 (by omega) (by omega) ?_
    exact ⟨rfl, a, rfl⟩

def m5S (σ τ : SG) : SG := fun k i j x => bif (k == 54 || k == 55) then τ k i j x else σ k i j x
def m5A (ad na : AD) : AD := fun k i j => bif k == 55 then na k i j else ad k i j
def m5K (ok nk : KF) : KF := fun k i j => bif k == 55 then nk k i j else ok k i j
theorem m5S_x (σ τ : SG) : m5S σ τ = mxS σ (m5S σ τ) := mxS_of (fun k i j x q => by
  have h1 : k ≠ 54 := fun z => by subst z; cases q
  have h2 : k ≠ 55 := fun z => by subst z; cases q
  show (bif (k == 54 || k == 55) then _ else _) = _
  rw [show (k == 54 || k == 55) = false by simp [h1, h2]]
  rfl)
theorem m5A_x (ad na : AD) : m5A ad na = mxA ad (m5A ad na) := mxA_of (fun k i j q => by
  have h2 : k ≠ 55 := fun z => by subst z; cases q
  show (bif k == 55 then _ else _) = _
  rw [show (k == 55) = false by simp [h2]]
  rfl)
theorem m5K_x (ok nk : KF) : m5K ok nk = mxK ok (m5K ok nk) := mxK_of (fun k i j q => by
  have h2 : k ≠ 55 := fun z => by subst z; cases q
  show (bif k == 55 then nk k i j else ok k i j) ↔ ok k i j
  rw [show (k == 55) = false by simp [h2]]
  exact Iff.rfl)
theorem OKM.m5 {ok nk : KF} (h : OKM ok) : OKM (m5K ok nk) := by
  rw [m5K_x]
  exact h.mx
/-- a cell added: what is then -/
def AddP (G : GT) (ok : KF) (ad : AD) (σ : SG) (K : List (List Nat)) (m e : Nat) (μ : MT) : Prop := ∃ nk na τ, μ = (m5K ok nk, m5A ad na, m5S σ τ) ∧ BD (m5S σ τ) ∧ Arr G (m5K ok nk) (m5A ad na) (m5S σ τ) (K ++ [cel σ m]) (capS K.length e) ∧ KM (m5K ok nk) (m + 1) (capS K.length e)
theorem AddP.mk {G : GT} {ok ok' : KF} {ad ad' : AD} {σ σ' : SG} {K : List (List Nat)} {m e : Nat} (hk : ∀ k i j, (k == 55) = false → (ok' k i j ↔ ok k i j)) (ha : ∀ k i j, (k == 55) = false → ad' k i j = ad k i j) (hs : ∀ k i j x, k ≠ 54 → k ≠ 55 → σ' k i j x = σ k i j x) (hB : BD σ') (h1 : Arr G ok' ad' σ' (K ++ [cel σ m]) (capS K.length e)) (h2 : KM ok' (m + 1) (capS K.length e)) : AddP G ok ad σ K m e (ok', ad', σ') := by
  have e1 : ok' = m5K ok ok' := by
    funext k i j
    simp only [m5K]
    cases q : (k == 55) with
    | true => rfl
    | false => exact propext (hk k i j q)
  have e2 : ad' = m5A ad ad' := by
    funext k i j
    simp only [m5A]
    cases q : (k == 55) with
    | true => rfl
    | false => exact ha k i j q
  have e3 : σ' = m5S σ σ' := by
    funext k i j x
    simp only [m5S]
    cases q : (k == 54 || k == 55) with
    | true => rfl
    | false =>
      simp only [Bool.or_eq_false_iff, beq_eq_false_iff_ne] at q
      exact hs k i j x q.1 q.2
  exact ⟨ok', ad', σ', by rw [← e1, ← e2, ← e3], by rw [← e3]; exact hB, by rw [← e1, ← e2, ← e3]; exact h1, by rw [← e1]; exact h2⟩
theorem KM.new55 {ok : KF} {m e e' : Nat} (h : KM ok m e) (he : e ≤ e') : KM (okA ok 55 e' 0) m e' := by
  obtain ⟨h1, h2, h3⟩ := h
  refine ⟨fun k i j q => ?_, fun i j q => ?_, fun i j q => ?_⟩
  · rcases q with q | q
    · exact h1 _ _ _ q
    · omega
  · rcases q with q | q
    · have := h2 _ _ q
      omega
    · omega
  · rcases q with q | q
    · exact h3 _ _ q
    · omega
set_option maxHeartbeats 4000000 in
set_option maxRecDepth 100000 in
theorem c_alist_add {l : Launch} (hl0 : l.stackTraces = false) {G : GT} {ok : KF} {ad : AD} {σ : SG} (hQ : OKM ok) (hB : BD σ) {K : List (List Nat)} {m e : Nat} (hArr : Arr G ok ad σ K e) (hKM : KM ok (m + 1) e) (hm : ok 56 m 0) (h26 : σ 56 m 0 30 ≤ 26) (hK : K.length ≤ 3100) (he : e ≤ 4700) : Ct l G 7 yJx4a65c_add_9ea2d cJx4a65c_add_9ea2d 2 (some .boolean) [.ref (ad 54 0 0), .ref (ad 56 m 0)] ok ad σ (fun v μ => v = some (iv 1) ∧ AddP G ok ad σ K m e μ) (NX) 1 (4 * (capS K.length e - e)) := by
  refine Ct.mk (by decide +kernel) hl0 (Nat.le_of_ble_eq_true rfl) (fun X hX hC hM => ?_)
  subst hX
  refine v_aload_n hC dJx4a65c_add_9ea2d_0 rfl ?_
  refine v_dup hC dJx4a65c_add_9ea2d_1 rfl ?_
  refine gf_Jx4a65c_63 hC dJx4a65c_add_9ea2d_2 hQ ?_
  refine v_iconst (v := nI 1) hC dJx4a65c_add_9ea2d_5 (by decide) ?_
  refine v_iaddN hC dJx4a65c_add_9ea2d_6 ?_
  refine pf_Jx4a65c_63 hC dJx4a65c_add_9ea2d_7 hQ ?_
  refine v_aload_n hC dJx4a65c_add_9ea2d_10 rfl ?_
  refine v_aload_n hC dJx4a65c_add_9ea2d_11 rfl ?_
  refine v_aload_n hC dJx4a65c_add_9ea2d_12 rfl ?_
  refine gf_Jx4a65c_9 hC dJx4a65c_add_9ea2d_13 hQ ?_
  refine v_aload_n hC dJx4a65c_add_9ea2d_16 rfl ?_
  refine gf_Jx4a65c_48 hC dJx4a65c_add_9ea2d_17 hQ ?_
  have hBm : BD (up σ 54 0 0 0 (σ 54 0 0 0 + 1)) := BD.putp hB rfl
  have hcel : ∀ c, cel (up σ 54 0 0 0 (σ 54 0 0 0 + 1)) c = cel σ c := fun c => rfl
  generalize hσm : up σ 54 0 0 0 (σ 54 0 0 0 + 1) = σm at *
  have hmk : ∀ k i j x, k ≠ 54 → σm k i j x = σ k i j x := fun k i j x q => by rw [← hσm]; exact up_k q
  obtain ⟨hsz, hA⟩ := hArr
  have hszm : σm 54 0 0 2 = K.length := by rw [← hσm, up_x (by decide)]; exact hsz
  have h1m : σm 54 0 0 1 = σ 54 0 0 1 := by rw [← hσm, up_x (by decide)]
  rw [hszm, h1m]
  rcases hA with ⟨rfl, rfl, h1⟩ | ⟨h10, hk, h1, h9, hl, L, hL⟩
  · rw [h1]
    have hn : ¬ ok 55 10 0 := fun q => absurd (hKM.2.1 _ _ q).2 (by decide)
    have hcap : capS ([] : List (List Nat)).length 0 = 10 := rfl
    refine v_callV hC lk_Jx4a65c_131 dJx4a65c_add_9ea2d_20 (c_add3_0 hl0 hQ hm (by rw [hszm]; rfl) (h1m.trans h1) hn) (by decide) (by decide) hQ.k54 rfl rfl rfl rfl (Nat.le_of_ble_eq_true rfl) (by omega) (by rw [hcap]; decide) (fun v μ h => ?_) (fun _ _ h => h.elim)
    obtain ⟨rfl, a, rfl⟩ := h
    dsimp only
    refine v_iconst (v := nI 1) hC dJx4a65c_add_9ea2d_23 (by decide) ?_
    refine v_zret hC hM dJx4a65c_add_9ea2d_24 (nar_z b_of1) (by omega) (by rw [hcap]; decide) ?_
    refine ⟨rfl, AddP.mk (fun k i j q => ⟨fun z => z.elim id (fun w => by rw [w.1] at q; cases q), .inl⟩) (fun k i j q => adA_off _ _ (fun w => by rw [w.1] at q; cases q)) (fun k i j x q1 q2 => ?_) ?_ ?_ ?_⟩
    · unfold adE gw0
      rw [up_k q1, up_k q2, up_k q1, upr_k q2]
      exact hmk _ _ _ _ q1
    · exact BD.putp (BD.putp (BD.putp (BD.putr hBm (fun x q => by cases q)) rfl) rfl) rfl
    · rw [hcap]
      have key : Arr G (okA ok 55 10 0) (adA ad 55 10 0 a) (adE (gw0 σm a) 10 0 (ad 56 m 0)) ([] ++ [cel (adE (gw0 σm a) 10 0 (ad 56 m 0)) m]) 10 := by
        refine Arr_snoc (Nat.le_refl _) (.inr ⟨rfl, rfl, rfl⟩) ?_ ?_ (by decide) ⟨fun _ => 0, fun t ht => absurd ht (Nat.not_lt_zero _)⟩ (.inl hm) ?_ rfl ?_
        · show a + 1 = adA ad 55 10 0 a 55 10 0 + 1
          rw [adA_self]
        · rfl
        · show up (up (gw0 σm a) 55 10 0 0 (ad 56 m 0 + 1)) 54 0 0 2 (0 + 1) 55 10 0 0 = ad 56 m 0 + 1
          rw [up_k (by decide)]
          exact up_same _ _ _ _ _ _
        · show σm 56 m 0 30 ≤ 26
          rw [hmk _ _ _ _ (by decide)]
          exact h26
      have e1 : cel (adE (gw0 σm a) 10 0 (ad 56 m 0)) m = cel σ m := hcel m
      rw [e1] at key
      exact key
    · rw [hcap]
      have := (hKM.new55 (Nat.zero_le 10))
      exact this
  · rw [h1]
    have hLm : ∀ t, t < K.length → ok 56 (L t) 0 ∧ σm 55 e 0 t = ad 56 (L t) 0 + 1 ∧ cel σm (L t) = K.getD t [] ∧ σm 56 (L t) 0 30 ≤ 26 := fun t ht => by
      obtain ⟨a1, a2, a3, a4⟩ := hL t ht
      exact ⟨a1, by rw [hmk _ _ _ _ (by decide)]; exact a2, by rw [hcel]; exact a3, by rw [hmk _ _ _ _ (by decide)]; exact a4⟩
    have h9m : σm 55 e 0 9000 = e := by rw [hmk _ _ _ _ (by decide)]; exact h9
    by_cases hfull : K.length = e
    · have hcap : capS K.length e = e + e / 2 := by
        unfold capS
        rw [if_pos hfull, if_neg (by omega)]
      have hn : ¬ ok 55 (e + e / 2) 0 := fun q => absurd (hKM.2.1 _ _ q).2 (by omega)
      have hLL : ∀ x, x < e → ∀ y, σm 55 e 0 x = y + 1 → ∃ c, ok 56 c 0 ∧ y = ad 56 c 0 := fun x hx y hy => by
        obtain ⟨a1, a2, -, -⟩ := hLm x (by omega)
        exact ⟨L x, a1, by omega⟩
      rw [hfull]
      refine v_callV hC lk_Jx4a65c_131 dJx4a65c_add_9ea2d_20 (c_add3_N hl0 hQ hm (by rw [hszm]; exact hfull) h10 (by omega) hk (h1m.trans h1) h9m hn hLL) (by decide) (by decide) hQ.k54 rfl rfl rfl rfl (Nat.le_of_ble_eq_true rfl) (by omega) (by rw [hcap]; omega) (fun v μ h => ?_) (fun _ _ h => h.elim)
      obtain ⟨rfl, a, rfl⟩ := h
      dsimp only
      refine v_iconst (v := nI 1) hC dJx4a65c_add_9ea2d_23 (by decide) ?_
      refine v_zret hC hM dJx4a65c_add_9ea2d_24 (nar_z b_of1) (by omega) (by rw [hcap]; omega) ?_
      refine ⟨rfl, AddP.mk (fun k i j q => ⟨fun z => z.elim id (fun w => by rw [w.1] at q; cases q), .inl⟩) (fun k i j q => adA_off _ _ (fun w => by rw [w.1] at q; cases q)) (fun k i j x q1 q2 => ?_) ?_ ?_ ?_⟩
      · unfold adE gwN
        rw [up_k q1, up_k q2, up_k q1, upr_k q2]
        exact hmk _ _ _ _ q1
      · exact BD.putp (BD.putp (BD.putp (BD.putr hBm (fun x q => by cases q)) rfl) rfl) rfl
      · rw [hcap]
        have row : ∀ x, adE (gwN σm e a) (e + e / 2) e (ad 56 m 0) 55 (e + e / 2) 0 x = if x = e then ad 56 m 0 + 1 else cpE σm e (e + e / 2) x := fun x => by
          unfold adE gwN
          rw [up_k (by decide)]
          by_cases q : x = e
          · rw [if_pos q, q, up_same]
          · rw [if_neg q, up_x q, up_k (by decide), upr_same]
        have key : Arr G (okA ok 55 (e + e / 2) 0) (adA ad 55 (e + e / 2) 0 a) (adE (gwN σm e a) (e + e / 2) e (ad 56 m 0)) (K ++ [cel (adE (gwN σm e a) (e + e / 2) e (ad 56 m 0)) m]) (e + e / 2) := by
          refine Arr_snoc (by omega) (.inr ⟨rfl, rfl, rfl⟩) ?_ ?_ (by omega) ⟨L, fun t ht => ?_⟩ (.inl hm) ?_ (by rw [hfull]; rfl) ?_
          · show a + 1 = adA ad 55 (e + e / 2) 0 a 55 (e + e / 2) 0 + 1
            rw [adA_self]
          · rw [row, if_neg (by omega)]
            rfl
          · obtain ⟨a1, a2, a3, a4⟩ := hLm t ht
            refine ⟨.inl a1, ?_, a3, a4⟩
            rw [row, if_neg (by omega)]
            unfold cpE
            rw [if_neg (by omega), if_pos (by omega), a2]
            rfl
          · rw [row, if_pos hfull]
            rfl
          · show σm 56 m 0 30 ≤ 26
            rw [hmk _ _ _ _ (by decide)]
            exact h26
        have e1 : cel (adE (gwN σm e a) (e + e / 2) e (ad 56 m 0)) m = cel σ m := hcel m
        rw [e1] at key
        exact key
      · rw [hcap]
        exact hKM.new55 (by omega)
    · have hcap : capS K.length e = e := by
        unfold capS
        rw [if_neg hfull]
      refine v_callV hC lk_Jx4a65c_131 dJx4a65c_add_9ea2d_20 (c_add3_A hl0 hQ hk h9m hm (by omega) (s := K.length) (by omega)) (by decide) (by decide) hQ.k54 rfl rfl rfl rfl (Nat.le_of_ble_eq_true rfl) (by omega) (by omega) (fun v μ h => ?_) (fun _ _ h => h.elim)
      obtain ⟨rfl, rfl⟩ := h
      dsimp only
      refine v_iconst (v := nI 1) hC dJx4a65c_add_9ea2d_23 (by decide) ?_
      refine v_zret hC hM dJx4a65c_add_9ea2d_24 (nar_z b_of1) (by omega) (by omega) ?_
      refine ⟨rfl, AddP.mk (fun k i j q => Iff.rfl) (fun k i j q => rfl) (fun k i j x q1 q2 => ?_) ?_ ?_ ?_⟩
      · unfold adE
        rw [up_k q1, up_k q2]
        exact hmk _ _ _ _ q1
      · exact BD.putp (BD.putp hBm rfl) rfl
      · rw [hcap]
        have row : ∀ x, adE σm e K.length (ad 56 m 0) 55 e 0 x = if x = K.length then ad 56 m 0 + 1 else σm 55 e 0 x := fun x => by
          unfold adE
          rw [up_k (by decide)]
          by_cases q : x = K.length
          · rw [if_pos q, q, up_same]
          · rw [if_neg q, up_x q]
        have key : Arr G ok ad (adE σm e K.length (ad 56 m 0)) (K ++ [cel (adE σm e K.length (ad 56 m 0)) m]) e := by
          refine Arr_snoc h10 hk ?_ ?_ (by omega) ⟨L, fun t ht => ?_⟩ hm ?_ rfl ?_
          · exact h1m.trans h1
          · rw [row, if_neg (by omega)]
            exact h9m
          · obtain ⟨a1, a2, a3, a4⟩ := hLm t ht
            refine ⟨a1, ?_, a3, a4⟩
            rw [row, if_neg (by omega), a2]
          · rw [row, if_pos rfl]
          · show σm 56 m 0 30 ≤ 26
            rw [hmk _ _ _ _ (by decide)]
            exact h26
        have e1 : cel (adE σm e K.length (ad 56 m 0)) m = cel σ m := hcel m
        rw [e1] at key
        exact key
      · rw [hcap]
        exact hKM

