/-- what a call of the model says: a code, or an answer and the memory behind it -/
abbrev OM : Type := Nat ⊕ (Nat × SG)
abbrev mV (f : OM) (ok : KF) (ad : AD) (σ : SG) : Option Value → MT → Prop := fun v μ => (∃ k, f = .inl k ∧ v = some (iv 0) ∧ μ = (ok, ad, th σ k)) ∨ ∃ r τ, f = .inr (r, τ) ∧ v = some (iv r) ∧ μ = (ok, ad, τ)
def gM (x : Int32) (N : Nat) (E : Nat) (f : Nat → OM) : OM := match inR x N with
  | none => .inl E
  | some n => f n
def gU (σ : SG) (x : Int32) (s : Nat) (f : Nat → OM) : OM := match inR x (σ 30 0 0 2) with
  | none => .inl 1
  | some n => if σ 52 0 0 n ≠ s then .inl 2 else f n
def gS (x y : Int32) (E : Nat) (f : Nat → Nat → OM) : OM := match inR x 16 with
  | none => .inl E
  | some a => match inR y 4 with
    | none => .inl E
    | some b => f a b

def k6_setOwner (σ : SG) (d o s : Int32) : OM := gM d 4 1 fun d => gM o 6 2 fun o => gM s 6 2 fun s => if o = s then .inl 2 else .inr (σ 36 0 0 d, up (up σ 36 0 0 d o) 37 0 0 d s)
set_option maxHeartbeats 4000000 in
set_option maxRecDepth 100000 in
theorem c_X6_setOwner {l : Launch} (hl0 : l.stackTraces = false) {G : GT} {ok : KF} {ad : AD} {σ : SG} (hQ : OKM ok) (hB : BD σ) (d : Int32) (o : Int32) (s : Int32) : Ct l G 3 yX6_setOwner cX6_setOwner 5 (some .int) [.ref (ad 30 0 0), .int d, .int o, .int s] ok ad σ (mV (k6_setOwner (th σ 0) d o s) ok ad (th σ 0)) (NX) 0 0 := by
  refine Ct.mk (by decide +kernel) hl0 (Nat.le_of_ble_eq_true rfl) (fun X hX hC hM => ?_)
  subst hX
  refine v_aload_n hC dX6_setOwner_0 rfl ?_
  refine v_iconst (v := nI 0) hC dX6_setOwner_1 (by decide) ?_
  refine pf_X6_1 hC dX6_setOwner_2 hQ ?_
  show V X G _ _ ok ad (th σ 0) _ _ _
  have hB : BD (th σ 0) := th_BD hB (by decide)
  have h0 : th σ 0 30 0 0 0 = 0 := up_same _ _ _ _ _ _
  generalize th σ 0 = σ at *
  refine v_iload_n hC dX6_setOwner_5 rfl ?_
  refine v_callS hC lk_X6_92 dX6_setOwner_6 (c_X6_isDirectory hl0 (x := d)) (by decide) (by decide) rfl rfl (Nat.le_of_ble_eq_true rfl) (by omega) (by omega) (fun v μ h => ?_) (fun _ _ h => h.elim)
  rcases h with ⟨h_d, rfl, rfl⟩ | ⟨d, h_d, rfl, b_d, rfl, rfl⟩
  · dsimp only
    refine v_if_neN (tgt := 18) hC dX6_setOwner_9 (by decide) (by decide) (fun c_9 => absurd c_9 (by decide)) (fun c_9 => ?_)
    refine v_aload_n hC dX6_setOwner_12 rfl ?_
    refine v_iconst (v := nI 1) hC dX6_setOwner_13 (by decide) ?_
    refine v_callV_r0 hC lk_X6_96 dX6_setOwner_14 (c_X6_fails hl0 hQ 1) (by decide) (by decide) hQ.k30 rfl rfl rfl rfl (Nat.le_of_ble_eq_true rfl) (by omega) (by omega) ?_
    refine v_iret hC hM dX6_setOwner_17 (by omega) (by omega) ?_
    exact .inl ⟨1, by simp [k6_setOwner, gM, gU, gS, h_d], rfl, rfl⟩
  · dsimp only
    refine v_if_neN (tgt := 18) hC dX6_setOwner_9 (by decide) (by decide) (fun c_9 => ?_) (fun c_9 => absurd c_9 (by decide))
    refine v_iload_n hC dX6_setOwner_18 rfl ?_
    refine v_callS hC lk_X6_100 dX6_setOwner_19 (c_X6_isPerson hl0 (x := o)) (by decide) (by decide) rfl rfl (Nat.le_of_ble_eq_true rfl) (by omega) (by omega) (fun v μ h => ?_) (fun _ _ h => h.elim)
    rcases h with ⟨h_o, rfl, rfl⟩ | ⟨o, h_o, rfl, b_o, rfl, rfl⟩
    · dsimp only
      refine v_if_eqN (tgt := 37) hC dX6_setOwner_22 (by decide) (by decide) (fun c_22 => ?_) (fun c_22 => absurd c_22 (by decide))
      refine v_aload_n hC dX6_setOwner_37 rfl ?_
      refine v_iconst (v := nI 2) hC dX6_setOwner_38 (by decide) ?_
      refine v_callV_r0 hC lk_X6_96 dX6_setOwner_39 (c_X6_fails hl0 hQ 2) (by decide) (by decide) hQ.k30 rfl rfl rfl rfl (Nat.le_of_ble_eq_true rfl) (by omega) (by omega) ?_
      refine v_iret hC hM dX6_setOwner_42 (by omega) (by omega) ?_
      exact .inl ⟨2, by simp [k6_setOwner, gM, gU, gS, h_d, h_o], rfl, rfl⟩
    · dsimp only
      refine v_if_eqN (tgt := 37) hC dX6_setOwner_22 (by decide) (by decide) (fun c_22 => absurd c_22 (by decide)) (fun c_22 => ?_)
      refine v_iload_n hC dX6_setOwner_25 rfl ?_
      refine v_callS hC lk_X6_100 dX6_setOwner_26 (c_X6_isPerson hl0 (x := s)) (by decide) (by decide) rfl rfl (Nat.le_of_ble_eq_true rfl) (by omega) (by omega) (fun v μ h => ?_) (fun _ _ h => h.elim)
      rcases h with ⟨h_s, rfl, rfl⟩ | ⟨s, h_s, rfl, b_s, rfl, rfl⟩
      · dsimp only
        refine v_if_eqN (tgt := 37) hC dX6_setOwner_29 (by decide) (by decide) (fun c_29 => ?_) (fun c_29 => absurd c_29 (by decide))
        refine v_aload_n hC dX6_setOwner_37 rfl ?_
        refine v_iconst (v := nI 2) hC dX6_setOwner_38 (by decide) ?_
        refine v_callV_r0 hC lk_X6_96 dX6_setOwner_39 (c_X6_fails hl0 hQ 2) (by decide) (by decide) hQ.k30 rfl rfl rfl rfl (Nat.le_of_ble_eq_true rfl) (by omega) (by omega) ?_
        refine v_iret hC hM dX6_setOwner_42 (by omega) (by omega) ?_
        exact .inl ⟨2, by simp [k6_setOwner, gM, gU, gS, h_d, h_o, h_s], rfl, rfl⟩
      · dsimp only
        refine v_if_eqN (tgt := 37) hC dX6_setOwner_29 (by decide) (by decide) (fun c_29 => absurd c_29 (by decide)) (fun c_29 => ?_)
        refine v_iload_n hC dX6_setOwner_32 rfl ?_
        refine v_iload_n hC dX6_setOwner_33 rfl ?_
        refine v_icmp_neN (tgt := 43) hC dX6_setOwner_34 (by decide) (by first | omega | exact hB _ _ _ _ rfl | exact hB.i _ _ _ _ rfl | assumption | exact b2n_31 _) (by first | omega | exact hB _ _ _ _ rfl | exact hB.i _ _ _ _ rfl | assumption | exact b2n_31 _) (fun c_34 => ?_) (fun c_34 => ?_)
        · refine v_aload_n hC dX6_setOwner_43 rfl ?_
          refine gf_X6_34 hC dX6_setOwner_44 hQ ?_
          refine v_iload_n hC dX6_setOwner_47 rfl ?_
          refine al_36 hC dX6_setOwner_48 hQ (by first | omega | exact hB _ _ _ _ rfl | exact hB.i _ _ _ _ rfl | assumption | exact b2n_31 _) ?_
          refine v_istore hC dX6_setOwner_49 (by decide) ?_
          refine v_aload_n hC dX6_setOwner_51 rfl ?_
          refine gf_X6_34 hC dX6_setOwner_52 hQ ?_
          refine v_iload_n hC dX6_setOwner_55 rfl ?_
          refine v_iload_n hC dX6_setOwner_56 rfl ?_
          refine as_36 hC dX6_setOwner_57 hQ (by first | omega | exact hB _ _ _ _ rfl | exact hB.i _ _ _ _ rfl | assumption | exact b2n_31 _) ?_
          refine v_aload_n hC dX6_setOwner_58 rfl ?_
          refine gf_X6_37 hC dX6_setOwner_59 hQ ?_
          refine v_iload_n hC dX6_setOwner_62 rfl ?_
          refine v_iload_n hC dX6_setOwner_63 rfl ?_
          refine as_37 hC dX6_setOwner_64 hQ (by first | omega | exact hB _ _ _ _ rfl | exact hB.i _ _ _ _ rfl | assumption | exact b2n_31 _) ?_
          refine v_iload hC dX6_setOwner_65 rfl ?_
          refine v_iret hC hM dX6_setOwner_67 (by omega) (by omega) ?_
          exact .inr ⟨_, _, by simp [k6_setOwner, gM, gU, gS, h_d, h_o, h_s, c_34], rfl, rfl⟩
        · refine v_aload_n hC dX6_setOwner_37 rfl ?_
          refine v_iconst (v := nI 2) hC dX6_setOwner_38 (by decide) ?_
          refine v_callV_r0 hC lk_X6_96 dX6_setOwner_39 (c_X6_fails hl0 hQ 2) (by decide) (by decide) hQ.k30 rfl rfl rfl rfl (Nat.le_of_ble_eq_true rfl) (by omega) (by omega) ?_
          refine v_iret hC hM dX6_setOwner_42 (by omega) (by omega) ?_
          exact .inl ⟨2, by simp [k6_setOwner, gM, gU, gS, h_d, h_o, h_s, c_34], rfl, rfl⟩

def k6_setAway (σ : SG) (p : Int32) (b : Nat) : OM := gM p 6 1 fun p => .inr (σ 39 0 0 p, up σ 39 0 0 p b)
set_option maxHeartbeats 4000000 in
set_option maxRecDepth 100000 in
theorem c_X6_setAway {l : Launch} (hl0 : l.stackTraces = false) {G : GT} {ok : KF} {ad : AD} {σ : SG} (hQ : OKM ok) (hB : BD σ) (p : Int32) {b : Nat} (hb : b < 2) : Ct l G 3 yX6_setAway cX6_setAway 4 (some .boolean) [.ref (ad 30 0 0), .int p, iv b] ok ad σ (mV (k6_setAway (th σ 0) p b) ok ad (th σ 0)) (NX) 0 0 := by
  refine Ct.mk (by decide +kernel) hl0 (Nat.le_of_ble_eq_true rfl) (fun X hX hC hM => ?_)
  subst hX
  refine v_aload_n hC dX6_setAway_0 rfl ?_
  refine v_iconst (v := nI 0) hC dX6_setAway_1 (by decide) ?_
  refine pf_X6_1 hC dX6_setAway_2 hQ ?_
  show V X G _ _ ok ad (th σ 0) _ _ _
  have hB : BD (th σ 0) := th_BD hB (by decide)
  have h0 : th σ 0 30 0 0 0 = 0 := up_same _ _ _ _ _ _
  generalize th σ 0 = σ at *
  refine v_iload_n hC dX6_setAway_5 rfl ?_
  refine v_callS hC lk_X6_100 dX6_setAway_6 (c_X6_isPerson hl0 (x := p)) (by decide) (by decide) rfl rfl (Nat.le_of_ble_eq_true rfl) (by omega) (by omega) (fun v μ h => ?_) (fun _ _ h => h.elim)
  rcases h with ⟨h_p, rfl, rfl⟩ | ⟨p, h_p, rfl, b_p, rfl, rfl⟩
  · dsimp only
    refine v_if_neN (tgt := 18) hC dX6_setAway_9 (by decide) (by decide) (fun c_9 => absurd c_9 (by decide)) (fun c_9 => ?_)
    refine v_aload_n hC dX6_setAway_12 rfl ?_
    refine v_iconst (v := nI 1) hC dX6_setAway_13 (by decide) ?_
    refine v_callV_r0 hC lk_X6_103 dX6_setAway_14 (c_X6_isWrong hl0 hQ 1) (by decide) (by decide) hQ.k30 rfl rfl rfl rfl (Nat.le_of_ble_eq_true rfl) (by omega) (by omega) ?_
    refine v_zret hC hM dX6_setAway_17 (by first | exact nar_z (hB 39 0 0 _ rfl) | exact nar_z b_of0) (by omega) (by omega) ?_
    exact .inl ⟨1, by simp [k6_setAway, gM, gU, gS, h_p], rfl, rfl⟩
  · dsimp only
    refine v_if_neN (tgt := 18) hC dX6_setAway_9 (by decide) (by decide) (fun c_9 => ?_) (fun c_9 => absurd c_9 (by decide))
    refine v_aload_n hC dX6_setAway_18 rfl ?_
    refine gf_X6_43 hC dX6_setAway_19 hQ ?_
    refine v_iload_n hC dX6_setAway_22 rfl ?_
    refine al_39 hC dX6_setAway_23 hQ (by first | omega | exact hB _ _ _ _ rfl | exact hB.i _ _ _ _ rfl | assumption | exact b2n_31 _) ?_
    refine v_istore_n hC dX6_setAway_24 (by decide) ?_
    refine v_aload_n hC dX6_setAway_25 rfl ?_
    refine gf_X6_43 hC dX6_setAway_26 hQ ?_
    refine v_iload_n hC dX6_setAway_29 rfl ?_
    refine v_iload_n hC dX6_setAway_30 rfl ?_
    refine as_39 hC dX6_setAway_31 hQ (by first | omega | exact hB _ _ _ _ rfl | exact hB.i _ _ _ _ rfl | assumption | exact b2n_31 _) (by first | omega | exact hB _ _ _ _ rfl | exact hB.i _ _ _ _ rfl | assumption | exact b2n_31 _) ?_
    refine v_iload_n hC dX6_setAway_32 rfl ?_
    refine v_zret hC hM dX6_setAway_33 (by first | exact nar_z (hB 39 0 0 _ rfl) | exact nar_z b_of0) (by omega) (by omega) ?_
    exact .inr ⟨_, _, by simp [k6_setAway, gM, gU, gS, h_p], rfl, rfl⟩

def k6_setFrozen (σ : SG) (d : Int32) (b : Nat) : OM := gM d 4 1 fun d => .inr (σ 38 0 0 d, up σ 38 0 0 d b)
set_option maxHeartbeats 4000000 in
set_option maxRecDepth 100000 in
theorem c_X6_setFrozen {l : Launch} (hl0 : l.stackTraces = false) {G : GT} {ok : KF} {ad : AD} {σ : SG} (hQ : OKM ok) (hB : BD σ) (d : Int32) {b : Nat} (hb : b < 2) : Ct l G 3 yX6_setFrozen cX6_setFrozen 4 (some .boolean) [.ref (ad 30 0 0), .int d, iv b] ok ad σ (mV (k6_setFrozen (th σ 0) d b) ok ad (th σ 0)) (NX) 0 0 := by
  refine Ct.mk (by decide +kernel) hl0 (Nat.le_of_ble_eq_true rfl) (fun X hX hC hM => ?_)
  subst hX
  refine v_aload_n hC dX6_setFrozen_0 rfl ?_
  refine v_iconst (v := nI 0) hC dX6_setFrozen_1 (by decide) ?_
  refine pf_X6_1 hC dX6_setFrozen_2 hQ ?_
  show V X G _ _ ok ad (th σ 0) _ _ _
  have hB : BD (th σ 0) := th_BD hB (by decide)
  have h0 : th σ 0 30 0 0 0 = 0 := up_same _ _ _ _ _ _
  generalize th σ 0 = σ at *
  refine v_iload_n hC dX6_setFrozen_5 rfl ?_
  refine v_callS hC lk_X6_92 dX6_setFrozen_6 (c_X6_isDirectory hl0 (x := d)) (by decide) (by decide) rfl rfl (Nat.le_of_ble_eq_true rfl) (by omega) (by omega) (fun v μ h => ?_) (fun _ _ h => h.elim)
  rcases h with ⟨h_d, rfl, rfl⟩ | ⟨d, h_d, rfl, b_d, rfl, rfl⟩
  · dsimp only
    refine v_if_neN (tgt := 18) hC dX6_setFrozen_9 (by decide) (by decide) (fun c_9 => absurd c_9 (by decide)) (fun c_9 => ?_)
    refine v_aload_n hC dX6_setFrozen_12 rfl ?_
    refine v_iconst (v := nI 1) hC dX6_setFrozen_13 (by decide) ?_
    refine v_callV_r0 hC lk_X6_103 dX6_setFrozen_14 (c_X6_isWrong hl0 hQ 1) (by decide) (by decide) hQ.k30 rfl rfl rfl rfl (Nat.le_of_ble_eq_true rfl) (by omega) (by omega) ?_
    refine v_zret hC hM dX6_setFrozen_17 (by first | exact nar_z (hB 38 0 0 _ rfl) | exact nar_z b_of0) (by omega) (by omega) ?_
    exact .inl ⟨1, by simp [k6_setFrozen, gM, gU, gS, h_d], rfl, rfl⟩
  · dsimp only
    refine v_if_neN (tgt := 18) hC dX6_setFrozen_9 (by decide) (by decide) (fun c_9 => ?_) (fun c_9 => absurd c_9 (by decide))
    refine v_aload_n hC dX6_setFrozen_18 rfl ?_
    refine gf_X6_40 hC dX6_setFrozen_19 hQ ?_
    refine v_iload_n hC dX6_setFrozen_22 rfl ?_
    refine al_38 hC dX6_setFrozen_23 hQ (by first | omega | exact hB _ _ _ _ rfl | exact hB.i _ _ _ _ rfl | assumption | exact b2n_31 _) ?_
    refine v_istore_n hC dX6_setFrozen_24 (by decide) ?_
    refine v_aload_n hC dX6_setFrozen_25 rfl ?_
    refine gf_X6_40 hC dX6_setFrozen_26 hQ ?_
    refine v_iload_n hC dX6_setFrozen_29 rfl ?_
    refine v_iload_n hC dX6_setFrozen_30 rfl ?_
    refine as_38 hC dX6_setFrozen_31 hQ (by first | omega | exact hB _ _ _ _ rfl | exact hB.i _ _ _ _ rfl | assumption | exact b2n_31 _) (by first | omega | exact hB _ _ _ _ rfl | exact hB.i _ _ _ _ rfl | assumption | exact b2n_31 _) ?_
    refine v_iload_n hC dX6_setFrozen_32 rfl ?_
    refine v_zret hC hM dX6_setFrozen_33 (by first | exact nar_z (hB 38 0 0 _ rfl) | exact nar_z b_of0) (by omega) (by omega) ?_
    exact .inr ⟨_, _, by simp [k6_setFrozen, gM, gU, gS, h_d], rfl, rfl⟩

/-- a change opened: its author and state, then its edits, then its votes -/
def op0 (σ : SG) (a : Nat) : SG := up (up σ 49 0 0 (σ 30 0 0 2) a) 52 0 0 (σ 30 0 0 2) 111
def op1 (σ : SG) (a n : Nat) : SG := upr (op0 σ a) 41 (σ 30 0 0 2) 0 (fun x => if x < n then 0 else σ 41 (σ 30 0 0 2) 0 x)
def op2 (σ : SG) (a n : Nat) : SG := upr (op1 σ a 64) 45 (σ 30 0 0 2) 0 (fun x => if x < n then 45 else σ 45 (σ 30 0 0 2) 0 x)
def opS (σ : SG) (a : Nat) : SG := up (op2 σ a 6) 30 0 0 2 (σ 30 0 0 2 + 1)
theorem op1_2 (σ : SG) (a n : Nat) : op1 σ a n 30 0 0 2 = σ 30 0 0 2 := by
  unfold op1 op0
  rw [upr_k (by decide), up_k (by decide), up_k (by decide)]
theorem op2_2 (σ : SG) (a n : Nat) : op2 σ a n 30 0 0 2 = σ 30 0 0 2 := by
  unfold op2
  rw [upr_k (by decide)]
  exact op1_2 σ a 64
theorem op1_0 (σ : SG) (a : Nat) : op1 σ a 0 = op0 σ a := by
  unfold op1
  have : (fun x => if x < 0 then 0 else σ 41 (σ 30 0 0 2) 0 x) = op0 σ a 41 (σ 30 0 0 2) 0 := by
    funext x
    rw [if_neg (by omega)]
    unfold op0
    rw [up_k (by decide), up_k (by decide)]
  rw [this]
  exact upr_id _ _ _ _
theorem op2_0 (σ : SG) (a : Nat) : op2 σ a 0 = op1 σ a 64 := by
  unfold op2
  have : (fun x => if x < 0 then 45 else σ 45 (σ 30 0 0 2) 0 x) = op1 σ a 64 45 (σ 30 0 0 2) 0 := by
    funext x
    rw [if_neg (by omega)]
    unfold op1 op0
    rw [upr_k (by decide), up_k (by decide), up_k (by decide)]
  rw [this]
  exact upr_id _ _ _ _
theorem op1_s (σ : SG) (a n : Nat) : op1 σ a (n + 1) = up (op1 σ a n) 41 (σ 30 0 0 2) 0 n 0 := by
  unfold op1
  rw [upr_up]
  congr 1
  funext x
  by_cases e : x = n
  · rw [if_pos e, if_pos (by omega)]
  · rw [if_neg e]
    have : (x < n + 1) ↔ (x < n) := by omega
    simp only [this]
theorem op2_s (σ : SG) (a n : Nat) : op2 σ a (n + 1) = up (op2 σ a n) 45 (σ 30 0 0 2) 0 n 45 := by
  unfold op2
  rw [upr_up]
  congr 1
  funext x
  by_cases e : x = n
  · rw [if_pos e, if_pos (by omega)]
  · rw [if_neg e]
    have : (x < n + 1) ↔ (x < n) := by omega
    simp only [this]
def k6_open (σ : SG) (a : Int32) : OM := gM a 6 1 fun a => if σ 30 0 0 2 = 16 then .inl 2 else .inr (σ 30 0 0 2, opS σ a)
set_option maxHeartbeats 4000000 in
set_option maxRecDepth 100000 in
theorem c_X6_open {l : Launch} (hl0 : l.stackTraces = false) {G : GT} {ok : KF} {ad : AD} {σ : SG} (hQ : OKM ok) (hB : BD σ) (a : Int32) : Ct l G 3 yX6_open cX6_open 3 (some .int) [.ref (ad 30 0 0), .int a] ok ad σ (mV (k6_open (th σ 0) a) ok ad (th σ 0)) (NX) 0 0 := by
  refine Ct.mk (by decide +kernel) hl0 (Nat.le_of_ble_eq_true rfl) (fun X hX hC hM => ?_)
  subst hX
  refine v_aload_n hC dX6_open_0 rfl ?_
  refine v_iconst (v := nI 0) hC dX6_open_1 (by decide) ?_
  refine pf_X6_1 hC dX6_open_2 hQ ?_
  show V X G _ _ ok ad (th σ 0) _ _ _
  have hB : BD (th σ 0) := th_BD hB (by decide)
  have h0 : th σ 0 30 0 0 0 = 0 := up_same _ _ _ _ _ _
  generalize th σ 0 = σ at *
  have hn17 : σ 30 0 0 2 < 17 := hB 30 0 0 2 rfl
  refine v_iload_n hC dX6_open_5 rfl ?_
  refine v_callS hC lk_X6_100 dX6_open_6 (c_X6_isPerson hl0 (x := a)) (by decide) (by decide) rfl rfl (Nat.le_of_ble_eq_true rfl) (by omega) (by omega) (fun v μ h => ?_) (fun _ _ h => h.elim)
  rcases h with ⟨h_a, rfl, rfl⟩ | ⟨a, h_a, rfl, b_a, rfl, rfl⟩
  · dsimp only
    refine v_if_neN (tgt := 18) hC dX6_open_9 (by decide) (by decide) (fun c_9 => absurd c_9 (by decide)) (fun c_9 => ?_)
    refine v_aload_n hC dX6_open_12 rfl ?_
    refine v_iconst (v := nI 1) hC dX6_open_13 (by decide) ?_
    refine v_callV_r0 hC lk_X6_96 dX6_open_14 (c_X6_fails hl0 hQ 1) (by decide) (by decide) hQ.k30 rfl rfl rfl rfl (Nat.le_of_ble_eq_true rfl) (by omega) (by omega) ?_
    refine v_iret hC hM dX6_open_17 (by omega) (by omega) ?_
    exact .inl ⟨1, by simp [k6_open, gM, gU, gS, h_a], rfl, rfl⟩
  · dsimp only
    refine v_if_neN (tgt := 18) hC dX6_open_9 (by decide) (by decide) (fun c_9 => ?_) (fun c_9 => absurd c_9 (by decide))
    refine v_aload_n hC dX6_open_18 rfl ?_
    refine gf_X6_89 hC dX6_open_19 hQ ?_
    refine v_bipush (v := nI 16) hC dX6_open_22 (by decide) ?_
    refine v_icmp_neN (tgt := 33) hC dX6_open_24 (by decide) (by first | omega | exact hB _ _ _ _ rfl | exact hB.i _ _ _ _ rfl | assumption | exact b2n_31 _) (by first | omega | exact hB _ _ _ _ rfl | exact hB.i _ _ _ _ rfl | assumption | exact b2n_31 _) (fun c_24 => ?_) (fun c_24 => ?_)
    · have hc16 : σ 30 0 0 2 < 16 := by omega
      refine v_aload_n hC dX6_open_33 rfl ?_
      refine gf_X6_66 hC dX6_open_34 hQ ?_
      refine v_aload_n hC dX6_open_37 rfl ?_
      refine gf_X6_89 hC dX6_open_38 hQ ?_
      refine v_iload_n hC dX6_open_41 rfl ?_
      refine as_49 hC dX6_open_42 hQ (by first | omega | exact hB _ _ _ _ rfl | exact hB.i _ _ _ _ rfl | assumption | exact b2n_31 _) ?_
      refine v_aload_n hC dX6_open_43 rfl ?_
      refine gf_X6_75 hC dX6_open_44 hQ ?_
      refine v_aload_n hC dX6_open_47 rfl ?_
      refine gf_X6_89 hC dX6_open_48 hQ ?_
      rw [show up σ 49 0 0 (σ 30 0 0 2) a 30 0 0 2 = σ 30 0 0 2 from up_k (by decide)]
      refine v_bipush (v := nI 111) hC dX6_open_51 (by decide) ?_
      refine as_52 hC dX6_open_53 hQ (by first | omega | exact hB _ _ _ _ rfl | exact hB.i _ _ _ _ rfl | assumption | exact b2n_31 _) (by first | omega | exact hB _ _ _ _ rfl | exact hB.i _ _ _ _ rfl | assumption | exact b2n_31 _) ?_
      refine v_sg (σ1 := op0 σ a) (fun _ _ _ _ => rfl) ?_
      refine v_iconst (v := nI 0) hC dX6_open_54 (by decide) ?_
      refine v_istore_n hC dX6_open_55 (by decide) ?_
      have second : V X G 0 0 ok ad (op1 σ a 64) [(0, .ref (ad 30 0 0)), (1, iv a)] 80 [] := by
        refine v_iconst (v := nI 0) hC dX6_open_80 (by decide) ?_
        refine v_istore_n hC dX6_open_81 (by decide) ?_
        have key2 : ∀ p, p ≤ 6 → V X G 0 0 ok ad (op2 σ a p) [(0, .ref (ad 30 0 0)), (1, iv a), (2, iv p)] 82 [] := by
          refine down (6) ?_ ?_
          · refine v_iload_n hC dX6_open_82 rfl ?_
            refine v_bipush (v := nI 6) hC dX6_open_83 (by decide) ?_
            refine v_icmp_geN (tgt := 107) hC dX6_open_85 (by decide) (by first | omega | exact hB _ _ _ _ rfl | exact hB.i _ _ _ _ rfl | assumption | exact b2n_31 _) (by first | omega | exact hB _ _ _ _ rfl | exact hB.i _ _ _ _ rfl | assumption | exact b2n_31 _) (fun c_85 => ?_) (fun c_85 => ?_)
            · refine v_aload_n hC dX6_open_107 rfl ?_
              refine v_dup hC dX6_open_108 rfl ?_
              refine gf_X6_89 hC dX6_open_109 hQ ?_
              rw [op2_2]
              refine v_iconst (v := nI 1) hC dX6_open_112 (by decide) ?_
              refine v_iaddN hC dX6_open_113 ?_
              refine pf_X6_89 hC dX6_open_114 hQ ?_
              refine v_aload_n hC dX6_open_117 rfl ?_
              refine gf_X6_89 hC dX6_open_118 hQ ?_
              rw [up_same]
              refine v_iconst (v := nI 1) hC dX6_open_121 (by decide) ?_
              refine v_isubN hC dX6_open_122 (by first | omega | exact hB _ _ _ _ rfl | exact hB.i _ _ _ _ rfl | assumption | exact b2n_31 _) ?_
              refine v_iret hC hM dX6_open_123 (by omega) (by omega) ?_
              exact .inr ⟨σ 30 0 0 2, opS σ a, by simp [k6_open, gM, h_a, c_24], by rw [Nat.add_sub_cancel], rfl⟩
            · exact absurd c_85 (by omega)
          · intro p hp ih 
            refine v_iload_n hC dX6_open_82 rfl ?_
            refine v_bipush (v := nI 6) hC dX6_open_83 (by decide) ?_
            refine v_icmp_geN (tgt := 107) hC dX6_open_85 (by decide) (by first | omega | exact hB _ _ _ _ rfl | exact hB.i _ _ _ _ rfl | assumption | exact b2n_31 _) (by first | omega | exact hB _ _ _ _ rfl | exact hB.i _ _ _ _ rfl | assumption | exact b2n_31 _) (fun c_85 => ?_) (fun c_85 => ?_)
            · exact absurd c_85 (by omega)
            · refine v_aload_n hC dX6_open_88 rfl ?_
              refine gf_X6_58 hC dX6_open_89 hQ ?_
              refine v_aload_n hC dX6_open_92 rfl ?_
              refine gf_X6_89 hC dX6_open_93 hQ ?_
              rw [op2_2]
              refine al_44 hC dX6_open_96 hQ hc16 ?_
              refine v_iload_n hC dX6_open_97 rfl ?_
              refine v_bipush (v := nI 45) hC dX6_open_98 (by decide) ?_
              refine as_45 hC dX6_open_100 hQ hc16 (by omega) (by decide) ?_
              rw [← op2_s]
              refine v_iincN hC dX6_open_101 rfl (by decide) ?_
              refine v_goto (tgt := 82) hC dX6_open_104 (by decide) ?_
              exact v_sub rfl ih
        have k2 := key2 0 (Nat.zero_le _)
        rw [op2_0] at k2
        exact v_sub rfl k2
      have key : ∀ p, p ≤ 64 → V X G 0 0 ok ad (op1 σ a p) [(0, .ref (ad 30 0 0)), (1, iv a), (2, iv p)] 56 [] := by
        refine down (64) ?_ ?_
        · refine v_iload_n hC dX6_open_56 rfl ?_
          refine v_bipush (v := nI 64) hC dX6_open_57 (by decide) ?_
          refine v_icmp_geN (tgt := 80) hC dX6_open_59 (by decide) (by first | omega | exact hB _ _ _ _ rfl | exact hB.i _ _ _ _ rfl | assumption | exact b2n_31 _) (by first | omega | exact hB _ _ _ _ rfl | exact hB.i _ _ _ _ rfl | assumption | exact b2n_31 _) (fun c_59 => ?_) (fun c_59 => ?_)
          · exact v_sub rfl second
          · exact absurd c_59 (by omega)
        · intro p hp ih 
          refine v_iload_n hC dX6_open_56 rfl ?_
          refine v_bipush (v := nI 64) hC dX6_open_57 (by decide) ?_
          refine v_icmp_geN (tgt := 80) hC dX6_open_59 (by decide) (by first | omega | exact hB _ _ _ _ rfl | exact hB.i _ _ _ _ rfl | assumption | exact b2n_31 _) (by first | omega | exact hB _ _ _ _ rfl | exact hB.i _ _ _ _ rfl | assumption | exact b2n_31 _) (fun c_59 => ?_) (fun c_59 => ?_)
          · exact absurd c_59 (by omega)
          · refine v_aload_n hC dX6_open_62 rfl ?_
            refine gf_X6_48 hC dX6_open_63 hQ ?_
            refine v_aload_n hC dX6_open_66 rfl ?_
            refine gf_X6_89 hC dX6_open_67 hQ ?_
            rw [op1_2]
            refine al_40 hC dX6_open_70 hQ hc16 ?_
            refine v_iload_n hC dX6_open_71 rfl ?_
            refine v_iconst (v := dm 0) hC dX6_open_72 (by decide) ?_
            refine as_41 hC dX6_open_73 hQ hc16 (by omega) ?_
            rw [← op1_s]
            refine v_iincN hC dX6_open_74 rfl (by decide) ?_
            refine v_goto (tgt := 56) hC dX6_open_77 (by decide) ?_
            exact v_sub rfl ih
      have k1 := key 0 (Nat.zero_le _)
      rw [op1_0] at k1
      exact v_sub rfl k1
    · refine v_aload_n hC dX6_open_27 rfl ?_
      refine v_iconst (v := nI 2) hC dX6_open_28 (by decide) ?_
      refine v_callV_r0 hC lk_X6_96 dX6_open_29 (c_X6_fails hl0 hQ 2) (by decide) (by decide) hQ.k30 rfl rfl rfl rfl (Nat.le_of_ble_eq_true rfl) (by omega) (by omega) ?_
      refine v_iret hC hM dX6_open_32 (by omega) (by omega) ?_
      exact .inl ⟨2, by simp [k6_open, gM, gU, gS, h_a, c_24], rfl, rfl⟩

def med (σ : SG) (c p v : Nat) : SG := up σ 41 c 0 p v
def k6_edit (σ : SG) (c f s v : Int32) : OM := gM c (σ 30 0 0 2) 1 fun c => gS f s 2 fun f s => gM v 100 3 fun v => if σ 52 0 0 c ≠ 111 then .inl 4 else .inr (emy (med σ c (4 * f + s) (v + 1)) c 64, med σ c (4 * f + s) (v + 1))
set_option maxHeartbeats 4000000 in
set_option maxRecDepth 100000 in
theorem c_X6_edit {l : Launch} (hl0 : l.stackTraces = false) {G : GT} {ok : KF} {ad : AD} {σ : SG} (hQ : OKM ok) (hB : BD σ) (c : Int32) (f : Int32) (s : Int32) (v : Int32) : Ct l G 3 yX6_edit cX6_edit 5 (some .int) [.ref (ad 30 0 0), .int c, .int f, .int s, .int v] ok ad σ (mV (k6_edit (th σ 0) c f s v) ok ad (th σ 0)) (NX) 0 0 := by
  refine Ct.mk (by decide +kernel) hl0 (Nat.le_of_ble_eq_true rfl) (fun X hX hC hM => ?_)
  subst hX
  refine v_aload_n hC dX6_edit_0 rfl ?_
  refine v_iconst (v := nI 0) hC dX6_edit_1 (by decide) ?_
  refine pf_X6_1 hC dX6_edit_2 hQ ?_
  show V X G _ _ ok ad (th σ 0) _ _ _
  have hB : BD (th σ 0) := th_BD hB (by decide)
  have h0 : th σ 0 30 0 0 0 = 0 := up_same _ _ _ _ _ _
  generalize th σ 0 = σ at *
  refine v_aload_n hC dX6_edit_5 rfl ?_
  refine v_iload_n hC dX6_edit_6 rfl ?_
  refine v_callV hC lk_X6_106 dX6_edit_7 (c_X6_isChange hl0 hQ hB (x := c)) (by decide) (by decide) hQ.k30 rfl rfl rfl rfl (Nat.le_of_ble_eq_true rfl) (by omega) (by omega) (fun v μ h => ?_) (fun _ _ h => h.elim)
  rcases h with ⟨h_c, rfl, rfl⟩ | ⟨c, h_c, rfl, b_c, rfl, rfl⟩
  · dsimp only
    refine v_if_neN (tgt := 19) hC dX6_edit_10 (by decide) (by decide) (fun c_10 => absurd c_10 (by decide)) (fun c_10 => ?_)
    refine v_aload_n hC dX6_edit_13 rfl ?_
    refine v_iconst (v := nI 1) hC dX6_edit_14 (by decide) ?_
    refine v_callV_r0 hC lk_X6_96 dX6_edit_15 (c_X6_fails hl0 hQ 1) (by decide) (by decide) hQ.k30 rfl rfl rfl rfl (Nat.le_of_ble_eq_true rfl) (by omega) (by omega) ?_
    refine v_iret hC hM dX6_edit_18 (by omega) (by omega) ?_
    exact .inl ⟨1, by simp [k6_edit, gM, gU, gS, med, h_c], rfl, rfl⟩
  · dsimp only
    have b2_c : c < 16 := by
      have hn17 : σ 30 0 0 2 < 17 := hB 30 0 0 2 rfl
      omega
    refine v_if_neN (tgt := 19) hC dX6_edit_10 (by decide) (by decide) (fun c_10 => ?_) (fun c_10 => absurd c_10 (by decide))
    refine v_iload_n hC dX6_edit_19 rfl ?_
    refine v_iload_n hC dX6_edit_20 rfl ?_
    refine v_callS hC lk_X6_109 dX6_edit_21 (c_X6_isSpan hl0 (x := f) (y := s)) (by decide) (by decide) rfl rfl (Nat.le_of_ble_eq_true rfl) (by omega) (by omega) (fun v μ h => ?_) (fun _ _ h => h.elim)
    rcases h with ⟨hor_21 | hor_21, rfl, rfl⟩ | ⟨f, s, h_f, h_s, rfl, rfl, b_f, b_s, rfl, rfl⟩
    · dsimp only
      have h_f := hor_21
      refine v_if_neN (tgt := 33) hC dX6_edit_24 (by decide) (by decide) (fun c_24 => absurd c_24 (by decide)) (fun c_24 => ?_)
      refine v_aload_n hC dX6_edit_27 rfl ?_
      refine v_iconst (v := nI 2) hC dX6_edit_28 (by decide) ?_
      refine v_callV_r0 hC lk_X6_96 dX6_edit_29 (c_X6_fails hl0 hQ 2) (by decide) (by decide) hQ.k30 rfl rfl rfl rfl (Nat.le_of_ble_eq_true rfl) (by omega) (by omega) ?_
      refine v_iret hC hM dX6_edit_32 (by omega) (by omega) ?_
      exact .inl ⟨2, by simp [k6_edit, gM, gU, gS, med, h_c, h_f], rfl, rfl⟩
    · dsimp only
      have h_s := hor_21
      cases h_f : inR f 16
      · skip
        refine v_if_neN (tgt := 33) hC dX6_edit_24 (by decide) (by decide) (fun c_24 => absurd c_24 (by decide)) (fun c_24 => ?_)
        refine v_aload_n hC dX6_edit_27 rfl ?_
        refine v_iconst (v := nI 2) hC dX6_edit_28 (by decide) ?_
        refine v_callV_r0 hC lk_X6_96 dX6_edit_29 (c_X6_fails hl0 hQ 2) (by decide) (by decide) hQ.k30 rfl rfl rfl rfl (Nat.le_of_ble_eq_true rfl) (by omega) (by omega) ?_
        refine v_iret hC hM dX6_edit_32 (by omega) (by omega) ?_
        exact .inl ⟨2, by simp [k6_edit, gM, gU, gS, med, h_c, h_s, h_f], rfl, rfl⟩
      · skip
        refine v_if_neN (tgt := 33) hC dX6_edit_24 (by decide) (by decide) (fun c_24 => absurd c_24 (by decide)) (fun c_24 => ?_)
        refine v_aload_n hC dX6_edit_27 rfl ?_
        refine v_iconst (v := nI 2) hC dX6_edit_28 (by decide) ?_
        refine v_callV_r0 hC lk_X6_96 dX6_edit_29 (c_X6_fails hl0 hQ 2) (by decide) (by decide) hQ.k30 rfl rfl rfl rfl (Nat.le_of_ble_eq_true rfl) (by omega) (by omega) ?_
        refine v_iret hC hM dX6_edit_32 (by omega) (by omega) ?_
        exact .inl ⟨2, by simp [k6_edit, gM, gU, gS, med, h_c, h_s, h_f], rfl, rfl⟩
    · dsimp only
      refine v_if_neN (tgt := 33) hC dX6_edit_24 (by decide) (by decide) (fun c_24 => ?_) (fun c_24 => absurd c_24 (by decide))
      refine v_iload hC dX6_edit_33 rfl ?_
      refine v_iconst (v := nI 0) hC dX6_edit_35 (by decide) ?_
      refine v_bipush (v := nI 99) hC dX6_edit_36 (by decide) ?_
      refine v_callS hC lk_X6_7 dX6_edit_38 (c_X6_isBetween hl0 (x := v) (n := 100) (by decide)) (by decide) (by decide) rfl rfl (Nat.le_of_ble_eq_true rfl) (by omega) (by omega) (fun v μ h => ?_) (fun _ _ h => h.elim)
      rcases h with ⟨h_v, rfl, rfl⟩ | ⟨v, h_v, rfl, b_v, rfl, rfl⟩
      · dsimp only
        refine v_if_neN (tgt := 50) hC dX6_edit_41 (by decide) (by decide) (fun c_41 => absurd c_41 (by decide)) (fun c_41 => ?_)
        refine v_aload_n hC dX6_edit_44 rfl ?_
        refine v_iconst (v := nI 3) hC dX6_edit_45 (by decide) ?_
        refine v_callV_r0 hC lk_X6_96 dX6_edit_46 (c_X6_fails hl0 hQ 3) (by decide) (by decide) hQ.k30 rfl rfl rfl rfl (Nat.le_of_ble_eq_true rfl) (by omega) (by omega) ?_
        refine v_iret hC hM dX6_edit_49 (by omega) (by omega) ?_
        exact .inl ⟨3, by simp [k6_edit, gM, gU, gS, med, h_c, h_f, h_s, h_v], rfl, rfl⟩
      · dsimp only
        refine v_if_neN (tgt := 50) hC dX6_edit_41 (by decide) (by decide) (fun c_41 => ?_) (fun c_41 => absurd c_41 (by decide))
        refine v_aload_n hC dX6_edit_50 rfl ?_
        refine gf_X6_75 hC dX6_edit_51 hQ ?_
        refine v_iload_n hC dX6_edit_54 rfl ?_
        refine al_52 hC dX6_edit_55 hQ (by first | omega | exact hB _ _ _ _ rfl | exact hB.i _ _ _ _ rfl | assumption | exact b2n_31 _ | exact Nat.lt_trans (hB 52 0 0 _ rfl) (show (65536 : Nat) < 2 ^ 31 by decide)) ?_
        refine v_bipush (v := nI 111) hC dX6_edit_56 (by decide) ?_
        refine v_icmp_eqN (tgt := 67) hC dX6_edit_58 (by decide) (by first | omega | exact hB _ _ _ _ rfl | exact hB.i _ _ _ _ rfl | assumption | exact b2n_31 _ | exact Nat.lt_trans (hB 52 0 0 _ rfl) (show (65536 : Nat) < 2 ^ 31 by decide)) (by first | omega | exact hB _ _ _ _ rfl | exact hB.i _ _ _ _ rfl | assumption | exact b2n_31 _ | exact Nat.lt_trans (hB 52 0 0 _ rfl) (show (65536 : Nat) < 2 ^ 31 by decide)) (fun c_58 => ?_) (fun c_58 => ?_)
        · refine v_aload_n hC dX6_edit_67 rfl ?_
          refine gf_X6_48 hC dX6_edit_68 hQ ?_
          refine v_iload_n hC dX6_edit_71 rfl ?_
          refine al_40 hC dX6_edit_72 hQ (by first | omega | exact hB _ _ _ _ rfl | exact hB.i _ _ _ _ rfl | assumption | exact b2n_31 _ | exact Nat.lt_trans (hB 52 0 0 _ rfl) (show (65536 : Nat) < 2 ^ 31 by decide)) ?_
          refine v_iconst (v := nI 4) hC dX6_edit_73 (by decide) ?_
          refine v_iload_n hC dX6_edit_74 rfl ?_
          refine v_imulN hC dX6_edit_75 ?_
          refine v_iload_n hC dX6_edit_76 rfl ?_
          refine v_iaddN hC dX6_edit_77 ?_
          refine v_iload hC dX6_edit_78 rfl ?_
          refine as_41 (v := v + 1) hC dX6_edit_80 hQ b2_c (by omega) ?_
          have hBm : BD (up σ 41 c 0 (4 * f + s) (v + 1)) := BD.put hB (show v + 1 < 101 by omega)
          refine v_aload_n hC dX6_edit_81 rfl ?_
          refine v_iload_n hC dX6_edit_82 rfl ?_
          refine v_callV_r0 hC lk_X6_113 dX6_edit_83 (c_X6_editMany hl0 hQ hBm b2_c) (by decide) (by decide) hQ.k30 rfl rfl rfl rfl (Nat.le_of_ble_eq_true rfl) (by omega) (by omega) ?_
          refine v_iret hC hM dX6_edit_86 (by omega) (by omega) ?_
          exact .inr ⟨_, _, by simp [k6_edit, gM, gU, gS, med, h_c, h_f, h_s, h_v, c_58], rfl, rfl⟩
        · refine v_aload_n hC dX6_edit_61 rfl ?_
          refine v_iconst (v := nI 4) hC dX6_edit_62 (by decide) ?_
          refine v_callV_r0 hC lk_X6_96 dX6_edit_63 (c_X6_fails hl0 hQ 4) (by decide) (by decide) hQ.k30 rfl rfl rfl rfl (Nat.le_of_ble_eq_true rfl) (by omega) (by omega) ?_
          refine v_iret hC hM dX6_edit_66 (by omega) (by omega) ?_
          exact .inl ⟨4, by simp [k6_edit, gM, gU, gS, med, h_c, h_f, h_s, h_v, c_58], rfl, rfl⟩

def mtk (σ : SG) (c p : Nat) : SG := up (up σ 41 c 0 p 0) 43 c 0 p 0
def k6_take (σ : SG) (c f s : Int32) : OM := gM c (σ 30 0 0 2) 1 fun c => gS f s 2 fun f s => if σ 52 0 0 c ≠ 111 then .inl 3 else if σ 41 c 0 (4 * f + s) = 0 then .inl 3 else .inr (emy (mtk σ c (4 * f + s)) c 64, mtk σ c (4 * f + s))
set_option maxHeartbeats 4000000 in
set_option maxRecDepth 100000 in
theorem c_X6_take {l : Launch} (hl0 : l.stackTraces = false) {G : GT} {ok : KF} {ad : AD} {σ : SG} (hQ : OKM ok) (hB : BD σ) (c : Int32) (f : Int32) (s : Int32) : Ct l G 3 yX6_take cX6_take 4 (some .int) [.ref (ad 30 0 0), .int c, .int f, .int s] ok ad σ (mV (k6_take (th σ 0) c f s) ok ad (th σ 0)) (NX) 0 0 := by
  refine Ct.mk (by decide +kernel) hl0 (Nat.le_of_ble_eq_true rfl) (fun X hX hC hM => ?_)
  subst hX
  refine v_aload_n hC dX6_take_0 rfl ?_
  refine v_iconst (v := nI 0) hC dX6_take_1 (by decide) ?_
  refine pf_X6_1 hC dX6_take_2 hQ ?_
  show V X G _ _ ok ad (th σ 0) _ _ _
  have hB : BD (th σ 0) := th_BD hB (by decide)
  have h0 : th σ 0 30 0 0 0 = 0 := up_same _ _ _ _ _ _
  generalize th σ 0 = σ at *
  refine v_aload_n hC dX6_take_5 rfl ?_
  refine v_iload_n hC dX6_take_6 rfl ?_
  refine v_callV hC lk_X6_106 dX6_take_7 (c_X6_isChange hl0 hQ hB (x := c)) (by decide) (by decide) hQ.k30 rfl rfl rfl rfl (Nat.le_of_ble_eq_true rfl) (by omega) (by omega) (fun v μ h => ?_) (fun _ _ h => h.elim)
  rcases h with ⟨h_c, rfl, rfl⟩ | ⟨c, h_c, rfl, b_c, rfl, rfl⟩
  · dsimp only
    refine v_if_neN (tgt := 19) hC dX6_take_10 (by decide) (by decide) (fun c_10 => absurd c_10 (by decide)) (fun c_10 => ?_)
    refine v_aload_n hC dX6_take_13 rfl ?_
    refine v_iconst (v := nI 1) hC dX6_take_14 (by decide) ?_
    refine v_callV_r0 hC lk_X6_96 dX6_take_15 (c_X6_fails hl0 hQ 1) (by decide) (by decide) hQ.k30 rfl rfl rfl rfl (Nat.le_of_ble_eq_true rfl) (by omega) (by omega) ?_
    refine v_iret hC hM dX6_take_18 (by omega) (by omega) ?_
    exact .inl ⟨1, by simp [k6_take, gM, gU, gS, mtk, h_c], rfl, rfl⟩
  · dsimp only
    have b2_c : c < 16 := by
      have hn17 : σ 30 0 0 2 < 17 := hB 30 0 0 2 rfl
      omega
    refine v_if_neN (tgt := 19) hC dX6_take_10 (by decide) (by decide) (fun c_10 => ?_) (fun c_10 => absurd c_10 (by decide))
    refine v_iload_n hC dX6_take_19 rfl ?_
    refine v_iload_n hC dX6_take_20 rfl ?_
    refine v_callS hC lk_X6_109 dX6_take_21 (c_X6_isSpan hl0 (x := f) (y := s)) (by decide) (by decide) rfl rfl (Nat.le_of_ble_eq_true rfl) (by omega) (by omega) (fun v μ h => ?_) (fun _ _ h => h.elim)
    rcases h with ⟨hor_21 | hor_21, rfl, rfl⟩ | ⟨f, s, h_f, h_s, rfl, rfl, b_f, b_s, rfl, rfl⟩
    · dsimp only
      have h_f := hor_21
      refine v_if_neN (tgt := 33) hC dX6_take_24 (by decide) (by decide) (fun c_24 => absurd c_24 (by decide)) (fun c_24 => ?_)
      refine v_aload_n hC dX6_take_27 rfl ?_
      refine v_iconst (v := nI 2) hC dX6_take_28 (by decide) ?_
      refine v_callV_r0 hC lk_X6_96 dX6_take_29 (c_X6_fails hl0 hQ 2) (by decide) (by decide) hQ.k30 rfl rfl rfl rfl (Nat.le_of_ble_eq_true rfl) (by omega) (by omega) ?_
      refine v_iret hC hM dX6_take_32 (by omega) (by omega) ?_
      exact .inl ⟨2, by simp [k6_take, gM, gU, gS, mtk, h_c, h_f], rfl, rfl⟩
    · dsimp only
      have h_s := hor_21
      cases h_f : inR f 16
      · skip
        refine v_if_neN (tgt := 33) hC dX6_take_24 (by decide) (by decide) (fun c_24 => absurd c_24 (by decide)) (fun c_24 => ?_)
        refine v_aload_n hC dX6_take_27 rfl ?_
        refine v_iconst (v := nI 2) hC dX6_take_28 (by decide) ?_
        refine v_callV_r0 hC lk_X6_96 dX6_take_29 (c_X6_fails hl0 hQ 2) (by decide) (by decide) hQ.k30 rfl rfl rfl rfl (Nat.le_of_ble_eq_true rfl) (by omega) (by omega) ?_
        refine v_iret hC hM dX6_take_32 (by omega) (by omega) ?_
        exact .inl ⟨2, by simp [k6_take, gM, gU, gS, mtk, h_c, h_s, h_f], rfl, rfl⟩
      · skip
        refine v_if_neN (tgt := 33) hC dX6_take_24 (by decide) (by decide) (fun c_24 => absurd c_24 (by decide)) (fun c_24 => ?_)
        refine v_aload_n hC dX6_take_27 rfl ?_
        refine v_iconst (v := nI 2) hC dX6_take_28 (by decide) ?_
        refine v_callV_r0 hC lk_X6_96 dX6_take_29 (c_X6_fails hl0 hQ 2) (by decide) (by decide) hQ.k30 rfl rfl rfl rfl (Nat.le_of_ble_eq_true rfl) (by omega) (by omega) ?_
        refine v_iret hC hM dX6_take_32 (by omega) (by omega) ?_
        exact .inl ⟨2, by simp [k6_take, gM, gU, gS, mtk, h_c, h_s, h_f], rfl, rfl⟩
    · dsimp only
      refine v_if_neN (tgt := 33) hC dX6_take_24 (by decide) (by decide) (fun c_24 => ?_) (fun c_24 => absurd c_24 (by decide))
      refine v_aload_n hC dX6_take_33 rfl ?_
      refine gf_X6_75 hC dX6_take_34 hQ ?_
      refine v_iload_n hC dX6_take_37 rfl ?_
      refine al_52 hC dX6_take_38 hQ (by first | omega | exact hB _ _ _ _ rfl | exact hB.i _ _ _ _ rfl | assumption | exact b2n_31 _ | exact Nat.lt_trans (hB 52 0 0 _ rfl) (show (65536 : Nat) < 2 ^ 31 by decide)) ?_
      refine v_bipush (v := nI 111) hC dX6_take_39 (by decide) ?_
      refine v_icmp_neN (tgt := 59) hC dX6_take_41 (by decide) (by first | omega | exact hB _ _ _ _ rfl | exact hB.i _ _ _ _ rfl | assumption | exact b2n_31 _ | exact Nat.lt_trans (hB 52 0 0 _ rfl) (show (65536 : Nat) < 2 ^ 31 by decide)) (by first | omega | exact hB _ _ _ _ rfl | exact hB.i _ _ _ _ rfl | assumption | exact b2n_31 _ | exact Nat.lt_trans (hB 52 0 0 _ rfl) (show (65536 : Nat) < 2 ^ 31 by decide)) (fun c_41 => ?_) (fun c_41 => ?_)
      · refine v_aload_n hC dX6_take_59 rfl ?_
        refine v_iconst (v := nI 3) hC dX6_take_60 (by decide) ?_
        refine v_callV_r0 hC lk_X6_96 dX6_take_61 (c_X6_fails hl0 hQ 3) (by decide) (by decide) hQ.k30 rfl rfl rfl rfl (Nat.le_of_ble_eq_true rfl) (by omega) (by omega) ?_
        refine v_iret hC hM dX6_take_64 (by omega) (by omega) ?_
        exact .inl ⟨3, by simp [k6_take, gM, gU, gS, mtk, h_c, h_f, h_s, c_41], rfl, rfl⟩
      · refine v_aload_n hC dX6_take_44 rfl ?_
        refine gf_X6_48 hC dX6_take_45 hQ ?_
        refine v_iload_n hC dX6_take_48 rfl ?_
        refine al_40 hC dX6_take_49 hQ (by first | omega | exact hB _ _ _ _ rfl | exact hB.i _ _ _ _ rfl | assumption | exact b2n_31 _ | exact Nat.lt_trans (hB 52 0 0 _ rfl) (show (65536 : Nat) < 2 ^ 31 by decide)) ?_
        refine v_iconst (v := nI 4) hC dX6_take_50 (by decide) ?_
        refine v_iload_n hC dX6_take_51 rfl ?_
        refine v_imulN hC dX6_take_52 ?_
        refine v_iload_n hC dX6_take_53 rfl ?_
        refine v_iaddN hC dX6_take_54 ?_
        refine al_41 hC dX6_take_55 hQ (by first | omega | exact hB _ _ _ _ rfl | exact hB.i _ _ _ _ rfl | assumption | exact b2n_31 _ | exact Nat.lt_trans (hB 52 0 0 _ rfl) (show (65536 : Nat) < 2 ^ 31 by decide)) (by first | omega | exact hB _ _ _ _ rfl | exact hB.i _ _ _ _ rfl | assumption | exact b2n_31 _ | exact Nat.lt_trans (hB 52 0 0 _ rfl) (show (65536 : Nat) < 2 ^ 31 by decide)) ?_
        refine v_if_geM (tgt := 65) hC dX6_take_56 (by decide) (by first | omega | exact hB _ _ _ _ rfl | exact hB.i _ _ _ _ rfl | assumption | exact b2n_31 _ | exact Nat.lt_trans (hB 52 0 0 _ rfl) (show (65536 : Nat) < 2 ^ 31 by decide)) (fun c_56 => ?_) (fun c_56 => ?_)
        · refine v_aload_n hC dX6_take_65 rfl ?_
          refine gf_X6_48 hC dX6_take_66 hQ ?_
          refine v_iload_n hC dX6_take_69 rfl ?_
          refine al_40 hC dX6_take_70 hQ (by first | omega | exact hB _ _ _ _ rfl | exact hB.i _ _ _ _ rfl | assumption | exact b2n_31 _ | exact Nat.lt_trans (hB 52 0 0 _ rfl) (show (65536 : Nat) < 2 ^ 31 by decide)) ?_
          refine v_iconst (v := nI 4) hC dX6_take_71 (by decide) ?_
          refine v_iload_n hC dX6_take_72 rfl ?_
          refine v_imulN hC dX6_take_73 ?_
          refine v_iload_n hC dX6_take_74 rfl ?_
          refine v_iaddN hC dX6_take_75 ?_
          refine v_iconst (v := dm 0) hC dX6_take_76 (by decide) ?_
          refine as_41 (v := 0) hC dX6_take_77 hQ b2_c (by omega) ?_
          refine v_aload_n hC dX6_take_78 rfl ?_
          refine gf_X6_53 hC dX6_take_79 hQ ?_
          refine v_iload_n hC dX6_take_82 rfl ?_
          refine al_42 hC dX6_take_83 hQ (by first | omega | exact hB _ _ _ _ rfl | exact hB.i _ _ _ _ rfl | assumption | exact b2n_31 _ | exact Nat.lt_trans (hB 52 0 0 _ rfl) (show (65536 : Nat) < 2 ^ 31 by decide)) ?_
          refine v_iconst (v := nI 4) hC dX6_take_84 (by decide) ?_
          refine v_iload_n hC dX6_take_85 rfl ?_
          refine v_imulN hC dX6_take_86 ?_
          refine v_iload_n hC dX6_take_87 rfl ?_
          refine v_iaddN hC dX6_take_88 ?_
          refine v_iconst (v := nI 0) hC dX6_take_89 (by decide) ?_
          refine as_43 hC dX6_take_90 hQ b2_c (by omega) (by decide) ?_
          have hBm : BD (mtk σ c (4 * f + s)) := BD.put (BD.put hB (show 0 < 101 by decide)) (show 0 < 2 by decide)
          refine v_aload_n hC dX6_take_91 rfl ?_
          refine v_iload_n hC dX6_take_92 rfl ?_
          refine v_callV_r0 hC lk_X6_113 dX6_take_93 (c_X6_editMany hl0 hQ hBm b2_c) (by decide) (by decide) hQ.k30 rfl rfl rfl rfl (Nat.le_of_ble_eq_true rfl) (by omega) (by omega) ?_
          refine v_iret hC hM dX6_take_96 (by omega) (by omega) ?_
          exact .inr ⟨_, _, by simp [k6_take, gM, gU, gS, mtk, h_c, h_f, h_s, c_41, c_56], rfl, rfl⟩
        · refine v_aload_n hC dX6_take_59 rfl ?_
          refine v_iconst (v := nI 3) hC dX6_take_60 (by decide) ?_
          refine v_callV_r0 hC lk_X6_96 dX6_take_61 (c_X6_fails hl0 hQ 3) (by decide) (by decide) hQ.k30 rfl rfl rfl rfl (Nat.le_of_ble_eq_true rfl) (by omega) (by omega) ?_
          refine v_iret hC hM dX6_take_64 (by omega) (by omega) ?_
          exact .inl ⟨3, by simp [k6_take, gM, gU, gS, mtk, h_c, h_f, h_s, c_41, c_56], rfl, rfl⟩

def k6_close (σ : SG) (c : Int32) : OM := gU σ c 111 fun c => .inr (emy σ c 64, up σ 52 0 0 c 120)
set_option maxHeartbeats 4000000 in
set_option maxRecDepth 100000 in
theorem c_X6_close {l : Launch} (hl0 : l.stackTraces = false) {G : GT} {ok : KF} {ad : AD} {σ : SG} (hQ : OKM ok) (hB : BD σ) (c : Int32) : Ct l G 3 yX6_close cX6_close 2 (some .int) [.ref (ad 30 0 0), .int c] ok ad σ (mV (k6_close (th σ 0) c) ok ad (th σ 0)) (NX) 0 0 := by
  refine Ct.mk (by decide +kernel) hl0 (Nat.le_of_ble_eq_true rfl) (fun X hX hC hM => ?_)
  subst hX
  refine v_aload_n hC dX6_close_0 rfl ?_
  refine v_iload_n hC dX6_close_1 rfl ?_
  refine v_bipush (v := nI 111) hC dX6_close_2 (by decide) ?_
  refine v_callV hC lk_X6_116 dX6_close_4 (c_X6_isUnlike hl0 hQ hB (x := c) (s := 111) (by decide)) (by decide) (by decide) hQ.k30 rfl rfl rfl rfl (Nat.le_of_ble_eq_true rfl) (by omega) (by omega) (fun v μ h => ?_) (fun _ _ h => h.elim)
  rcases h with ⟨h_c, rfl, rfl⟩ | ⟨c, h_c, rfl, b2_c, b_c, ⟨h_st, rfl, rfl⟩ | ⟨h_st, rfl, rfl⟩⟩
  · dsimp only
    have hB : BD (th σ 0) := th_BD hB (by decide)
    have h0 : th σ 0 30 0 0 0 = 0 := up_same _ _ _ _ _ _
    generalize th σ 0 = σ at *
    refine v_if_eqN (tgt := 12) hC dX6_close_7 (by decide) (by decide) (fun c_7 => absurd c_7 (by decide)) (fun c_7 => ?_)
    refine v_iconst (v := nI 0) hC dX6_close_10 (by decide) ?_
    refine v_iret hC hM dX6_close_11 (by omega) (by omega) ?_
    exact .inl ⟨1, by simp [k6_close, gM, gU, gS, h_c], rfl, rfl⟩
  · dsimp only
    have hB : BD (th σ 0) := th_BD hB (by decide)
    have h0 : th σ 0 30 0 0 0 = 0 := up_same _ _ _ _ _ _
    generalize th σ 0 = σ at *
    refine v_if_eqN (tgt := 12) hC dX6_close_7 (by decide) (by decide) (fun c_7 => absurd c_7 (by decide)) (fun c_7 => ?_)
    refine v_iconst (v := nI 0) hC dX6_close_10 (by decide) ?_
    refine v_iret hC hM dX6_close_11 (by omega) (by omega) ?_
    exact .inl ⟨2, by simp [k6_close, gM, gU, gS, h_c, h_st], rfl, rfl⟩
  · dsimp only
    have hB : BD (th σ 0) := th_BD hB (by decide)
    have h0 : th σ 0 30 0 0 0 = 0 := up_same _ _ _ _ _ _
    generalize th σ 0 = σ at *
    refine v_if_eqN (tgt := 12) hC dX6_close_7 (by decide) (by decide) (fun c_7 => ?_) (fun c_7 => absurd c_7 (by decide))
    refine v_aload_n hC dX6_close_12 rfl ?_
    refine gf_X6_75 hC dX6_close_13 hQ ?_
    refine v_iload_n hC dX6_close_16 rfl ?_
    refine v_bipush (v := nI 120) hC dX6_close_17 (by decide) ?_
    refine as_52 hC dX6_close_19 hQ (by first | omega | exact hB _ _ _ _ rfl | exact hB.i _ _ _ _ rfl | assumption | exact b2n_31 _) (by first | omega | exact hB _ _ _ _ rfl | exact hB.i _ _ _ _ rfl | assumption | exact b2n_31 _) ?_
    refine v_aload_n hC dX6_close_20 rfl ?_
    refine v_iload_n hC dX6_close_21 rfl ?_
    refine v_callV_r0 hC lk_X6_113 dX6_close_22 (c_X6_editMany hl0 hQ (BD.put hB (show 120 < 65536 by decide) : BD (up σ 52 0 0 c 120)) b2_c) (by decide) (by decide) hQ.k30 rfl rfl rfl rfl (Nat.le_of_ble_eq_true rfl) (by omega) (by omega) ?_
    rw [show emy (up σ 52 0 0 c 120) c 64 = emy σ c 64 from rfl]
    refine v_iret hC hM dX6_close_25 (by omega) (by omega) ?_
    exact .inr ⟨_, _, by simp [k6_close, gM, gU, gS, h_c, h_st], rfl, rfl⟩

