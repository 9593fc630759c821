/-! ===== a batch tried in the model ===== -/
def lk (L : Nat → Nat) : SG := fun _ _ _ x => L x
def smB (k x : Nat) : Bool := k == 32 || k == 33 || k == 34 || k == 35 || k == 41 || (k == 30 && (x == 1 || x == 2))
theorem SM.of {s τ τ' : SG} (h : SM s τ) (hf : ∀ k i j x, smB k x = true → τ' k i j x = τ k i j x) : SM s τ' := by
  refine ⟨(hf 30 0 0 2 rfl).trans h.1, fun c hc p hp => (hf 41 c 0 p rfl).trans (h.2.1 c hc p hp), (hf 30 0 0 1 rfl).trans h.2.2.1, fun t ht => ?_⟩
  rw [hf 32 0 0 t rfl, hf 33 0 0 t rfl, hf 34 0 0 t rfl, hf 35 0 0 t rfl]
  exact h.2.2.2 t ht
/-- what a try of the model may change -/
def mwB (k x : Nat) : Bool := mfB k x || kM k x
def MW (τ τ' : SG) : Prop := ∀ k i j x, mwB k x = false → τ' k i j x = τ k i j x
theorem MW.refl (τ : SG) : MW τ τ := fun _ _ _ _ _ => rfl
theorem MW.trans {a b c : SG} (h : MW a b) (h2 : MW b c) : MW a c := fun k i j x q => (h2 k i j x q).trans (h k i j x q)
theorem MF.mw {a b : SG} (h : MF a b) : MW a b := fun k i j x q => h k i j x (Bool.or_eq_false_iff.mp q).1
theorem MW_mx (σ τ : SG) : MW σ (mxS σ τ) := fun k i j x q => by
  show (bif kM k x then _ else _) = _
  rw [(Bool.or_eq_false_iff.mp q).2]
  rfl
def cpv (τ : SG) (p : Nat) : SG := upr τ 62 0 0 (fun x => if x < p then τ 31 0 0 x else 0)
theorem cpv_0 (τ : SG) : cpv τ 0 = upr τ 62 0 0 (fun _ => 0) := upr_row_eq (fun x => if_neg (Nat.not_lt_zero _))
theorem cpv_s (τ : SG) (p : Nat) : up (cpv τ p) 62 0 0 p (τ 31 0 0 p) = cpv τ (p + 1) := by
  funext k i j x
  show (if _ then _ else (if _ then (if _ then _ else _) else _)) = (if _ then (if _ then _ else _) else _)
  by_cases e : k = 62 ∧ i = 0 ∧ j = 0
  · rw [if_pos e, if_pos e]
    by_cases e2 : x = p
    · rw [if_pos ⟨e.1, e.2.1, e.2.2, e2⟩, if_pos (by omega), e2]
    · rw [if_neg (fun q => e2 q.2.2.2)]
      by_cases e3 : x < p
      · rw [if_pos e3, if_pos (by omega)]
      · rw [if_neg e3, if_neg (by omega)]
  · rw [if_neg (fun q => e ⟨q.1, q.2.1, q.2.2.1⟩), if_neg e, if_neg e]
theorem cpv_BD {τ : SG} (h : BD τ) (p : Nat) : BD (cpv τ p) := BD.putr h (fun x _ => by
  show (if _ then _ else _) < 100
  split
  · exact h 31 0 0 x rfl
  · decide)
def lyM (τ : SG) (L : Nat → Nat) (a : Nat) : Nat → SG
  | 0 => cpv τ 64
  | n + 1 => mly (lyM τ L a n) 62 0 (L (a + n)) 64
theorem lyM_off {τ : SG} {L : Nat → Nat} {a k i j x : Nat} (h : ¬ (k = 62 ∧ i = 0 ∧ j = 0)) : ∀ n, lyM τ L a n k i j x = τ k i j x
  | 0 => by
    show cpv τ 64 k i j x = _
    unfold cpv
    rw [upr_off τ _ h]
  | n + 1 => by
    show (if _ then _ else _) = _
    rw [if_neg (fun q => h ⟨q.1, q.2.1, q.2.2.1⟩)]
    exact lyM_off h n
theorem lyM_BD {τ : SG} (h : BD τ) (L : Nat → Nat) (a : Nat) : ∀ n, BD (lyM τ L a n)
  | 0 => cpv_BD h 64
  | n + 1 => mly_BD (lyM_BD h L a n) (fun _ => rfl)
theorem lyM_SM {s τ : SG} (h : SM s τ) (L : Nat → Nat) (a n : Nat) : SM s (lyM τ L a n) := h.of (fun k i j x q => lyM_off (by rintro ⟨rfl, -, -⟩; cases q) n)
theorem layv_congr {s : SG} {c x : Nat} {v v' : Nat → Nat} (h : v x = v' x) : layv s c v x = layv s c v' x := by
  unfold layv
  rw [h]
theorem lyM_v {s τ : SG} (h : SM s τ) {L : Nat → Nat} {a : Nat} : ∀ n, (∀ c ∈ bt (lk L) a n, c < s 0 0 0 0) → ∀ x, x < 64 → lyM τ L a n 62 0 0 x = (bt (lk L) a n).foldl (fun v c => layv s c v) (τ 31 0 0) x
  | 0, _, x, hx => by
    show cpv τ 64 62 0 0 x = τ 31 0 0 x
    unfold cpv
    rw [upr_same, if_pos hx]
  | n + 1, hc, x, hx => by
    rw [bt_s, List.foldl_append]
    have hc1 : L (a + n) < s 0 0 0 0 := hc _ (by rw [bt_s]; exact List.mem_append_right _ (List.mem_singleton.mpr rfl))
    have ih := lyM_v h n (fun c q => hc c (by rw [bt_s]; exact List.mem_append_left _ q)) x hx
    show mly (lyM τ L a n) 62 0 (L (a + n)) 64 62 0 0 x = layv s (L (a + n)) _ x
    rw [(lyM_SM h L a n).lay hc1 hx rfl]
    exact layv_congr ih
theorem RM_mx {s τ : SG} {A : AS} (h : RM s τ A) (τ1 : SG) (K : List (List Nat)) : RM s (mxS τ τ1) (setK A K) := h
theorem KM.weak {ok ok' : KF} {m e : Nat} (h : KM ok m e) (hw : ∀ k i j, ok' k i j → ok k i j) : KM ok' m e := ⟨fun k i j q => h.1 k i j (hw k i j q), fun i j q => h.2.1 i j (hw 55 i j q), fun i j q => h.2.2 i j (hw 56 i j q)⟩
theorem BD.mx {σ τ σ1 : SG} (h : BD σ) (h1 : BD (mxS σ1 τ)) : BD (mxS σ τ) := fun k i j x hp => by
  show (bif kM k x then _ else _) < _
  cases e : kM k x with
  | false => exact h k i j x hp
  | true =>
    have := h1 k i j x hp
    have : (bif kM k x then τ k i j x else σ1 k i j x) < bnd k x := this
    rw [e] at this
    exact this
theorem mxK_okA {ok nk : KF} {k0 i0 j0 : Nat} (h : dM k0 = false) : mxK (okA ok k0 i0 j0) nk = okA (mxK ok nk) k0 i0 j0 := by
  funext k i j
  show (bif dM k then nk k i j else (ok k i j ∨ _)) = ((bif dM k then nk k i j else ok k i j) ∨ _)
  cases e : dM k with
  | false => rfl
  | true =>
    have hk : k ≠ k0 := fun q => by rw [q, h] at e; cases e
    exact propext ⟨.inl, fun q => q.elim id (fun z => absurd z.1 hk)⟩
theorem mxA_adA {ad na : AD} {k0 i0 j0 a : Nat} (h : dM k0 = false) : mxA (adA ad k0 i0 j0 a) na = adA (mxA ad na) k0 i0 j0 a := by
  funext k i j
  show (bif dM k then na k i j else (if _ then _ else _)) = (if _ then _ else (bif dM k then na k i j else ad k i j))
  by_cases e : k = k0 ∧ i = i0 ∧ j = j0
  · rw [if_pos e, if_pos e, e.1, h]
    rfl
  · rw [if_neg e, if_neg e]
theorem capN_tr {e a b c : Nat} (h1 : a ≤ b) (h2 : b ≤ c) : capN (c - b) b (capN (b - a) a e) = capN (c - a) a e := by
  rw [show c - a = (b - a) + (c - b) by omega, capN_add, show a + (b - a) = b by omega]
def CTm (σ σ' : SG) (K K' : List (List Nat)) (t B : Nat) : Prop := K.length ≤ K'.length ∧ K'.length ≤ K.length + B ∧ σ' 30 0 0 5 = σ 30 0 0 5 + (K'.length - K.length) ∧ σ' 30 0 0 6 = σ 30 0 0 6 + t ∧ t ≤ B
theorem CTm.trans {a b c : SG} {K K' K2 : List (List Nat)} {t t' B B' : Nat} (h : CTm a b K K' t B) (h2 : CTm b c K' K2 t' B') : CTm a c K K2 (t + t') (B + B') := by
  obtain ⟨a1, a2, a3, a4, a5⟩ := h
  obtain ⟨b1, b2, b3, b4, b5⟩ := h2
  exact ⟨by omega, by omega, by omega, by omega, by omega⟩
theorem CTm.wide {a b : SG} {K K' : List (List Nat)} {t B B' : Nat} (h : CTm a b K K' t B) (hB : B ≤ B') : CTm a b K K' t B' := by
  obtain ⟨a1, a2, a3, a4, a5⟩ := h
  exact ⟨a1, by omega, a3, a4, by omega⟩
theorem CTm.same {a b : SG} {K : List (List Nat)} (h5 : b 30 0 0 5 = a 30 0 0 5) (h6 : b 30 0 0 6 = a 30 0 0 6) : CTm a b K K 0 0 := ⟨Nat.le_refl _, by omega, by omega, h6, by omega⟩
theorem fold_mem {s : SG} {A : AS} {l1 l2 : List Nat} {c : Nat} (hA : AI s A) (hb : BI s A (l1 ++ c :: l2)) : c ∈ aQ (l1.foldl (mrgA s) A) := by
  have hsub : BI s A l1 := hb.sub (List.sublist_append_left _ _)
  have hmem : c ∈ l1 ++ c :: l2 := List.mem_append_right _ List.mem_cons_self
  have hnm : c ∉ l1 := fun q => (List.nodup_append.mp hb.1).2.2 c q c List.mem_cons_self rfl
  exact (fold_inv hA hsub).2 c (hb.2.1 c hmem) hnm (fun x hx => hb.2.2 c hmem x (List.mem_append_left _ hx) (fun q => hnm (by rw [q]; exact hx)))
def TPM (G : GT) (ok : KF) (ad : AD) (s τ : SG) (A : AS) (e : Nat) (r : Nat × AS × Nat) (B : Nat) : Option Value → MT → Prop := fun v μ => ∃ nk na τ', v = some (iv r.1) ∧ μ = (mxK ok nk, mxA ad na, τ') ∧ TM G (mxK ok nk) (mxA ad na) s τ' r.2.1 (capN ((aK r.2.1).length - (aK A).length) (aK A).length e) ∧ MW τ τ' ∧ CTm τ τ' (aK A) (aK r.2.1) r.2.2 B
/-- a change back to open in the model, marked as failed -/
def mfl (τ : SG) (k0 c : Nat) : SG := up (lvs (up τ 53 0 0 c 1) k0 (τ 30 0 0 3 - 1)) 52 0 0 c 111
theorem TM_fl {G : GT} {ok : KF} {ad : AD} {s τ : SG} {A : AS} {e c k0 : Nat} (hT : TM G ok ad s τ A e) (hc : c ∈ aQ A) (a1 : k0 < τ 30 0 0 3) (a2 : τ 50 0 0 k0 = c) (a3 : ∀ j, j < k0 → τ 50 0 0 j ≠ c) : TM G ok ad s (mfl τ k0 c) (falA A c) e ∧ MF τ (mfl τ k0 c) := by
  obtain ⟨hB, hS, ⟨h1, h2, h3, h4, h5, h6⟩, hArr, hKM, hA, hQm⟩ := hT
  have hf : MF τ (mfl τ k0 c) := (((MF.refl τ).Up rfl).Lvs).Up rfl
  refine ⟨⟨BD.put (lvs_BD (BD.put hB (by show 1 < 2; decide)) _ _) (by show 111 < 65536; decide), hS.mf hf, ⟨fun o ho => ?_, fun o ho => ?_, h3, ?_, h5, h6⟩, hArr.of rfl rfl rfl, hKM, AI_fal hA hc, QI_fal hQm⟩, hf⟩
  · show up (lvs (up τ 53 0 0 c 1) k0 (τ 30 0 0 3 - 1)) 52 0 0 c 111 52 0 0 o = if o = c then 111 else aS A o
    by_cases e : o = c
    · subst e
      rw [up_same, if_pos rfl]
    · rw [up_x e, if_neg e]
      exact h1 o ho
  · show up τ 53 0 0 c 1 53 0 0 o = if o = c then 1 else aF A o
    by_cases e : o = c
    · subst e
      rw [up_same, if_pos rfl]
    · rw [up_x e, if_neg e]
      exact h2 o ho
  · have e5 : lsM (mfl τ k0 c) 0 = lsM (lvs τ k0 (τ 30 0 0 3 - 1)) 0 := rfl
    rw [e5, lsM_lvs a1 a2 a3 (by rw [h4]; exact hA.1), h4]
    rfl
theorem Arr.addk {G : GT} {ok : KF} {ad : AD} {σ σ' : SG} {K : List (List Nat)} {e k0 i0 j0 a : Nat} (h4 : ∀ i j x, σ' 54 i j x = σ 54 i j x) (h5 : ∀ i j x, σ' 55 i j x = σ 55 i j x) (h6 : ∀ i j x, σ' 56 i j x = σ 56 i j x) (h : Arr G ok ad σ K e) (hk : dM k0 = false := by rfl) : Arr G (okA ok k0 i0 j0) (adA ad k0 i0 j0 a) σ' K e := by
  have n5 : ∀ i j, ¬ (55 = k0 ∧ i = i0 ∧ j = j0) := fun i j q => by rw [← q.1] at hk; cases hk
  have n6 : ∀ i j, ¬ (56 = k0 ∧ i = i0 ∧ j = j0) := fun i j q => by rw [← q.1] at hk; cases hk
  have h := h.of (σ' := σ') (by funext i j x; exact h4 i j x) (by funext i j x; exact h5 i j x) (by funext i j x; exact h6 i j x)
  refine ⟨h.1, ?_⟩
  rcases h.2 with q | ⟨a1, a2, a3, a4, a5, L, hL⟩
  · exact .inl q
  · refine .inr ⟨a1, .inl a2, by rw [adA_off ad a (n5 _ _)]; exact a3, a4, a5, L, fun t ht => ?_⟩
    obtain ⟨b1, b2, b3, b4⟩ := hL t ht
    exact ⟨.inl b1, by rw [adA_off ad a (n6 _ _)]; exact b2, b3, b4⟩
theorem KM.addk {ok : KF} {m e k0 i0 j0 : Nat} (h : KM ok m e) (h1 : dM k0 = false := by rfl) (h2 : (Nat.blt k0 80 && !(k0 == 59)) = true := by rfl) : KM (okA ok k0 i0 j0) m e := by
  refine ⟨fun k i j q => ?_, fun i j q => ?_, fun i j q => ?_⟩
  · rcases q with q | ⟨rfl, -, -⟩
    · exact h.1 k i j q
    · simp only [Bool.and_eq_true, Bool.not_eq_true', beq_eq_false_iff_ne] at h2
      exact ⟨Nat.le_of_ble_eq_true h2.1, h2.2⟩
  · rcases q with q | ⟨rfl, -, -⟩
    · exact h.2.1 i j q
    · cases h1
  · rcases q with q | ⟨rfl, -, -⟩
    · exact h.2.2 i j q
    · cases h1
theorem fold_v {s : SG} {v v' : Nat → Nat} (h : ∀ x, x < 64 → v x = v' x) : ∀ (b : List Nat) x, x < 64 → b.foldl (fun v c => layv s c v) v x = b.foldl (fun v c => layv s c v) v' x := fun b => by
  induction b generalizing v v' with
  | nil => exact h
  | cons c b ih => exact ih (fun x hx => layv_congr (h x hx))
theorem sbl_len (σ : SG) (v : Nat → Nat) : ∀ r K, K.length ≤ (sbl σ v r K).2.1.length
  | 0, _ => Nat.le_refl _
  | r + 1, K => by
    have h1 : K.length ≤ (addK K (ev σ v (3 - r))).length := by rw [addK_len]; omega
    unfold sbl
    split
    · exact sbl_len σ v r K
    split
    · exact Nat.le_trans h1 (sbl_len σ v r _)
    · exact h1
theorem trs_mono {s : SG} : ∀ (f : Nat) (b : List Nat) (A : AS), (aK A).length ≤ (aK (trsA s f b A).2.1).length
  | 0, _, _ => Nat.le_refl _
  | f + 1, b, A => by
    have h1 := sbl_len s (b.foldl (fun v c => layv s c v) (aT A)) 4 (aK A)
    by_cases g : (sbl s (b.foldl (fun v c => layv s c v) (aT A)) 4 (aK A)).1 = true
    · rw [trs_t g]
      show _ ≤ (aK (b.foldl (mrgA s) _)).length
      rw [fold_aK]
      exact h1
    · by_cases l : b.length ≤ 1
      · rw [trs_1 g l]
        exact h1
      · rw [trs_h g l]
        exact Nat.le_trans h1 (Nat.le_trans (trs_mono f _ (setK A _)) (trs_mono f _ _))
theorem trs_len {s : SG} (f : Nat) (b : List Nat) (A : AS) : (sbl s (b.foldl (fun v c => layv s c v) (aT A)) 4 (aK A)).2.1.length ≤ (aK (trsA s (f + 1) b A).2.1).length := by
  by_cases g : (sbl s (b.foldl (fun v c => layv s c v) (aT A)) 4 (aK A)).1 = true
  · rw [trs_t g]
    show _ ≤ (aK (b.foldl (mrgA s) _)).length
    rw [fold_aK]
    exact Nat.le_refl _
  · by_cases l : b.length ≤ 1
    · rw [trs_1 g l]
      exact Nat.le_refl _
    · rw [trs_h g l]
      exact Nat.le_trans (trs_mono f _ (setK A _)) (trs_mono f _ _)
theorem SM.mw {s τ τ' : SG} (h : SM s τ) (hf : MW τ τ') : SM s τ' := by
  refine ⟨(hf 30 0 0 2 rfl).trans h.1, fun c hc p hp => (hf 41 c 0 p rfl).trans (h.2.1 c hc p hp), (hf 30 0 0 1 rfl).trans h.2.2.1, fun t ht => ?_⟩
  rw [hf 32 0 0 t rfl, hf 33 0 0 t rfl, hf 34 0 0 t rfl, hf 35 0 0 t rfl]
  exact h.2.2.2 t ht
theorem mxK_sub {ok nk : KF} {k0 i0 j0 k i j : Nat} (q : mxK ok nk k i j) : mxK (okA ok k0 i0 j0) nk k i j := by
  have q : (bif dM k then nk k i j else ok k i j) := q
  show (bif dM k then nk k i j else okA ok k0 i0 j0 k i j)
  cases e : dM k with
  | true => rw [e] at q; exact q
  | false => rw [e] at q; exact .inl q
theorem mx_ly {τ τ1 : SG} {L : Nat → Nat} {a n k i j : Nat} (h : ¬ (k = 62 ∧ i = 0 ∧ j = 0)) : mxS (lyM τ L a n) τ1 k i j = mxS τ τ1 k i j := by
  funext x
  show (bif kM k x then _ else lyM τ L a n k i j x) = (bif kM k x then _ else τ k i j x)
  rw [lyM_off h]
