/-! ===== what the cells keep ===== -/
def ent (σ : SG) (d c : Nat) : List Nat := d :: σ 21 c 0 0 :: (List.range (σ 22 c 0 30)).map (σ 22 c 0)
def KI (ok : KF) (m : Nat) : Prop := (∀ k i j, ok k i j → k < 80) ∧ (∀ i j, ok 21 i j → j = 0) ∧ ∀ i j, (ok 21 i j ∨ ok 22 i j) → i < m
def CK (ok : KF) (ad : AD) (σ : SG) (K : List (List Nat)) : Prop := (∃ L : Nat → List Nat, ∀ d, d < 4 → Chn ok ad σ (σ 19 0 0 d) (L d) ∧ (L d).map (ent σ d) = (K.filter (fun e => e.head? == some d)).reverse) ∧ KI ok (σ 16 0 0 1)
def kS (k : Nat) : Bool := k == 16 || k == 19 || k == 20 || k == 21 || k == 22
def mixS (σ τ : SG) : SG := fun k i j x => bif kS k then τ k i j x else σ k i j x
theorem mixS_mixS (σ τ τ' : SG) : mixS (mixS σ τ) τ' = mixS σ τ' := by
  funext k i j x
  simp only [mixS]
  cases kS k <;> rfl
theorem mixS_id (σ : SG) : mixS σ σ = σ := by
  funext k i j x
  simp only [mixS]
  cases kS k <;> rfl
theorem mixS_of {σ σ' : SG} (h : ∀ k, kS k = false → σ' k = σ k) : σ' = mixS σ σ' := by
  funext k i j x
  simp only [mixS]
  cases e : kS k with
  | true => rfl
  | false => exact congrFun (congrFun (congrFun (h k e) i) j) x
theorem iso_18 {σ σ' : SG} (h : σ' 18 = σ 18) (t d : Nat) : iso σ' t d = iso σ t d := by
  unfold iso
  rw [h]
theorem inpv_18 {σ σ' : SG} (h : σ' 18 = σ 18) (v : Nat → Nat) (d : Nat) : ∀ n, inpv σ' v d n = inpv σ v d n
  | 0 => rfl
  | n + 1 => by
    unfold inpv
    rw [inpv_18 h v d n, iso_18 h, h]
theorem apv_18 {σ σ' : SG} (h : σ' 18 = σ 18) (v : Nat → Nat) (d n : Nat) : apv σ' v d n = apv σ v d n := by
  unfold apv
  congr 1
  funext t
  rw [iso_18 h]
  unfold psv
  rw [h]
theorem hld_iff (σ : SG) (n c : Nat) : hld σ n c = true ↔ (List.range (σ 22 c 0 30)).map (σ 22 c 0) = (List.range n).map (σ 20 0 0) := by
  unfold hld
  rw [Bool.and_eq_true, decide_eq_true_iff, allB_iff]
  constructor
  · rintro ⟨h1, h2⟩
    rw [← h1]
    apply List.map_congr_left
    intro x hx
    exact of_decide_eq_true (h2 x (Nat.zero_le _) (by rw [Nat.zero_add]; exact List.mem_range.mp hx))
  · intro h
    have hl := congrArg List.length h
    simp only [List.length_map, List.length_range] at hl
    refine ⟨hl.symm, fun x _ hx => decide_eq_true ?_⟩
    have h3 := congrArg (fun l => l[x]?) h
    simp only [List.getElem?_map] at h3
    rw [List.getElem?_range (by omega), List.getElem?_range (by omega)] at h3
    simpa using h3
theorem Chn.ext {ok ok' : KF} {ad ad' : AD} {σ σ' : SG} {Q : Nat → Prop} (h1 : ∀ c, Q c → ok 21 c 0 → ok' 21 c 0) (h2 : ∀ c, Q c → ok 22 c 0 → ok' 22 c 0) (h3 : ∀ c, Q c → ad' 21 c 0 = ad 21 c 0) (h4 : ∀ c, Q c → σ' 21 c 0 = σ 21 c 0) (h5 : ∀ c, Q c → σ' 22 c 0 = σ 22 c 0) : ∀ {cs : List Nat} {p : Nat}, (∀ c ∈ cs, Q c) → Chn ok ad σ p cs → Chn ok' ad' σ' p cs
  | [], _, _, h => h
  | c :: cs, p, hq, h => by
    have q := hq c List.mem_cons_self
    refine ⟨?_, h1 c q h.2.1, h2 c q h.2.2.1, ?_, ?_⟩
    · rw [h3 c q]; exact h.1
    · rw [h5 c q]; exact h.2.2.2.1
    · rw [h4 c q]
      exact Chn.ext h1 h2 h3 h4 h5 (fun x hx => hq x (List.mem_cons_of_mem _ hx)) h.2.2.2.2
theorem Chn.mem {ok : KF} {ad : AD} {σ : SG} : ∀ {cs : List Nat} {p : Nat}, Chn ok ad σ p cs → ∀ c ∈ cs, ok 21 c 0
  | [], _, _, c, hc => by cases hc
  | x :: cs, p, h, c, hc => by
    rcases List.mem_cons.mp hc with rfl | hc
    · exact h.2.1
    · exact Chn.mem h.2.2.2.2 c hc
theorem CK.same {ok : KF} {ad : AD} {σ σ' : SG} {K : List (List Nat)} (h : CK ok ad σ K) (h19 : σ' 19 = σ 19) (h21 : σ' 21 = σ 21) (h22 : σ' 22 = σ 22) (h16 : σ' 16 0 0 1 = σ 16 0 0 1) : CK ok ad σ' K := by
  obtain ⟨⟨L, hL⟩, hK⟩ := h
  refine ⟨⟨L, fun d hd => ?_⟩, by rw [h16]; exact hK⟩
  obtain ⟨h1, h2⟩ := hL d hd
  refine ⟨?_, ?_⟩
  · rw [h19]
    exact Chn.ext (Q := fun _ => True) (fun _ _ h => h) (fun _ _ h => h) (fun _ _ => rfl) (fun c _ => by rw [h21]) (fun c _ => by rw [h22]) (fun _ _ => trivial) h1
  · rw [← h2]
    apply List.map_congr_left
    intro c _
    unfold ent
    rw [h21, h22]
/-- no cells -/
theorem CK.none {ok : KF} {ad : AD} {σ : SG} (hK : KI ok (σ 16 0 0 1)) : CK ok ad (fgt σ 4) [] :=
  ⟨⟨fun _ => [], fun d hd => ⟨by show fgt σ 4 19 0 0 d = 0; simp [fgt, hd], rfl⟩⟩, by rw [fgt_k (by decide)]; exact hK⟩
theorem CK.new {ok : KF} {ad : AD} {σ : SG} {K : List (List Nat)} (h : CK ok ad σ K) {d n g : Nat} (hd : d < 4) (hn : n ≤ 24) (a1 a2 : Nat) :
    CK (okA (okA ok 21 (σ 16 0 0 1) 0) 22 (σ 16 0 0 1) 0) (adA (adA ad 21 (σ 16 0 0 1) 0 a1) 22 (σ 16 0 0 1) 0 a2) (nwS σ d n (σ 16 0 0 1) g a1) (K ++ [d :: g :: (List.range n).map (σ 20 0 0)]) := by
  obtain ⟨⟨L, hL⟩, hK1, hK2, hK3⟩ := h
  generalize hc0 : σ 16 0 0 1 = c0 at *
  have e21 : ∀ c, c < c0 → nwS σ d n c0 g a1 21 c 0 = σ 21 c 0 := fun c hc => by
    unfold nwS
    rw [up_off _ _ _ (by omega), up_off _ _ _ (by omega), upr_off _ _ (by omega), upr_off _ _ (by omega), up_off _ _ _ (by omega)]
  have e22 : ∀ c, c < c0 → nwS σ d n c0 g a1 22 c 0 = σ 22 c 0 := fun c hc => by
    unfold nwS
    rw [up_off _ _ _ (by omega), up_off _ _ _ (by omega), upr_off _ _ (by omega), upr_off _ _ (by omega), up_off _ _ _ (by omega)]
  have f21 : nwS σ d n c0 g a1 21 c0 0 = r21 σ d g := by
    unfold nwS
    rw [up_off _ _ _ (by omega), up_off _ _ _ (by omega), upr_off _ _ (by omega), upr_row]
  have f22 : nwS σ d n c0 g a1 22 c0 0 = cpI σ n := by
    unfold nwS
    rw [up_off _ _ _ (by omega), up_off _ _ _ (by omega), upr_row]
  have e19 : ∀ x, nwS σ d n c0 g a1 19 0 0 x = if x = d then a1 + 1 else σ 19 0 0 x := fun x => by
    unfold nwS
    rw [up_k (by decide)]
    by_cases hx : x = d
    · rw [if_pos hx, hx, up_same]
    · rw [if_neg hx, up_x hx, upr_k (by decide), upr_k (by decide), up_k (by decide)]
  have e16 : nwS σ d n c0 g a1 16 0 0 1 = c0 + 1 := by
    unfold nwS
    rw [up_same, hc0]
  have hlt : ∀ d', d' < 4 → ∀ c ∈ L d', c < c0 := fun d' hd' c hc => hK3 c 0 (.inl (Chn.mem (hL d' hd').1 c hc))
  have old : ∀ d', d' < 4 → ∀ p, Chn ok ad σ p (L d') → Chn (okA (okA ok 21 c0 0) 22 c0 0) (adA (adA ad 21 c0 0 a1) 22 c0 0 a2) (nwS σ d n c0 g a1) p (L d') := fun d' hd' p hp =>
    Chn.ext (Q := fun c => c < c0) (fun c _ h => .inl (.inl h)) (fun c _ h => .inl (.inl h)) (fun c hc => by rw [adA_off _ _ (by omega), adA_off _ _ (by omega)]) e21 e22 (hlt d' hd') hp
  have oldE : ∀ d', d' < 4 → (L d').map (ent (nwS σ d n c0 g a1) d') = (L d').map (ent σ d') := fun d' hd' => by
    apply List.map_congr_left
    intro c hc
    have := hlt d' hd' c hc
    unfold ent
    rw [e21 c this, e22 c this]
  have hcp : (List.range (cpI σ n 30)).map (cpI σ n) = (List.range n).map (σ 20 0 0) := by
    show (List.range n).map (cpI σ n) = _
    apply List.map_congr_left
    intro x hx
    have := List.mem_range.mp hx
    unfold cpI
    rw [if_neg (by omega), if_neg (by omega), if_neg (by omega), if_pos this]
  refine ⟨⟨fun d' => if d' = d then c0 :: L d else L d', fun d' hd' => ?_⟩, ?_, ?_, ?_⟩
  · by_cases e : d' = d
    · subst e
      dsimp only
      rw [if_pos rfl]
      obtain ⟨h1, h2⟩ := hL d' hd
      refine ⟨⟨?_, .inl (.inr ⟨rfl, rfl, rfl⟩), .inr ⟨rfl, rfl, rfl⟩, ?_, ?_⟩, ?_⟩
      · rw [e19, if_pos rfl, adA_off _ _ (by omega), adA_self]
      · rw [f22]
        show n ≤ 24
        exact hn
      · rw [f21]
        exact old d' hd _ h1
      · rw [List.map_cons, oldE d' hd, h2, List.filter_append, List.reverse_append]
        unfold ent
        rw [f21, f22, hcp]
        simp [r21]
    · dsimp only
      rw [if_neg e]
      obtain ⟨h1, h2⟩ := hL d' hd'
      refine ⟨?_, ?_⟩
      · rw [e19, if_neg e]
        exact old d' hd' _ h1
      · rw [oldE d' hd', h2, List.filter_append]
        have : ¬ d = d' := fun q => e q.symm
        simp [this]
  · rintro k i j ((h | h) | h)
    · exact hK1 _ _ _ h
    · omega
    · omega
  · rintro i j ((h | h) | h)
    · exact hK2 _ _ h
    · exact h.2.2
    · omega
  · rw [e16]
    rintro i j (h | h)
    · rcases h with (h | h) | h
      · have := hK3 i j (.inl h); omega
      · omega
      · omega
    · rcases h with (h | h) | h
      · have := hK3 i j (.inr h); omega
      · omega
      · omega
