/-! ===== a revert of the model ===== -/
theorem MRes.code {G : GT} {ok : KF} {ad : AD} {s τ : SG} {A : AS} {e : Nat} {r : RO} {B k : Nat} {E : String} (hT : TM G ok ad s τ A e) (hr : r = (.inl E, A, 0)) (hk : k = cdR E) (hk5 : k < 5) : MRes G ok ad s τ A e r B (some (iv 0)) (ok, ad, th (th τ 0) k) := by
  rw [hr]
  refine ⟨ok, ad, th (th τ 0) k, by rw [mxK_id, mxA_id], ?_, (((DY.refl τ).Up rfl).Up rfl).nw, (CTm.same rfl rfl).wide (Nat.zero_le _), .inl ⟨E, rfl, rfl, (up_same _ _ _ _ _ _).trans hk⟩⟩
  show TM G _ _ _ _ A (capN ((aK A).length - (aK A).length) _ _)
  rw [mxK_id, mxA_id, Nat.sub_self]
  exact hT.dy (th_BD (th_BD hT.1 (by decide)) hk5) (((DY.refl τ).Up rfl).Up rfl)
/-- the values of the merged changes that do not go, laid from nothing -/
def wvM (τ : SG) (M g : Nat → Nat) : Nat → SG
  | 0 => upr τ 62 0 0 (fun _ => 0)
  | n + 1 => if g (M n) ≠ 0 then wvM τ M g n else mly (wvM τ M g n) 62 0 (M n) 64
theorem wvM_off {τ : SG} {M g : Nat → Nat} {k i j x : Nat} (h : ¬ (k = 62 ∧ i = 0 ∧ j = 0)) : ∀ n, wvM τ M g n k i j x = τ k i j x
  | 0 => by
    show upr τ 62 0 0 (fun _ => 0) k i j x = _
    rw [upr_off τ _ h]
  | n + 1 => by
    unfold wvM
    split
    · exact wvM_off h n
    · show (if _ then _ else _) = _
      rw [if_neg (fun q => h ⟨q.1, q.2.1, q.2.2.1⟩)]
      exact wvM_off h n
theorem wvM_BD {τ : SG} (h : BD τ) (M g : Nat → Nat) : ∀ n, BD (wvM τ M g n)
  | 0 => BD.putr h (fun _ _ => by show 0 < 100; decide)
  | n + 1 => by
    unfold wvM
    split
    · exact wvM_BD h M g n
    · exact mly_BD (wvM_BD h M g n) (fun _ => rfl)
theorem wvM_SM {s τ : SG} (h : SM s τ) (M g : Nat → Nat) (n : Nat) : SM s (wvM τ M g n) := h.of (fun k i j x q => wvM_off (by rintro ⟨rfl, -, -⟩; cases q) n)
theorem wvM_v {s τ : SG} (h : SM s τ) {M g : Nat → Nat} {gl : List Nat} (hg : ∀ x, g x = b2n (decide (x ∈ gl))) : ∀ n, (∀ k, k < n → M k < s 0 0 0 0) → ∀ x, x < 64 → wvM τ M g n 62 0 0 x = (((List.range n).map M).filter (fun c => !decide (c ∈ gl))).foldl (fun v c => layv s c v) (fun _ => 0) x
  | 0, _, x, _ => by
    show upr τ 62 0 0 (fun _ => 0) 62 0 0 x = _
    rw [upr_same]
    rfl
  | n + 1, hc, x, hx => by
    have ih := wvM_v h hg n (fun k hk => hc k (by omega)) x hx
    rw [List.range_succ, List.map_append, List.filter_append, List.foldl_append]
    unfold wvM
    by_cases q : M n ∈ gl
    · rw [if_pos (by rw [hg, decide_eq_true q]; decide)]
      rw [show [n].map M = [M n] from rfl, List.filter_cons_of_neg (by simp [q])]
      exact ih
    · rw [if_neg (by rw [hg, decide_eq_false q]; decide)]
      rw [show [n].map M = [M n] from rfl, List.filter_cons_of_pos (by simp [q])]
      rw [(wvM_SM h M g n).lay (hc n (by omega)) hx rfl]
      exact layv_congr ih
theorem AI_rv {s : SG} {A : AS} {gl : List Nat} (h : AI s A) (hg : ∀ c ∈ gl, c ∈ aM A) : AI s (rvA s gl A) := by
  obtain ⟨h1, h2, h3, h4⟩ := h
  refine ⟨h1, h2.filter _, fun c hc => ⟨(h3 c hc).1, ?_⟩, fun c hc => ?_⟩
  · show (if c ∈ gl then 118 else aS A c) = 113
    rw [if_neg (fun q => by
      have := (h4 c (hg c q)).2
      rw [(h3 c hc).2] at this
      cases this)]
    exact (h3 c hc).2
  · obtain ⟨q1, q2⟩ := List.mem_filter.mp hc
    refine ⟨(h4 c q1).1, ?_⟩
    show (if c ∈ gl then 118 else aS A c) = 109
    rw [if_neg (by simpa using q2)]
    exact (h4 c q1).2
theorem QI_rv {s : SG} {A : AS} {gl : List Nat} (h : QI s A) : QI s (rvA s gl A) := by
  refine ⟨fun c hc q => ?_, fun c hc q => ?_⟩
  · have q : (if c ∈ gl then 118 else aS A c) = 113 := q
    by_cases e : c ∈ gl
    · rw [if_pos e] at q
      cases q
    · rw [if_neg e] at q
      exact h.1 c hc q
  · have q : (if c ∈ gl then 118 else aS A c) = 109 := q
    by_cases e : c ∈ gl
    · rw [if_pos e] at q
      cases q
    · rw [if_neg e] at q
      exact List.mem_filter.mpr ⟨h.2 c hc q, by simp [e]⟩
/-- the merged changes gone through, k of them: what goes is told so, what stays moves up -/
def RvI (σ τ : SG) (M : Nat → Nat) (gl : List Nat) (k left : Nat) : Prop := (List.range left).map (τ 51 0 0) = ((List.range k).map M).filter (fun c => !decide (c ∈ gl)) ∧ (∀ x, left ≤ x → τ 51 0 0 x = M x) ∧ (∀ c, τ 52 0 0 c = if c ∈ (List.range k).map M ∧ c ∈ gl then 118 else σ 52 0 0 c) ∧ (∀ k' i j x, k' ≠ 51 → k' ≠ 52 → τ k' i j x = σ k' i j x) ∧ BD τ
section RVI
variable {σ τ : SG} {M : Nat → Nat} {gl : List Nat} {k left : Nat}
theorem RvI.l (h : RvI σ τ M gl k left) : (List.range left).map (τ 51 0 0) = ((List.range k).map M).filter (fun c => !decide (c ∈ gl)) := h.1
theorem RvI.m (h : RvI σ τ M gl k left) : ∀ x, left ≤ x → τ 51 0 0 x = M x := h.2.1
theorem RvI.s (h : RvI σ τ M gl k left) : ∀ c, τ 52 0 0 c = if c ∈ (List.range k).map M ∧ c ∈ gl then 118 else σ 52 0 0 c := h.2.2.1
theorem RvI.f (h : RvI σ τ M gl k left) : ∀ k' i j x, k' ≠ 51 → k' ≠ 52 → τ k' i j x = σ k' i j x := h.2.2.2.1
theorem RvI.b (h : RvI σ τ M gl k left) : BD τ := h.2.2.2.2
end RVI
theorem RvI.le {σ τ : SG} {M : Nat → Nat} {gl : List Nat} {k left : Nat} (h : RvI σ τ M gl k left) : left ≤ k := by
  have h1 := congrArg List.length h.l
  have h2 := List.length_filter_le (fun c => !decide (c ∈ gl)) ((List.range k).map M)
  rw [← h1] at h2
  simpa using h2
theorem RvI.zero {σ : SG} {M : Nat → Nat} {gl : List Nat} (hM : ∀ x, σ 51 0 0 x = M x) (hB : BD σ) : RvI σ σ M gl 0 0 := ⟨rfl, fun x _ => hM x, fun c => (if_neg (fun q => by cases q.1)).symm, fun _ _ _ _ _ _ => rfl, hB⟩
theorem RvI.go {σ τ : SG} {M : Nat → Nat} {gl : List Nat} {k left : Nat} (h : RvI σ τ M gl k left) (hg : M k ∈ gl) : RvI σ (up τ 52 0 0 (M k) 118) M gl (k + 1) left := by
  refine ⟨?_, fun x hx => (up_k (by decide)).trans (h.m x hx), fun c => ?_, fun k' i j x q1 q2 => (up_k q2).trans (h.f k' i j x q1 q2), BD.put h.b (by show 118 < 65536; decide)⟩
  · rw [List.range_succ, List.map_append, List.filter_append, ← h.l]
    rw [show ([k].map M).filter (fun c => !decide (c ∈ gl)) = [] by simp [hg], List.append_nil]
    exact List.map_congr_left (fun x _ => up_k (by decide))
  · rw [List.range_succ, List.map_append]
    by_cases e : c = M k
    · rw [e, up_same, if_pos ⟨List.mem_append_right _ (by simp), hg⟩]
    · rw [up_x e, h.s c]
      have : c ∈ (List.range k).map M ++ [k].map M ↔ c ∈ (List.range k).map M := by simp [e]
      simp only [this]
theorem RvI.stay {σ τ : SG} {M : Nat → Nat} {gl : List Nat} {k left : Nat} (h : RvI σ τ M gl k left) (hg : M k ∉ gl) (hk : M k < 16) : RvI σ (up τ 51 0 0 left (M k)) M gl (k + 1) (left + 1) := by
  refine ⟨?_, fun x hx => (up_x (by omega)).trans (h.m x (by omega)), fun c => ?_, fun k' i j x q1 q2 => (up_k q1).trans (h.f k' i j x q1 q2), BD.put h.b hk⟩
  · rw [List.range_succ, List.range_succ, List.map_append, List.map_append, List.filter_append, ← h.l]
    rw [show ([k].map M).filter (fun c => !decide (c ∈ gl)) = [M k] by simp [hg]]
    congr 1
    · exact List.map_congr_left (fun x hx => up_x (by have := List.mem_range.mp hx; omega))
    · show [up τ 51 0 0 left (M k) 51 0 0 left] = [M k]
      rw [up_same]
  · rw [up_k (by decide), h.s c, List.range_succ, List.map_append]
    by_cases e : c = M k
    · subst e
      rw [if_neg (fun q => hg q.2), if_neg (fun q => hg q.2)]
    · have : c ∈ (List.range k).map M ++ [k].map M ↔ c ∈ (List.range k).map M := by simp [e]
      simp only [this]
def ctS (τ : SG) (p : Nat) : SG := upr τ 31 0 0 (fun x => if x < p then τ 62 0 0 x else τ 31 0 0 x)
theorem ctS_0 (τ : SG) : ctS τ 0 = τ := (upr_row_eq (fun x => if_neg (Nat.not_lt_zero x))).trans (upr_id _ _ _ _)
theorem ctS_s (τ : SG) (p : Nat) : up (ctS τ p) 31 0 0 p (τ 62 0 0 p) = ctS τ (p + 1) := by
  unfold ctS
  rw [up_upr]
  refine upr_row_eq (fun x => ?_)
  by_cases e : x = p
  · rw [if_pos e, if_pos (by omega), e]
  · rw [if_neg e]
    by_cases e3 : x < p
    · rw [if_pos e3, if_pos (by omega)]
    · rw [if_neg e3, if_neg (by omega)]
theorem ctS_BD {τ : SG} (h : BD τ) (p : Nat) : BD (ctS τ p) := BD.putr h (fun x _ => by
  show (if _ then _ else _) < 100
  split
  · exact h 62 0 0 x rfl
  · exact h 31 0 0 x rfl)
theorem TM_rv {G : GT} {ok : KF} {ad : AD} {s σ τ : SG} {A : AS} {e left : Nat} {gl : List Nat} {M : Nat → Nat} (hT : TM G ok ad s σ A e) (hI : RvI σ τ M gl (σ 30 0 0 4) left) (hM : ∀ x, σ 51 0 0 x = M x) (hgl : ∀ c ∈ gl, c ∈ aM A) (hv : ∀ x, x < 64 → σ 62 0 0 x = rvT s gl (aM A) x) : TM G ok ad s (ctS (up τ 30 0 0 4 left) 64) (rvA s gl A) e ∧ MF σ (ctS (up τ 30 0 0 4 left) 64) := by
  obtain ⟨hB, hS, ⟨h1, h2, h3, h4, h5, h6⟩, hArr, hKM, hA, hQm⟩ := hT
  have hml : (List.range (σ 30 0 0 4)).map M = aM A := by
    rw [← h5]
    exact List.map_congr_left (fun x _ => (hM x).symm)
  have hf : MF σ (ctS (up τ 30 0 0 4 left) 64) := fun k i j x q => by
    have n31 : k ≠ 31 := by rintro rfl; cases q
    have n51 : k ≠ 51 := by rintro rfl; cases q
    have n52 : k ≠ 52 := by rintro rfl; cases q
    have n4 : ¬ (k = 30 ∧ x = 4) := by rintro ⟨rfl, rfl⟩; cases q
    show upr _ 31 0 0 _ k i j x = _
    rw [upr_k n31]
    show (if _ then _ else _) = _
    rw [if_neg (fun z => n4 ⟨z.1, z.2.2.2⟩)]
    exact hI.f k i j x n51 n52
  have hl := hI.le
  refine ⟨⟨ctS_BD (BD.put hI.b (by have := hB 30 0 0 4 rfl; show left < 17; have : σ 30 0 0 4 < 17 := this; omega)) 64, hS.mf hf, ⟨fun c hc => ?_, fun c hc => (hI.f 53 0 0 c (by decide) (by decide)).trans (h2 c hc), fun c hc x hx => (hI.f 43 c 0 x (by decide) (by decide)).trans (h3 c hc x hx), ?_, ?_, fun x hx => ?_⟩, hArr.of (by funext i j x; exact hf 54 i j x rfl) (by funext i j x; exact hf 55 i j x rfl) (by funext i j x; exact hf 56 i j x rfl), by rw [hf 30 0 0 5 rfl]; exact hKM, AI_rv hA hgl, QI_rv hQm⟩, hf⟩
  · show τ 52 0 0 c = if c ∈ gl then 118 else aS A c
    rw [hI.s c, hml, ← h1 c hc]
    by_cases e : c ∈ gl
    · rw [if_pos ⟨hgl c e, e⟩, if_pos e]
    · rw [if_neg (fun q => e q.2), if_neg e]
  · show _ = aQ A
    rw [← h4]
    exact lsM_eq (hI.f 30 0 0 3 (by decide) (by decide)) (fun x _ => hI.f 50 0 0 x (by decide) (by decide))
  · show lsM _ 1 = (aM A).filter (fun c => !decide (c ∈ gl))
    rw [← hml, ← hI.l]
    show (List.range (up τ 30 0 0 4 left 30 0 0 4)).map (τ 51 0 0) = _
    rw [up_same]
  · show (if x < 64 then up τ 30 0 0 4 left 62 0 0 x else _) = rvT s gl (aM A) x
    rw [if_pos hx, ← hv x hx]
    exact hI.f 62 0 0 x (by decide) (by decide)
