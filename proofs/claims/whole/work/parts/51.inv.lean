/-! ===== what always holds of the queue and of the merged changes ===== -/
def AI (σ : SG) (A : AS) : Prop := (aQ A).Nodup ∧ (aM A).Nodup ∧ (∀ c ∈ aQ A, c < σ 0 0 0 0 ∧ aS A c = 113) ∧ (∀ c ∈ aM A, c < σ 0 0 0 0 ∧ aS A c = 109)
theorem AI_len {n : Nat} : ∀ {l : List Nat}, l.Nodup → (∀ c ∈ l, c < n) → l.length ≤ n := by
  induction n with
  | zero =>
    intro l _ h
    cases l with
    | nil => exact Nat.le_refl _
    | cons c l => exact absurd (h c List.mem_cons_self) (by omega)
  | succ n ih =>
    intro l hd h
    have h1 : (l.filter (fun c => decide (c ≠ n))).length ≤ n := ih (hd.filter _) (fun c hc => by
      obtain ⟨q1, q2⟩ := List.mem_filter.mp hc
      have := h c q1
      have := of_decide_eq_true q2
      omega)
    have h2 : l.length ≤ (l.filter (fun c => decide (c ≠ n))).length + 1 := by
      clear h1 h ih
      induction l with
      | nil => exact Nat.zero_le _
      | cons c l ih =>
        obtain ⟨hc, hl⟩ := List.nodup_cons.mp hd
        by_cases e : c = n
        · subst e
          have : l.filter (fun x => decide (x ≠ c)) = l := List.filter_eq_self.mpr (fun x hx => decide_eq_true (fun q => hc (by rw [← q]; exact hx)))
          rw [List.filter_cons_of_neg (by simp), this]
          exact Nat.le_refl _
        · have := ih hl
          rw [List.filter_cons_of_pos (by simp [e])]
          simp only [List.length_cons]
          omega
    omega
theorem AI_mrg {σ : SG} {A : AS} {i : Nat} (h : AI σ A) (hi : i ∈ aQ A) : AI σ (mrgA σ A i) := by
  obtain ⟨h1, h2, h3, h4⟩ := h
  have hi3 := h3 i hi
  have him : i ∉ aM A := fun q => by
    have := (h4 i q).2
    rw [hi3.2] at this
    cases this
  refine ⟨h1.filter _, ?_, fun c hc => ?_, fun c hc => ?_⟩
  · show (aM A ++ [i]).Nodup
    rw [List.nodup_append]
    refine ⟨h2, by simp, fun a ha b hb => ?_⟩
    rw [List.mem_singleton.mp hb]
    exact fun q => him (by rw [← q]; exact ha)
  · obtain ⟨q1, q2⟩ := List.mem_filter.mp hc
    simp only [Bool.and_eq_true, decide_eq_true_eq, Bool.not_eq_true'] at q2
    refine ⟨(h3 c q1).1, ?_⟩
    show (if c = i then 109 else if hit σ A i c = true then 111 else aS A c) = 113
    rw [if_neg q2.1, if_neg (by rw [q2.2]; decide)]
    exact (h3 c q1).2
  · rcases List.mem_append.mp hc with q | q
    · refine ⟨(h4 c q).1, ?_⟩
      show (if c = i then 109 else if hit σ A i c = true then 111 else aS A c) = 109
      have hc9 := (h4 c q).2
      by_cases e : c = i
      · rw [if_pos e]
      · rw [if_neg e, if_neg (fun z => by
          unfold hit at z
          simp [hc9] at z)]
        exact hc9
    · rw [List.mem_singleton.mp q]
      refine ⟨hi3.1, ?_⟩
      show (if i = i then 109 else _) = 109
      rw [if_pos rfl]
theorem AI_fal {σ : SG} {A : AS} {i : Nat} (h : AI σ A) (hi : i ∈ aQ A) : AI σ (falA A i) := by
  obtain ⟨h1, h2, h3, h4⟩ := h
  refine ⟨h1.filter _, h2, fun c hc => ?_, fun c hc => ?_⟩
  · obtain ⟨q1, q2⟩ := List.mem_filter.mp hc
    have q3 := of_decide_eq_true q2
    refine ⟨(h3 c q1).1, ?_⟩
    show (if c = i then 111 else aS A c) = 113
    rw [if_neg q3]
    exact (h3 c q1).2
  · refine ⟨(h4 c hc).1, ?_⟩
    show (if c = i then 111 else aS A c) = 109
    have hc9 := (h4 c hc).2
    rw [if_neg (fun e => by
      subst e
      rw [(h3 c hi).2] at hc9
      cases hc9)]
    exact hc9
/-- what the merge of i leaves in the queue -/
theorem mrg_keep {σ : SG} {A : AS} {i c : Nat} (hc : c ∈ aQ A) (hne : c ≠ i) (hs : shr σ c i = false) : c ∈ aQ (mrgA σ A i) :=
  List.mem_filter.mpr ⟨hc, by simp [hne, hit, hs]⟩
theorem fal_keep {A : AS} {i c : Nat} (hc : c ∈ aQ A) (hne : c ≠ i) : c ∈ aQ (falA A i) := List.mem_filter.mpr ⟨hc, by simp [hne]⟩
