section TESTS
variable {G : GT} {ok : KF} {ad : AD} {σ s' τ τ0 τx : SG} {A : AS} {e i : Nat}
theorem kM_lo {k x : Nat} (h : k < 30) : kM k x = false := by
  have h1 : ∀ n, 30 ≤ n → (k == n) = false := fun n hn => by simp; omega
  unfold kM
  rw [h1 30 (by decide), h1 54 (by decide), h1 55 (by decide), h1 56 (by decide)]
  rfl
theorem kM_mid {k x : Nat} (h1 : 30 ≤ k) (h2 : k < 54) (h3 : ¬ (k = 30 ∧ (x = 0 ∨ 5 ≤ x))) : kM k x = false := by
  have g : ∀ n, 54 ≤ n → (k == n) = false := fun n hn => by simp; omega
  unfold kM
  rw [g 54 (by decide), g 55 (by decide), g 56 (by decide)]
  by_cases e : k = 30
  · have a5 : (x == 5) = false := by simp; omega
    have a6 : (x == 6) = false := by simp; omega
    rw [a5, a6]
    simp
  · rw [show (k == 30) = false by simp [e]]
    rfl
/-- after a change of the tests -/
theorem INV.tests (h : INV G ok ad σ A e i) (hR : RR s' τ0 A) (hTF : TFr σ s' τ τ0) (h1 : ∀ k i j x, ¬ (k = 60 ∨ k = 61) → ¬ (k = 30 ∧ x = 0) → τ k i j x = s' k i j x) (hB : BD (mxS τ0 τx)) (hArr : Arr G ok ad (mxS τ0 τx) [] e) (hc5 : τx 30 0 0 5 = τ0 30 0 0 5) (hc6 : τx 30 0 0 6 = τ0 30 0 0 6) : INV G ok ad (mxS τ0 τx) (setK A []) e (i + 1) := by
  obtain ⟨g1, ⟨g2, g3⟩, ⟨g4, g5⟩, g6, c5, c1, c6, cK, cq, ct, ce⟩ := h
  obtain ⟨⟨u, hu, hu2⟩, hFT⟩ := hTF
  have mlo : ∀ k i j x, k < 30 → mxS τ0 τx k i j x = τ0 k i j x := fun k i j x q => by
    show (bif kM k x then _ else _) = _
    rw [kM_lo q]
    rfl
  have lo : ∀ k i j x, k < 30 → mxS τ0 τx k i j x = s' k i j x := fun k i j x q => ((mlo k i j x q).trans (hFT k i j x (.inl q))).trans (h1 k i j x (by omega) (by omega))
  have s16 : ∀ i j x, x ≠ 0 → s' 16 i j x = σ 16 i j x := fun i j x q => by
    rw [hu, fgt_k (by decide)]
    exact hu2 16 i j x (by decide) (by decide) (fun z => q z.2)
  have t30 : ∀ x, 5 ≤ x → τ0 30 0 0 x = σ 30 0 0 x := fun x q => by
    rw [hFT 30 0 0 x (.inr (.inr ⟨rfl, .inr q⟩)), h1 30 0 0 x (by omega) (by omega), hu, fgt_k (by decide)]
    exact hu2 30 0 0 x (by decide) (by decide) (by omega)
  have m5 : mxS τ0 τx 30 0 0 5 = σ 30 0 0 5 := hc5.trans (t30 5 (by decide))
  have m6 : mxS τ0 τx 30 0 0 6 = σ 30 0 0 6 := hc6.trans (t30 6 (by decide))
  have r1 : RR s' (mxS τ0 τx) A := hR.tm hB (fun k i j x q1 q2 q3 => by
    show (bif kM k x then _ else _) = _
    rw [kM_mid q1 q2 q3]
    rfl)
  have r2 : RR (mxS τ0 τx) (mxS τ0 τx) A := r1.fr lo
  have ek : ∀ k, k < 30 → mxS τ0 τx k = s' k := fun k q => by funext i j x; exact lo k i j x q
  have e16 : ∀ x, x ≠ 0 → mxS τ0 τx 16 0 0 x = σ 16 0 0 x := fun x q => (lo 16 0 0 x (by decide)).trans (s16 0 0 x q)
  refine ⟨r2, ⟨?_, fun x hx => by cases hx⟩, ⟨hArr, by rw [m5]; exact g5⟩, g6, ?_⟩
  · have k1 : CK ok ad (fgt u 4) [] := CK.none (by rw [hu2 16 0 0 1 (by decide) (by decide) (by omega)]; exact g2.2)
    rw [← hu] at k1
    exact k1.same (ek 19 (by decide)) (ek 21 (by decide)) (ek 22 (by decide)) (by rw [ek 16 (by decide)])
  · rw [m5, m6, e16 1 (by decide), e16 2 (by decide), e16 3 (by decide)]
    exact ⟨c5, c1, c6, Nat.zero_le _, by show σ 16 0 0 2 + 6 * (aQ A).length ≤ _; omega, by omega, ce⟩
end TESTS
/-! ===== the batch leaves the queue ===== -/
theorem filt_two {l : List Nat} {p q : Nat → Bool} (h : ∀ x ∈ l, p x = true → q x = true) : (l.filter p).length ≤ (l.filter q).length := by
  induction l with
  | nil => exact Nat.le_refl _
  | cons a l ih =>
    have ih := ih (fun x hx => h x (List.mem_cons_of_mem _ hx))
    cases hp : p a with
    | true =>
      rw [List.filter_cons_of_pos hp, List.filter_cons_of_pos (h a List.mem_cons_self hp)]
      exact Nat.succ_le_succ ih
    | false =>
      rw [List.filter_cons_of_neg (by rw [hp]; decide)]
      cases hq : q a with
      | true =>
        rw [List.filter_cons_of_pos hq]
        exact Nat.le_succ_of_le ih
      | false =>
        rw [List.filter_cons_of_neg (by rw [hq]; decide)]
        exact ih
/-- what is left of the queue holds nothing of the batch, and nothing new -/
theorem trs_q {s : SG} : ∀ (f : Nat) (b : List Nat) (A : AS), AI s A → BI s A b → b ≠ [] → b.length ≤ 2 ^ f → (∀ c ∈ aQ (trsA s (f + 1) b A).2.1, c ∈ aQ A ∧ c ∉ b)
  | f, b, A, hA, hb, hne, hl => by
    have hfold : ∀ (b : List Nat) (A : AS), ∀ c ∈ aQ (b.foldl (mrgA s) A), c ∈ aQ A ∧ c ∉ b := fun b => by
      induction b with
      | nil => intro A c hc; exact ⟨hc, by simp⟩
      | cons i b ih =>
        intro A c hc
        obtain ⟨h1, h2⟩ := ih (mrgA s A i) c hc
        obtain ⟨h3, h4⟩ := List.mem_filter.mp h1
        simp only [Bool.and_eq_true, decide_eq_true_eq] at h4
        exact ⟨h3, fun q => (List.mem_cons.mp q).elim h4.1 h2⟩
    by_cases g : (sbl s (b.foldl (fun v c => layv s c v) (aT A)) 4 (aK A)).1 = true
    · rw [trs_t g]
      exact hfold b _
    · by_cases l : b.length ≤ 1
      · rw [trs_1 g l]
        intro c hc
        obtain ⟨h1, h2⟩ := List.mem_filter.mp hc
        refine ⟨h1, ?_⟩
        cases b with
        | nil => exact absurd rfl hne
        | cons i b =>
          cases b with
          | cons j b => exact absurd l (by simp)
          | nil =>
            have h2 : c ≠ i := of_decide_eq_true h2
            simpa using h2
      · cases f with
        | zero => exact absurd hl (by show ¬ b.length ≤ 1; exact l)
        | succ f =>
          rw [trs_h g l]
          have ht : b.take (b.length / 2) ≠ [] := fun q => by
            have := congrArg List.length q
            rw [List.length_take, List.length_nil] at this
            omega
          have hd : b.drop (b.length / 2) ≠ [] := fun q => by
            have := congrArg List.length q
            rw [List.length_drop, List.length_nil] at this
            omega
          have hA1 : AI s (setK A (sbl s (b.foldl (fun v c => layv s c v) (aT A)) 4 (aK A)).2.1) := hA
          have hb1 : BI s (setK A (sbl s (b.foldl (fun v c => layv s c v) (aT A)) 4 (aK A)).2.1) (b.take (b.length / 2)) := BI.sub (b := b) hb (List.take_sublist _ _)
          have hp : 2 ^ (f + 1) = 2 * 2 ^ f := by rw [Nat.pow_succ]; omega
          have r1 := trs_q f _ _ hA1 hb1 ht (by rw [List.length_take]; omega)
          obtain ⟨i1, i2⟩ := trs_inv (f + 1) hA1 hb1 ht
          have hdis : ∀ c ∈ b.drop (b.length / 2), c ∉ b.take (b.length / 2) := fun c hc hc2 => by
            have h3 := hb.1
            rw [← List.take_append_drop (b.length / 2) b, List.nodup_append] at h3
            exact h3.2.2 c hc2 c hc rfl
          have hb2 : BI s (trsA s (f + 1) (b.take (b.length / 2)) (setK A (sbl s (b.foldl (fun v c => layv s c v) (aT A)) 4 (aK A)).2.1)).2.1 (b.drop (b.length / 2)) :=
            ⟨(List.drop_sublist _ _).nodup hb.1, fun c hc => i2 c (hb.2.1 c ((List.drop_sublist _ _).subset hc)) (hdis c hc) (fun x hx => hb.2.2 c ((List.drop_sublist _ _).subset hc) x ((List.take_sublist _ _).subset hx) (fun q => hdis c hc (by rw [q]; exact hx))), fun c hc c' hc' => hb.2.2 c ((List.drop_sublist _ _).subset hc) c' ((List.drop_sublist _ _).subset hc')⟩
          have r2 := trs_q f _ _ i1 hb2 hd (by rw [List.length_drop]; omega)
          intro c hc
          obtain ⟨q1, q2⟩ := r2 c hc
          obtain ⟨q3, q4⟩ := r1 c q1
          refine ⟨q3, fun q => ?_⟩
          rw [← List.take_append_drop (b.length / 2) b] at q
          exact (List.mem_append.mp q).elim q4 q2
theorem nodup_len : ∀ {l m : List Nat}, l.Nodup → (∀ c ∈ l, c ∈ m) → l.length ≤ m.length
  | [], _, _, _ => Nat.zero_le _
  | c :: l, m, hd, h => by
    obtain ⟨n1, n2⟩ := List.nodup_cons.mp hd
    have hm : c ∈ m := h c List.mem_cons_self
    have h1 : ∀ x ∈ l, x ∈ m.erase c := fun x hx => by
      have hne : x ≠ c := fun q => n1 (by rw [← q]; exact hx)
      exact (List.mem_erase_of_ne hne).mpr (h x (List.mem_cons_of_mem _ hx))
    have h2 := nodup_len n2 h1
    rw [List.length_erase_of_mem hm] at h2
    have h3 : 0 < m.length := List.length_pos_of_mem hm
    show l.length + 1 ≤ m.length
    omega
theorem step_q {s : SG} {A : AS} (hA : AI s A) : (aQ (ro_step s A).2.1).length + (pck s (aQ A)).length ≤ (aQ A).length := by
  unfold ro_step
  have hp := pck_BI hA
  split
  · rename_i h
    rw [h]
    exact Nat.le_refl _
  · rename_i h
    have hi := (trs_inv 3 hA hp.1 h).1
    have hq := trs_q 2 _ A hA hp.1 h hp.2
    rw [← List.length_append]
    refine nodup_len (List.nodup_append.mpr ⟨hi.1, hp.1.1, fun a ha b hb e => (hq a ha).2 (by rw [e]; exact hb)⟩) (fun c hc => ?_)
    rcases List.mem_append.mp hc with q | q
    · exact (hq c q).1
    · exact hp.1.2.1 c q
