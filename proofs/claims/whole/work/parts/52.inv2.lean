/-- a batch: queued changes that share nothing with one another -/
def BI (σ : SG) (A : AS) (b : List Nat) : Prop := b.Nodup ∧ (∀ c ∈ b, c ∈ aQ A) ∧ ∀ c ∈ b, ∀ c' ∈ b, c ≠ c' → shr σ c c' = false
def kept (σ : SG) (A : AS) (b : List Nat) (A' : AS) : Prop := ∀ c ∈ aQ A, c ∉ b → (∀ x ∈ b, shr σ c x = false) → c ∈ aQ A'
theorem fold_inv {σ : SG} : ∀ {b : List Nat} {A : AS}, AI σ A → BI σ A b → AI σ (b.foldl (mrgA σ) A) ∧ kept σ A b (b.foldl (mrgA σ) A)
  | [], _, h, _ => ⟨h, fun _ hc _ _ => hc⟩
  | i :: b, A, h, hb => by
    obtain ⟨b1, b2, b3⟩ := hb
    obtain ⟨n1, n2⟩ := List.nodup_cons.mp b1
    have hi := b2 i List.mem_cons_self
    have hb2 : BI σ (mrgA σ A i) b := ⟨n2, fun c hc => mrg_keep (b2 c (List.mem_cons_of_mem _ hc)) (fun q => n1 (by rw [← q]; exact hc)) (b3 c (List.mem_cons_of_mem _ hc) i List.mem_cons_self (fun q => n1 (by rw [← q]; exact hc))), fun c hc c' hc' => b3 c (List.mem_cons_of_mem _ hc) c' (List.mem_cons_of_mem _ hc')⟩
    obtain ⟨r1, r2⟩ := fold_inv (AI_mrg h hi) hb2
    refine ⟨r1, fun c hc hn hs => ?_⟩
    exact r2 c (mrg_keep hc (fun q => hn (by rw [q]; exact List.mem_cons_self)) (hs i List.mem_cons_self)) (fun q => hn (List.mem_cons_of_mem _ q)) (fun x hx => hs x (List.mem_cons_of_mem _ hx))
theorem BI.sub {σ : SG} {A : AS} {b b' : List Nat} (h : BI σ A b) (hs : b'.Sublist b) : BI σ A b' :=
  ⟨hs.nodup h.1, fun c hc => h.2.1 c (hs.subset hc), fun c hc c' hc' => h.2.2 c (hs.subset hc) c' (hs.subset hc')⟩
theorem trs_inv {σ : SG} : ∀ (f : Nat) {b : List Nat} {A : AS}, AI σ A → BI σ A b → b ≠ [] → AI σ (trsA σ f b A).2.1 ∧ kept σ A b (trsA σ f b A).2.1
  | 0, _, _, h, _, _ => ⟨h, fun _ hc _ _ => hc⟩
  | f + 1, b, A, h, hb, hne => by
    have hA1 : AI σ (setK A (sbl σ (b.foldl (fun v c => layv σ c v) (aT A)) 4 (aK A)).2.1) := h
    have hb1 : BI σ (setK A (sbl σ (b.foldl (fun v c => layv σ c v) (aT A)) 4 (aK A)).2.1) b := hb
    unfold trsA
    dsimp only
    split
    · exact fold_inv hA1 hb1
    · split
      · rename_i hl
        cases b with
        | nil => exact absurd rfl hne
        | cons i b =>
          refine ⟨AI_fal hA1 (hb1.2.1 i List.mem_cons_self), fun c hc hn _ => fal_keep hc (fun q => hn (by rw [q]; exact List.mem_cons_self))⟩
      · rename_i hl
        have ht : b.take (b.length / 2) ≠ [] := fun q => by
          have := congrArg List.length q
          rw [List.length_take, List.length_nil] at this
          omega
        have hd : b.drop (b.length / 2) ≠ [] := fun q => by
          have := congrArg List.length q
          rw [List.length_drop, List.length_nil] at this
          omega
        have hdis : ∀ c ∈ b.drop (b.length / 2), c ∉ b.take (b.length / 2) := fun c hc hc2 => by
          have h3 := hb.1
          rw [← List.take_append_drop (b.length / 2) b, List.nodup_append] at h3
          exact h3.2.2 c hc2 c hc rfl
        obtain ⟨r1, r2⟩ := trs_inv f hA1 (hb1.sub (List.take_sublist _ _)) ht
        have hb2 : BI σ (trsA σ f (b.take (b.length / 2)) (setK A (sbl σ (b.foldl (fun v c => layv σ c v) (aT A)) 4 (aK A)).2.1)).2.1 (b.drop (b.length / 2)) :=
          ⟨(List.drop_sublist _ _).nodup hb.1, fun c hc => r2 c (hb.2.1 c ((List.drop_sublist _ _).subset hc)) (hdis c hc) (fun x hx => hb.2.2 c ((List.drop_sublist _ _).subset hc) x ((List.take_sublist _ _).subset hx) (fun q => hdis c hc (by rw [q]; exact hx))), fun c hc c' hc' => hb.2.2 c ((List.drop_sublist _ _).subset hc) c' ((List.drop_sublist _ _).subset hc')⟩
        obtain ⟨s1, s2⟩ := trs_inv f r1 hb2 hd
        refine ⟨s1, fun c hc hn hs => s2 c (r2 c hc (fun q => hn ((List.take_sublist _ _).subset q)) (fun x hx => hs x ((List.take_sublist _ _).subset hx))) (fun q => hn ((List.drop_sublist _ _).subset q)) (fun x hx => hs x ((List.drop_sublist _ _).subset hx))⟩
