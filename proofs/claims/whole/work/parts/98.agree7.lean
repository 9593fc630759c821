/-! ===== the trunk is the replay of the merged changes, and its tests pass ===== -/
theorem inp_nil {s : SG} {v : Nat → Nat} {d : Nat} : ∀ n, inpv s v d n = [] → apv s v d n = true
  | 0, _ => rfl
  | n + 1, h => by
    have h2 : inpv s v d n = [] ∧ (if iso s n d = true then [v (s 18 n 0 0), v (s 18 n 0 1)] else []) = [] := List.append_eq_nil_iff.mp h
    show (allB _ 0 n && (!(iso s (0 + n) d) || psv s v (0 + n))) = true
    rw [Nat.zero_add]
    have e1 : allB (fun t => !(iso s t d) || psv s v t) 0 n = true := inp_nil n h2.1
    rw [e1, Bool.true_and]
    cases e : iso s n d with
    | false => rfl
    | true =>
      have := h2.2
      rw [e, if_pos rfl] at this
      cases this
theorem sbl_true {s : SG} {v : Nat → Nat} : ∀ r K, r ≤ 4 → (sbl s v r K).1 = true → ∀ d, 4 - r ≤ d → d < 4 → apv s v d (nT s) = true
  | 0, _, _, _, d, h1, h2 => absurd h1 (by omega)
  | r + 1, K, hr, h, d, h1, h2 => by
    by_cases e : inpv s v (3 - r) (nT s) = []
    · rw [sbl_e e] at h
      by_cases q : d = 3 - r
      · rw [q]; exact inp_nil _ e
      · exact sbl_true r K (by omega) h d (by omega) h2
    · cases g : apv s v (3 - r) (nT s) with
      | true =>
        rw [sbl_t e g] at h
        by_cases q : d = 3 - r
        · rw [q]; exact g
        · exact sbl_true r _ (by omega) h d (by omega) h2
      | false => rw [sbl_f e g] at h; cases h
theorem fold_aT {s : SG} : ∀ (b : List Nat) (A : AS), aT (b.foldl (mrgA s) A) = b.foldl (fun v c => layv s c v) (aT A) ∧ aM (b.foldl (mrgA s) A) = aM A ++ b
  | [], A => ⟨rfl, (List.append_nil _).symm⟩
  | i :: b, A => by
    obtain ⟨h1, h2⟩ := fold_aT b (mrgA s A i)
    rw [List.foldl_cons, List.foldl_cons]
    refine ⟨h1, ?_⟩
    rw [h2]
    show (aM A ++ [i]) ++ b = _
    rw [List.append_assoc]
    rfl
theorem SND_trs {s : SG} : ∀ (f : Nat) (b : List Nat) (A : AS), SND s A → SND s (trsA s f b A).2.1
  | 0, _, _, h => h
  | f + 1, b, A, h => by
    by_cases g : (sbl s (b.foldl (fun v c => layv s c v) (aT A)) 4 (aK A)).1 = true
    · rw [trs_t g]
      obtain ⟨e1, e2⟩ := fold_aT (s := s) b (setK A (sbl s (b.foldl (fun v c => layv s c v) (aT A)) 4 (aK A)).2.1)
      refine ⟨fun x hx => ?_, fun d hd => ?_⟩
      · show aT (b.foldl (mrgA s) (setK A (sbl s (b.foldl (fun v c => layv s c v) (aT A)) 4 (aK A)).2.1)) x = (aM (b.foldl (mrgA s) (setK A (sbl s (b.foldl (fun v c => layv s c v) (aT A)) 4 (aK A)).2.1))).foldl (fun v c => layv s c v) (fun _ => 0) x
        rw [e1, e2, List.foldl_append]
        exact fold_v h.1 b x hx
      · show apv s (aT (b.foldl (mrgA s) _)) d (nT s) = true
        rw [e1]
        exact sbl_true 4 _ (Nat.le_refl _) g d (by omega) hd
    · by_cases l : b.length ≤ 1
      · rw [trs_1 g l]
        exact h
      · rw [trs_h g l]
        exact SND_trs f _ _ (SND_trs f _ (setK A _) h)
theorem SND_step {s : SG} {A : AS} (h : SND s A) : SND s (ro_step s A).2.1 := by
  unfold ro_step
  split
  · exact h
  · exact SND_trs 3 _ _ h
theorem SND_revert {s : SG} {A : AS} (h : SND s A) (c : Int32) : SND s (ro_revert s A c).2.1 := by
  unfold ro_revert
  cases e : inR c (s 0 0 0 0) with
  | none => exact h
  | some n =>
    dsimp only
    split
    · exact h
    split
    · rename_i g
      refine ⟨fun x hx => rfl, fun d hd => sbl_true 4 _ (Nat.le_refl _) g d (by omega) hd⟩
    · exact h
section SOUND
variable {s τ : SG} {A : AS}
theorem rpl_fold (s : SG) (p : Nat) : ∀ n, rpl s p n = ((List.range n).map (s 13 1 0)).foldl (fun v c => layv s c v) (fun _ => 0) p
  | 0 => rfl
  | n + 1 => by
    rw [List.range_succ, List.map_append, List.foldl_append]
    show rpl s p (n + 1) = layv s (s 13 1 0 n) _ p
    unfold rpl layv
    rw [rpl_fold s p n]
    rfl
theorem snd_true (h : RR s τ A) : snd s = true := by
  obtain ⟨hBs, hBt, hC, hA, hQ, hS, hM, hX, hD⟩ := id h
  unfold snd
  rw [Bool.and_eq_true, allB_iff, allB_iff]
  refine ⟨fun d _ hd => ?_, fun p _ hp => ?_⟩
  · rw [apv_v hBs (v' := aT A) (fun x hx => hC.2.2.2.2.2 x hx)]
    exact hD.2 d (by omega)
  · refine decide_eq_true ?_
    rw [hC.2.2.2.2.2 p (by omega), hD.1 p (by omega), rpl_fold, ← hC.2.2.2.2.1]
    rfl
theorem mme_sme (h : RR s τ A) : mme τ (τ 30 0 0 4) = sme s (s 12 1 0 0) ∧ τ 30 0 0 4 = s 12 1 0 0 := by
  obtain ⟨hBs, hBt, hC, hA, hQ, hS, hM, hX, hD⟩ := id h
  have e : lsM τ 1 = lsO s 1 := hM.2.2.2.2.1.trans hC.2.2.2.2.1.symm
  have e4 : τ 30 0 0 4 = s 12 1 0 0 := ls_n e
  refine ⟨?_, e4⟩
  rw [e4]
  have key : ∀ n, n ≤ s 12 1 0 0 → mme τ n = sme s n := fun n => by
    induction n with
    | zero => intro _; rfl
    | succ n ih =>
      intro hn
      obtain ⟨h1, h2⟩ := h.m13 n (by omega)
      show mme τ n + emy τ (τ 51 0 0 n) 64 = sme s n + pop (s 6 (s 13 1 0 n) 0 3)
      rw [ih (by omega), h1, hS.Emy h2]
  exact key _ (Nat.le_refl _)
end SOUND
