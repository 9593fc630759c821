/-! ===== a call of the class and the same call of the model agree ===== -/
def SND (s : SG) (A : AS) : Prop := (∀ x, x < 64 → aT A x = (aM A).foldl (fun v c => layv s c v) (fun _ => 0) x) ∧ ∀ d, d < 4 → apv s (aT A) d (nT s) = true
def RR (s τ : SG) (A : AS) : Prop := BD s ∧ BD τ ∧ RC s A ∧ AI s A ∧ QI s A ∧ SM s τ ∧ RM s τ A ∧ RX s τ ∧ SND s A
/-- a call that neither builds nor changes a test leaves all of this -/
def FS (s s' : SG) : Prop := ∀ k i j x, 16 ≤ k → s' k i j x = s k i j x
def FT (τ τ' : SG) : Prop := ∀ k i j x, (k < 30 ∨ 54 ≤ k ∨ (k = 30 ∧ (x = 0 ∨ 5 ≤ x))) → τ' k i j x = τ k i j x
theorem FS.refl (s : SG) : FS s s := fun _ _ _ _ _ => rfl
theorem FT.refl (s : SG) : FT s s := fun _ _ _ _ _ => rfl
theorem FS.up {s s' : SG} {k i j x v : Nat} (h : FS s s') (hk : k < 16) : FS s (up s' k i j x v) := fun k' i' j' x' q => (up_k (by omega)).trans (h k' i' j' x' q)
theorem FS.upr {s s' : SG} {k i j : Nat} {r : Nat → Nat} (h : FS s s') (hk : k < 16) : FS s (upr s' k i j r) := fun k' i' j' x' q => (upr_k (by omega)).trans (h k' i' j' x' q)
theorem FT.up {s s' : SG} {k i j x v : Nat} (h : FT s s') (hk : 30 ≤ k ∧ k < 54 ∧ ¬ (k = 30 ∧ (x = 0 ∨ 5 ≤ x))) : FT s (up s' k i j x v) := fun k' i' j' x' q => by
  rw [← h k' i' j' x' q]
  show (if _ then _ else _) = _
  rw [if_neg]
  rintro ⟨rfl, -, -, rfl⟩
  omega
theorem FT.upr {s s' : SG} {k i j : Nat} {r : Nat → Nat} (h : FT s s') (hk : 30 < k ∧ k < 54) : FT s (upr s' k i j r) := fun k' i' j' x' q => (upr_k (by omega)).trans (h k' i' j' x' q)
def AG (cd : String → Nat) (s τ : SG) (A : AS) (f : OC) (g : OM) : Prop := (∀ E, f = .inl E → g = .inl (cd E)) ∧ ∀ r s', f = .inr (r, s') → ∃ τ' A', g = .inr (r, τ') ∧ RR s' τ' A' ∧ aK A' = aK A ∧ FS s s' ∧ FT τ τ' ∧ (aQ A').length ≤ (aQ A).length + 1
theorem AG.err {cd : String → Nat} {s τ : SG} {A : AS} {E : String} {k : Nat} (h : cd E = k) : AG cd s τ A (.inl E) (.inl k) := ⟨fun E' q => (by cases q; rw [h]), fun _ _ q => (by cases q)⟩
theorem AG.ret {cd : String → Nat} {s τ s' τ' : SG} {A A' : AS} {r r' : Nat} (hr : r' = r) (h : RR s' τ' A') (h2 : aK A' = aK A) (h3 : FS s s') (h4 : FT τ τ') (h5 : (aQ A').length ≤ (aQ A).length + 1) : AG cd s τ A (.inr (r, s')) (.inr (r', τ')) := ⟨fun _ q => (by cases q), fun _ _ q => (by cases q; exact ⟨τ', A', by rw [hr], h, h2, h3, h4, h5⟩)⟩
theorem AG.same {cd : String → Nat} {s τ : SG} {A : AS} {r r' : Nat} (hr : r' = r) (h : RR s τ A) : AG cd s τ A (.inr (r, s)) (.inr (r', τ)) := AG.ret hr h rfl (FS.refl _) (FT.refl _) (by omega)
theorem AG.ite {cd : String → Nat} {s τ : SG} {A : AS} {c c' : Prop} [Decidable c] [Decidable c'] {f1 f2 : OC} {g1 g2 : OM} (h : c ↔ c') (h1 : c → AG cd s τ A f1 g1) (h2 : ¬ c → AG cd s τ A f2 g2) : AG cd s τ A (if c then f1 else f2) (if c' then g1 else g2) := by
  by_cases q : c
  · rw [if_pos q, if_pos (h.mp q)]
    exact h1 q
  · rw [if_neg q, if_neg (fun z => q (h.mpr z))]
    exact h2 q
theorem AG.guard {cd : String → Nat} {s τ : SG} {A : AS} {x : Int32} {N N' k : Nat} {E : String} {f : Nat → OC} {g : Nat → OM} (hN : N' = N) (hE : cd E = k) (h : ∀ n, n < N → AG cd s τ A (f n) (g n)) : AG cd s τ A (gR x N E f) (gM x N' k g) := by
  subst hN
  unfold gR gM
  cases e : inR x N' with
  | none => exact AG.err hE
  | some n => exact h n (inR_some e).2
theorem AG.span {cd : String → Nat} {s τ : SG} {A : AS} {x y : Int32} {k : Nat} {E : String} {f : Nat → Nat → OC} {g : Nat → Nat → OM} (hE : cd E = k) (h : ∀ a b, a < 16 → b < 4 → AG cd s τ A (f a b) (g a b)) : AG cd s τ A (gR x 16 E fun a => gR y 4 E fun b => f a b) (gS x y k g) := by
  unfold gR gS
  cases e : inR x 16 with
  | none => exact AG.err hE
  | some a =>
    dsimp only
    cases e2 : inR y 4 with
    | none => exact AG.err hE
    | some b => exact h a b (inR_some e).2 (inR_some e2).2
theorem AG.unl {cd : String → Nat} {s τ : SG} {A : AS} {x : Int32} {st : Nat} {f : Nat → OC} {g : Nat → OM} (hR : RR s τ A) (h1 : cd eNSE = 1) (h2 : cd eISE = 2) (h : ∀ n, n < s 0 0 0 0 → aS A n = st → AG cd s τ A (f n) (g n)) : AG cd s τ A (gR x (s 0 0 0 0) eNSE fun c => if s 6 c 0 1 ≠ st then .inl eISE else f c) (gU τ x st g) := by
  obtain ⟨hBs, hBt, hC, hA, hQ, hS, hM, hX, hD⟩ := hR
  have hn17 : s 0 0 0 0 < 17 := hBs 0 0 0 0 rfl
  unfold gR gU
  rw [hS.1]
  cases e : inR x (s 0 0 0 0) with
  | none => exact AG.err h1
  | some n =>
    have hn := (inR_some e).2
    dsimp only
    rw [hC.1 n (by omega), hM.1 n hn]
    by_cases q : aS A n = st
    · rw [if_neg (fun z => z q), if_neg (fun z => z q)]
      exact h n hn q
    · rw [if_pos q, if_pos q]
      exact AG.err h2
theorem eif {b : Bool} {v w : Nat} : (if (if b = true then v + 1 else 0) ≠ 0 then (if b = true then v + 1 else 0) - 1 else w) = if b = true then v else w := by cases b <;> simp
section READS
variable {s τ : SG} {A : AS}
theorem RR.n17 (h : RR s τ A) : s 0 0 0 0 < 17 := h.1 0 0 0 0 rfl
theorem ag_stateOf (h : RR s τ A) (c : Int32) : AG cd_stateOf s τ A (k_stateOf s c) (k6_stateOf τ c) := by
  have hn := h.n17
  obtain ⟨hBs, hBt, hC, hA, hQ, hS, hM, hX, hD⟩ := id h
  exact AG.guard hS.1 cd_stateOf_1 (fun n hn => AG.same ((hM.1 n hn).trans (hC.1 n (by omega)).symm) h)
theorem ag_hasFailed (h : RR s τ A) (c : Int32) : AG cd_hasFailed s τ A (k_hasFailed s c) (k6_hasFailed τ c) := by
  have hn := h.n17
  obtain ⟨hBs, hBt, hC, hA, hQ, hS, hM, hX, hD⟩ := id h
  exact AG.guard hS.1 cd_hasFailed_1 (fun n hn => AG.same ((hM.2.1 n (by omega)).trans (hC.2.1 n (by omega)).symm) h)
theorem ag_clashes (h : RR s τ A) (c : Int32) : AG cd_clashes s τ A (k_clashes s c) (k6_clashes τ c) := by
  have hn := h.n17
  obtain ⟨hBs, hBt, hC, hA, hQ, hS, hM, hX, hD⟩ := id h
  exact AG.guard hS.1 cd_clashes_1 (fun n hn => AG.same (cmy_pop hM hC (by omega) hn) h)
theorem ag_verdict (h : RR s τ A) (c d : Int32) : AG cd_verdict s τ A (k_verdict s c d) (k6_verdict τ c d) := by
  obtain ⟨hBs, hBt, hC, hA, hQ, hS, hM, hX, hD⟩ := id h
  exact AG.guard hS.1 cd_verdict_1 (fun n hn => AG.guard rfl cd_verdict_2 (fun d hd => AG.same (mvd_vrd hX hS hBs hn hd) h))
theorem ag_asked (h : RR s τ A) (c d : Int32) : AG cd_asked s τ A (k_asked s c d) (k6_asked τ c d) := by
  obtain ⟨hBs, hBt, hC, hA, hQ, hS, hM, hX, hD⟩ := id h
  refine AG.guard hS.1 cd_asked_1 (fun n hn => AG.guard rfl cd_asked_2 (fun d hd => ?_))
  rw [mask_ask hX hBs hn hd]
  exact AG.ite Iff.rfl (fun _ => AG.err cd_asked_1) (fun _ => AG.same rfl h)
theorem ag_missing (h : RR s τ A) (c : Int32) : AG cd_missing s τ A (k_missing s c) (k6_missing τ c) := by
  obtain ⟨hBs, hBt, hC, hA, hQ, hS, hM, hX, hD⟩ := id h
  exact AG.guard hS.1 cd_missing_1 (fun n hn => AG.same (mms_mis hX hS hBs hn) h)
theorem ls_at {τ s : SG} {w : Nat} (h : lsM τ w = lsO s w) {n : Nat} (hn : n < s 12 w 0 0) : τ 30 0 0 (w + 3) = s 12 w 0 0 ∧ τ (w + 50) 0 0 n = s 13 w 0 n := by
  have h1 := congrArg List.length h
  rw [lsM_len, lsO_len] at h1
  refine ⟨h1, ?_⟩
  have h2 := congrArg (fun l => l[n]?) h
  simp only [lsM, lsO, List.getElem?_map] at h2
  rw [List.getElem?_range (by omega), List.getElem?_range hn] at h2
  simpa using h2
theorem ls_n {τ s : SG} {w : Nat} (h : lsM τ w = lsO s w) : τ 30 0 0 (w + 3) = s 12 w 0 0 := by
  have h1 := congrArg List.length h
  rw [lsM_len, lsO_len] at h1
  exact h1
theorem ag_queueAt (h : RR s τ A) (c : Int32) : AG cd_queueAt s τ A (k_queueAt s c) (k6_queueAt τ c) := by
  obtain ⟨hBs, hBt, hC, hA, hQ, hS, hM, hX, hD⟩ := id h
  have e : lsM τ 0 = lsO s 0 := hM.2.2.2.1.trans hC.2.2.2.1.symm
  exact AG.guard (ls_n e) cd_queueAt_1 (fun n hn => AG.same (ls_at e hn).2 h)
theorem ag_mergedAt (h : RR s τ A) (c : Int32) : AG cd_mergedAt s τ A (k_mergedAt s c) (k6_mergedAt τ c) := by
  obtain ⟨hBs, hBt, hC, hA, hQ, hS, hM, hX, hD⟩ := id h
  have e : lsM τ 1 = lsO s 1 := hM.2.2.2.2.1.trans hC.2.2.2.2.1.symm
  exact AG.guard (ls_n e) cd_mergedAt_1 (fun n hn => AG.same (ls_at e hn).2 h)
theorem ag_value (h : RR s τ A) (f t : Int32) : AG cd_value s τ A (k_value s f t) (k6_value τ f t) := by
  obtain ⟨hBs, hBt, hC, hA, hQ, hS, hM, hX, hD⟩ := id h
  refine AG.span cd_value_1 (fun a b ha hb => AG.same ?_ h)
  rw [Nat.mul_comm 4 a]
  exact (hM.2.2.2.2.2 _ (by omega)).trans (hC.2.2.2.2.2 _ (by omega)).symm
theorem ag_valueWith (h : RR s τ A) (c f t : Int32) : AG cd_valueWith s τ A (k_valueWith s c f t) (k6_valueWith τ c f t) := by
  obtain ⟨hBs, hBt, hC, hA, hQ, hS, hM, hX, hD⟩ := id h
  refine AG.guard hS.1 cd_valueWith_1 (fun n hn => AG.span cd_valueWith_2 (fun a b ha hb => AG.same ?_ h))
  rw [Nat.mul_comm 4 a, hS.2.1 n hn _ (by omega), eif, (hM.2.2.2.2.2 _ (by omega)).trans (hC.2.2.2.2.2 _ (by omega)).symm]
theorem mrp_rpl (hS : SM s τ) {p : Nat} (hp : p < 64) : ∀ n, (∀ k, k < n → τ 51 0 0 k = s 13 1 0 k ∧ s 13 1 0 k < s 0 0 0 0) → mrp τ p n = rpl s p n
  | 0, _ => rfl
  | n + 1, hk => by
    obtain ⟨h1, h2⟩ := hk n (by omega)
    unfold mrp rpl
    rw [h1, hS.2.1 _ h2 p hp, eif, mrp_rpl hS hp n (fun k q => hk k (by omega))]
theorem RR.m13 (h : RR s τ A) : ∀ k, k < s 12 1 0 0 → τ 51 0 0 k = s 13 1 0 k ∧ s 13 1 0 k < s 0 0 0 0 := fun k hk => by
  obtain ⟨hBs, hBt, hC, hA, hQ, hS, hM, hX, hD⟩ := id h
  have e : lsM τ 1 = lsO s 1 := hM.2.2.2.2.1.trans hC.2.2.2.2.1.symm
  refine ⟨(ls_at e hk).2, (hA.2.2.2 _ ?_).1⟩
  rw [← hC.2.2.2.2.1]
  exact List.mem_map.mpr ⟨k, List.mem_range.mpr hk, rfl⟩
theorem ag_valueByMerges (h : RR s τ A) (f t : Int32) : AG cd_valueByMerges s τ A (k_valueByMerges s f t) (k6_valueByMerges τ f t) := by
  obtain ⟨hBs, hBt, hC, hA, hQ, hS, hM, hX, hD⟩ := id h
  have e : lsM τ 1 = lsO s 1 := hM.2.2.2.2.1.trans hC.2.2.2.2.1.symm
  refine AG.span cd_valueByMerges_1 (fun a b ha hb => AG.same ?_ h)
  rw [Nat.mul_comm 4 a, show τ 30 0 0 4 = s 12 1 0 0 from ls_n e]
  exact mrp_rpl hS (by omega) _ h.m13
theorem ag_isGood (h : RR s τ A) (d : Int32) : AG cd_isGood s τ A (k_isGood s d) (k6_isGood τ d) := by
  obtain ⟨hBs, hBt, hC, hA, hQ, hS, hM, hX, hD⟩ := id h
  refine AG.guard rfl cd_isGood_1 (fun d hd => AG.same ?_ h)
  rw [show mgo τ (τ 31 0 0) d (τ 30 0 0 1) = apv s (τ 31 0 0) d (nT s) from hS.Mgo _ _]
  rw [apv_v hBs (v' := s 15 0 0) (fun x hx => (hM.2.2.2.2.2 x hx).trans (hC.2.2.2.2.2 x hx).symm)]
end READS
