/-! ===== calls that write: class and model stay together ===== -/
theorem upx (σ : SG) (k i j x v y : Nat) : up σ k i j x v k i j y = if y = x then v else σ k i j y := congrFun (up_row σ k i j x v) y
/-- what the model's statics are told by -/
def CF (s s' : SG) : Prop := s' 0 = s 0 ∧ (∀ c, s' 6 c 0 3 = s 6 c 0 3) ∧ s' 7 = s 7 ∧ s' 16 0 0 0 = s 16 0 0 0 ∧ s' 18 = s 18
theorem SM.cf {s s' τ : SG} (h : SM s τ) (hf : CF s s') : SM s' τ := by
  obtain ⟨f1, f2, f3, f4, f5⟩ := hf
  unfold SM at *
  rw [f1, f3, f4, f5]
  simp only [f2]
  exact h
theorem layv_cf {s s' : SG} (hf : CF s s') : layv s' = layv s := by
  obtain ⟨f1, f2, f3, f4, f5⟩ := hf
  funext c v x
  unfold layv
  rw [f2, f3]
theorem apv_cf {s s' : SG} (hf : CF s s') (v : Nat → Nat) (d : Nat) : apv s' v d (nT s') = apv s v d (nT s) := by
  obtain ⟨f1, f2, f3, f4, f5⟩ := hf
  rw [show nT s' = nT s from f4, apv_18 f5]
theorem SND.cf {s s' : SG} {A A' : AS} (h : SND s A) (hf : CF s s') (hM : aM A' = aM A) (hT : aT A' = aT A) : SND s' A' := by
  unfold SND
  rw [layv_cf hf, hM, hT]
  exact ⟨h.1, fun d hd => by rw [apv_cf hf]; exact h.2 d hd⟩
section WRITES
variable {s τ : SG} {A : AS}
theorem ag_setOwner (h : RR s τ A) (d o t : Int32) : AG cd_setOwner s τ A (k_setOwner s d o t) (k6_setOwner τ d o t) := by
  obtain ⟨hBs, hBt, hC, hA, hQ, hS, hM, hX, hD⟩ := id h
  refine AG.guard rfl cd_setOwner_1 (fun d hd => AG.guard rfl cd_setOwner_2 (fun o ho => AG.guard rfl cd_setOwner_2 (fun t ht => AG.ite Iff.rfl (fun _ => AG.err cd_setOwner_2) (fun _ => ?_))))
  refine AG.ret (hX.1 d hd).1 ⟨BD.put (BD.put hBs ho) ht, BD.put (BD.put hBt ho) ht, hC, hA, hQ, hS, hM, ⟨fun d' hd' => ?_, hX.2⟩, hD⟩ rfl (((FS.refl s).up (by decide)).up (by decide)) (((FT.refl τ).up (by omega)).up (by omega)) (by omega)
  show up τ 36 0 0 d o 36 0 0 d' = up s 1 0 0 d o 1 0 0 d' ∧ up (up τ 36 0 0 d o) 37 0 0 d t 37 0 0 d' = up (up s 1 0 0 d o) 2 0 0 d t 2 0 0 d' ∧ τ 38 0 0 d' = s 3 0 0 d'
  rw [upx, upx, upx, upx]
  refine ⟨?_, ?_, (hX.1 d' hd').2.2⟩
  · rw [(hX.1 d' hd').1]
  · show (if d' = d then t else τ 37 0 0 d') = if d' = d then t else s 2 0 0 d'
    rw [(hX.1 d' hd').2.1]
theorem ag_setAway (h : RR s τ A) (p : Int32) {b : Nat} (hb : b < 2) : AG cd_setAway s τ A (k_setAway s p b) (k6_setAway τ p b) := by
  obtain ⟨hBs, hBt, hC, hA, hQ, hS, hM, hX, hD⟩ := id h
  refine AG.guard rfl rfl (fun p hp => ?_)
  refine AG.ret (hX.2.1 p hp) ⟨BD.put hBs hb, BD.put hBt hb, hC, hA, hQ, hS, hM, ⟨hX.1, fun p' hp' => ?_, hX.2.2⟩, hD⟩ rfl ((FS.refl s).up (by decide)) ((FT.refl τ).up (by omega)) (by omega)
  rw [upx, upx, hX.2.1 p' hp']
theorem ag_setFrozen (h : RR s τ A) (d : Int32) {b : Nat} (hb : b < 2) : AG cd_setFrozen s τ A (k_setFrozen s d b) (k6_setFrozen τ d b) := by
  obtain ⟨hBs, hBt, hC, hA, hQ, hS, hM, hX, hD⟩ := id h
  refine AG.guard rfl rfl (fun d hd => ?_)
  refine AG.ret (hX.1 d hd).2.2 ⟨BD.put hBs hb, BD.put hBt hb, hC, hA, hQ, hS, hM, ⟨fun d' hd' => ⟨(hX.1 d' hd').1, (hX.1 d' hd').2.1, ?_⟩, hX.2⟩, hD⟩ rfl ((FS.refl s).up (by decide)) ((FT.refl τ).up (by omega)) (by omega)
  rw [upx, upx, (hX.1 d' hd').2.2]
/-- a change's state is set -/
def stA (A : AS) (c v : Nat) (Q : List Nat) : AS := (fun x => if x = c then v else aS A x, aF A, aC A, Q, aM A, aT A, aK A)
theorem CF.st (s : SG) (c x v : Nat) (hx : x ≠ 3) : CF s (up s 6 c 0 x v) := ⟨rfl, fun c' => up_x (fun q => hx q.symm), rfl, rfl, rfl⟩
theorem CF.trans {a b c : SG} (h : CF a b) (h2 : CF b c) : CF a c := ⟨h2.1.trans h.1, fun x => (h2.2.1 x).trans (h.2.1 x), h2.2.2.1.trans h.2.2.1, h2.2.2.2.1.trans h.2.2.2.1, h2.2.2.2.2.trans h.2.2.2.2⟩
theorem up_c {σ : SG} {k c j x v c' x' : Nat} (h : ¬ (c' = c ∧ x' = x)) : up σ k c j x v k c' j x' = σ k c' j x' := by
  show (if _ then _ else _) = _
  rw [if_neg (fun q => h ⟨q.2.1, q.2.2.2⟩)]
theorem RX.st {s τ : SG} {c v w : Nat} (h : RX s τ) (hc : c < s 0 0 0 0) : RX (up s 6 c 0 1 v) (up τ 52 0 0 c w) := by
  obtain ⟨h1, h2, h3, h4, h5, h6, h7⟩ := h
  refine ⟨h1, h2, fun c' hc' => ?_, h4, h5, fun c' hc' h16 => ?_, h7⟩
  · rw [up_c (by omega)]
    exact h3 c' hc'
  · have hc' : s 0 0 0 0 ≤ c' := hc'
    have hne : c' ≠ c := by omega
    rw [up_c (by omega), up_c (by omega), up_c (by omega), up_c (by omega)]
    exact h6 c' hc' h16
theorem RR.st {c v : Nat} {Q : List Nat} (h : RR s τ A) (hc : c < s 0 0 0 0) (hv : v < 65536) (hA' : AI s (stA A c v Q)) (hQ' : QI s (stA A c v Q)) {s2 τ2 : SG} (hs2 : s2 = up s 6 c 0 1 v ∨ True) : RC (up s 6 c 0 1 v) (stA A c v (aQ A)) ∧ RM s (up τ 52 0 0 c v) (stA A c v (aQ A)) := by
  obtain ⟨hBs, hBt, hC, hA, hQ, hS, hM, hX, hD⟩ := id h
  obtain ⟨c1, c2, c3, c4, c5, c6⟩ := hC
  obtain ⟨m1, m2, m3, m4, m5, m6⟩ := hM
  refine ⟨⟨fun x hx => ?_, fun x hx => ?_, fun x hx y hy => ?_, c4, c5, c6⟩, ⟨fun x hx => ?_, m2, m3, m4, m5, m6⟩⟩
  · show up s 6 c 0 1 v 6 x 0 1 = if x = c then v else aS A x
    by_cases e : x = c
    · rw [e, up_same, if_pos rfl]
    · rw [up_i e, if_neg e]
      exact c1 x hx
  · rw [up_c (by omega)]
    exact c2 x hx
  · rw [up_c (by omega)]
    exact c3 x hx y hy
  · rw [upx]
    show (if x = c then v else τ 52 0 0 x) = if x = c then v else aS A x
    rw [m1 x hx]
theorem ag_close (h : RR s τ A) (c : Int32) : AG cd_close s τ A (k_close s c) (k6_close τ c) := by
  have hn17 := h.n17
  obtain ⟨hBs, hBt, hC, hA, hQ, hS, hM, hX, hD⟩ := id h
  refine AG.unl h cd_close_1 cd_close_2 (fun c hc hst => ?_)
  have hA' : AI s (stA A c 120 (aQ A)) := by
    obtain ⟨a1, a2, a3, a4⟩ := hA
    refine ⟨a1, a2, fun x hx => ⟨(a3 x hx).1, ?_⟩, fun x hx => ⟨(a4 x hx).1, ?_⟩⟩
    · show (if x = c then 120 else aS A x) = 113
      rw [if_neg (fun q => by subst q; rw [(a3 x hx).2] at hst; cases hst)]
      exact (a3 x hx).2
    · show (if x = c then 120 else aS A x) = 109
      rw [if_neg (fun q => by subst q; rw [(a4 x hx).2] at hst; cases hst)]
      exact (a4 x hx).2
  have hQ' : QI s (stA A c 120 (aQ A)) := by
    refine ⟨fun x hx q => ?_, fun x hx q => ?_⟩
    · have q : (if x = c then 120 else aS A x) = 113 := q
      by_cases e : x = c
      · rw [if_pos e] at q; cases q
      · rw [if_neg e] at q
        exact hQ.1 x hx q
    · have q : (if x = c then 120 else aS A x) = 109 := q
      by_cases e : x = c
      · rw [if_pos e] at q; cases q
      · rw [if_neg e] at q
        exact hQ.2 x hx q
  have hr := h.st (Q := aQ A) (s2 := s) (τ2 := s) hc (show 120 < 65536 by decide) hA' hQ' (.inr trivial)
  have hcf := CF.st s c 1 120 (by decide)
  refine AG.ret (hS.Emy hc) ⟨BD.put hBs (by show 120 < 65536; decide), BD.put hBt (by show 120 < 65536; decide), hr.1, hA', hQ', ?_, hr.2, hX.st hc, hD.cf hcf rfl rfl⟩ rfl ((FS.refl s).up (by decide)) ((FT.refl τ).up (by omega)) (Nat.le_succ _)
  exact (show SM s (up τ 52 0 0 c 120) from hS).cf hcf
end WRITES
