theorem cnt_z {f : Nat → Bool} : ∀ n, cnt f n = 0 ↔ ∀ i, i < n → f i = false
  | 0 => ⟨fun _ i hi => absurd hi (Nat.not_lt_zero _), fun _ => rfl⟩
  | n + 1 => by
    show cnt f n + b2n (f n) = 0 ↔ _
    constructor
    · intro h i hi
      have h1 : cnt f n = 0 := by omega
      have h2 : b2n (f n) = 0 := by omega
      by_cases e : i = n
      · rw [e]; exact b2n_0 h2
      · exact (cnt_z n).mp h1 i (by omega)
    · intro h
      rw [(cnt_z n).mpr (fun i hi => h i (by omega)), h n (by omega)]
      rfl
theorem pop_z {m : Nat} (hm : m < 2 ^ 64) : pop m = 0 ↔ m = 0 := by
  constructor
  · intro h
    have h1 := (cnt_z 64).mp h
    apply Nat.eq_of_testBit_eq
    intro i
    rw [Nat.zero_testBit]
    by_cases hi : i < 64
    · exact h1 i hi
    · exact Nat.testBit_lt_two_pow (Nat.lt_of_lt_of_le hm (Nat.pow_le_pow_right (by decide) (by omega)))
  · rintro rfl
    exact (cnt_z 64).mpr (fun i _ => Nat.zero_testBit i)
section WRITES4
variable {s τ : SG} {A : AS}
theorem ag_vote (h : RR s τ A) (c p : Int32) {b : Nat} : AG cd_vote s τ A (k_vote s c p b) (k6_vote τ c p b) := by
  have hn17 := h.n17
  obtain ⟨hBs, hBt, hC, hA, hQ, hS, hM, hX, hD⟩ := id h
  refine AG.guard hS.1 cd_vote_1 (fun c hc => AG.guard rfl cd_vote_2 (fun p hp => AG.ite (by rw [hX.2.2.1 c hc]) (fun _ => AG.err cd_vote_2) (fun _ => AG.ite (by rw [hC.1 c (by omega), hM.1 c hc]) (fun _ => AG.err cd_vote_3) (fun _ => ?_))))
  obtain ⟨w1, w2, w3, w4, w5, w6, w7⟩ := hX
  by_cases hb : b = 0
  · subst hb
    have t45 : ∀ x y, mvt τ c p 0 64 45 x 0 y = if x = c ∧ y = p then 98 else τ 45 x 0 y := fun x y => by
      show up τ 45 c 0 p 98 45 x 0 y = _
      by_cases e : x = c ∧ y = p
      · rw [if_pos e, e.1, e.2, up_same]
      · rw [if_neg e, up_c e]
    have s8 : ∀ x y, vA s c p 8 x 0 y = if x = c ∧ y = p then 2 else s 8 x 0 y := fun x y => by
      show up s 8 c 0 p 2 8 x 0 y = _
      by_cases e : x = c ∧ y = p
      · rw [if_pos e, e.1, e.2, up_same]
      · rw [if_neg e, up_c e]
    refine AG.ret rfl ⟨vA_BD hBs, mvt_BD hBt _ _ _ _, hC, hA, hQ, hS, hM, ⟨w1, w2, w3, fun x hx y hy => ?_, fun x hx y hy h8 z hz => ?_, fun x hx hx16 => ?_, w7⟩, hD⟩ rfl (((FS.refl s).up (by decide)).up (by decide)) (((FT.refl τ).up (by omega)).upr (by omega)) (Nat.le_succ _)
    · rw [t45, s8]
      by_cases e : x = c ∧ y = p
      · rw [if_pos e, if_pos e]; rfl
      · rw [if_neg e, if_neg e]; exact w4 x hx y hy
    · rw [s8] at h8
      have e : ¬ (x = c ∧ y = p) := fun e => by rw [if_pos e] at h8; cases h8
      rw [if_neg e] at h8
      show upr (up τ 45 c 0 p 98) 48 c p _ 48 x y z = if (up (up s 8 c 0 p 2) 9 c 0 p 0 9 x 0 y).testBit z = true then s 11 x y z + 1 else 0
      rw [up_c e, congrFun (upr_off _ _ (fun q => e ⟨q.2.1, q.2.2⟩)) z]
      exact w5 x hx y hy h8 z hz
    · have hx : s 0 0 0 0 ≤ x := hx
      obtain ⟨a1, a2, a3, a4, a5⟩ := w6 x hx hx16
      exact ⟨a1, a2, a3, a4, fun y hy => by rw [s8, if_neg (by omega)]; exact a5 y hy⟩
  · have hif : ∀ {α : Type} (u v : α), (if b = 0 then u else v) = v := fun u v => if_neg hb
    rw [hif, hif]
    have t45 : ∀ x y, mvt τ c p b 64 45 x 0 y = if x = c ∧ y = p then 97 else τ 45 x 0 y := fun x y => by
      show up τ 45 c 0 p (if b = 0 then 98 else 97) 45 x 0 y = _
      rw [hif]
      by_cases e : x = c ∧ y = p
      · rw [if_pos e, e.1, e.2, up_same]
      · rw [if_neg e, up_c e]
    have s8 : ∀ x y, vF s c p 8 x 0 y = if x = c ∧ y = p then 1 else s 8 x 0 y := fun x y => by
      show up s 8 c 0 p 1 8 x 0 y = _
      by_cases e : x = c ∧ y = p
      · rw [if_pos e, e.1, e.2, up_same]
      · rw [if_neg e, up_c e]
    refine AG.ret (hS.Emy hc) ⟨vF_BD hBs, mvt_BD hBt _ _ _ _, hC, hA, hQ, hS, hM, ⟨w1, w2, w3, fun x hx y hy => ?_, fun x hx y hy h8 z hz => ?_, fun x hx hx16 => ?_, w7⟩, hD⟩ rfl ((((FS.refl s).up (by decide)).up (by decide)).upr (by decide)) (((FT.refl τ).up (by omega)).upr (by omega)) (Nat.le_succ _)
    · rw [t45, s8]
      by_cases e : x = c ∧ y = p
      · rw [if_pos e, if_pos e]; rfl
      · rw [if_neg e, if_neg e]; exact w4 x hx y hy
    · show upr (up τ 45 c 0 p _) 48 c p (fun x => if x < 64 then (if b = 0 then 0 else τ 41 c 0 x) else τ 48 c p x) 48 x y z = if (up (up s 8 c 0 p 1) 9 c 0 p (s 6 c 0 3) 9 x 0 y).testBit z = true then upr (up (up s 8 c 0 p 1) 9 c 0 p (s 6 c 0 3)) 11 c p (fun x => if x < 64 then s 7 c 0 x else s 11 c p x) 11 x y z + 1 else 0
      by_cases e : x = c ∧ y = p
      · rw [e.1, e.2, up_same, upr_same, upr_same, if_pos hz, if_pos hz, hif]
        exact hS.2.1 c hc z hz
      · rw [s8, if_neg e] at h8
        rw [up_c e, congrFun (upr_off _ _ (fun q => e ⟨q.2.1, q.2.2⟩)) z, congrFun (upr_off _ _ (fun q => e ⟨q.2.1, q.2.2⟩)) z]
        exact w5 x hx y hy h8 z hz
    · have hx : s 0 0 0 0 ≤ x := hx
      obtain ⟨a1, a2, a3, a4, a5⟩ := w6 x hx hx16
      exact ⟨a1, a2, a3, a4, fun y hy => by rw [s8, if_neg (by omega)]; exact a5 y hy⟩
theorem lsM_put {τ τ' : SG} {w c : Nat} (h3 : τ' 30 0 0 (w + 3) = τ 30 0 0 (w + 3) + 1) (h5 : ∀ x, τ' (w + 50) 0 0 x = if x = τ 30 0 0 (w + 3) then c else τ (w + 50) 0 0 x) : lsM τ' w = lsM τ w ++ [c] := by
  unfold lsM
  rw [h3, List.range_succ, List.map_append]
  congr 1
  · exact List.map_congr_left (fun x hx => by
      have := List.mem_range.mp hx
      rw [h5, if_neg (by omega)])
  · show [τ' (w + 50) 0 0 (τ 30 0 0 (w + 3))] = [c]
    rw [h5, if_pos rfl]
theorem lsO_put {s : SG} {c : Nat} (w : Nat) : lsO (qu s c) w = if w = 0 then lsO s 0 ++ [c] else lsO s w := by
  unfold qu
  by_cases e : w = 0
  · subst e
    rw [if_pos rfl, lsO_apO]
    rfl
  · rw [if_neg e]
    unfold lsO apO
    rw [up_i e, up_k (by decide)]
    exact List.map_congr_left (fun x _ => by rw [up_k (by decide), up_i e]; rfl)
theorem RR.q16 (h : RR s τ A) {c : Nat} (hc : c < s 0 0 0 0) (hst : aS A c ≠ 113) : s 12 0 0 0 < 16 ∧ τ 30 0 0 3 < 16 ∧ τ 30 0 0 3 = s 12 0 0 0 ∧ c ∉ aQ A := by
  have hn17 := h.n17
  obtain ⟨hBs, hBt, hC, hA, hQ, hS, hM, hX, hD⟩ := id h
  have hnc : c ∉ aQ A := fun q => hst (hA.2.2.1 c q).2
  have hl := AI_len (n := s 0 0 0 0) (l := aQ A ++ [c]) (List.nodup_append.mpr ⟨hA.1, by simp, fun a ha b hb => by rw [List.mem_singleton.mp hb]; exact fun q => hnc (by rw [← q]; exact ha)⟩) (fun x hx => by
    rcases List.mem_append.mp hx with q | q
    · exact (hA.2.2.1 x q).1
    · rw [List.mem_singleton.mp q]; exact hc)
  have e : lsM τ 0 = lsO s 0 := hM.2.2.2.1.trans hC.2.2.2.1.symm
  have e2 : τ 30 0 0 3 = s 12 0 0 0 := ls_n e
  have hl2 : (aQ A).length = s 12 0 0 0 := by rw [← hC.2.2.2.1, lsO_len]
  rw [List.length_append, List.length_singleton] at hl
  exact ⟨by omega, by omega, e2, hnc⟩
theorem ag_queue (h : RR s τ A) (c : Int32) : AG cd_queue s τ A (k_queue s c) (k6_queue τ c) := by
  have hn17 := h.n17
  obtain ⟨hBs, hBt, hC, hA, hQ, hS, hM, hX, hD⟩ := id h
  refine AG.unl h cd_queue_1 cd_queue_2 (fun c hc hst => ?_)
  have hm : emy τ c 64 = 0 ↔ s 6 c 0 3 = 0 := by rw [hS.Emy hc]; exact pop_z (hBs 6 c 0 3 rfl)
  have hk : cmy τ c 64 = 0 ↔ s 6 c 0 4 = 0 := by rw [cmy_pop hM hC (by omega) hc]; exact pop_z (hBs 6 c 0 4 rfl)
  have hi : mms τ c 4 = mis s c 4 := mms_mis hX hS hBs hc
  by_cases e1 : s 6 c 0 3 = 0
  · rw [if_pos (.inl e1), if_pos (hm.mpr e1)]
    exact AG.err cd_queue_2
  rw [if_neg (fun q => e1 (hm.mp q))]
  by_cases e2 : s 6 c 0 4 = 0
  · rw [if_neg (fun q => q.elim e1 (fun z => z e2)), if_neg (c := cmy τ c 64 ≠ 0) (fun q => q (hk.mpr e2)), hi]
    refine AG.ite Iff.rfl (fun _ => AG.err cd_queue_3) (fun _ => ?_)
    obtain ⟨q1, q2, q3, q4⟩ := h.q16 hc (by rw [hst]; decide)
    have hA' : AI s (stA A c 113 (aQ A ++ [c])) := by
      obtain ⟨a1, a2, a3, a4⟩ := hA
      refine ⟨List.nodup_append.mpr ⟨a1, by simp, fun a ha b hb => by rw [List.mem_singleton.mp hb]; exact fun q => q4 (by rw [← q]; exact ha)⟩, a2, fun x hx => ?_, fun x hx => ⟨(a4 x hx).1, ?_⟩⟩
      · show x < _ ∧ (if x = c then 113 else aS A x) = 113
        by_cases e : x = c
        · rw [if_pos e, e]; exact ⟨hc, rfl⟩
        · rw [if_neg e]
          rcases List.mem_append.mp hx with q | q
          · exact a3 x q
          · exact absurd (List.mem_singleton.mp q) e
      · show (if x = c then 113 else aS A x) = 109
        rw [if_neg (fun q => by subst q; rw [(a4 x hx).2] at hst; cases hst)]
        exact (a4 x hx).2
    have hQ' : QI s (stA A c 113 (aQ A ++ [c])) := by
      refine ⟨fun x hx q => ?_, fun x hx q => ?_⟩
      · have q : (if x = c then 113 else aS A x) = 113 := q
        show x ∈ aQ A ++ [c]
        by_cases e : x = c
        · rw [e]; exact List.mem_append_right _ (List.mem_singleton.mpr rfl)
        · rw [if_neg e] at q
          exact List.mem_append_left _ (hQ.1 x hx q)
      · have q : (if x = c then 113 else aS A x) = 109 := q
        by_cases e : x = c
        · rw [if_pos e] at q; cases q
        · rw [if_neg e] at q
          exact hQ.2 x hx q
    have hr := h.st (Q := aQ A ++ [c]) (s2 := s) (τ2 := s) hc (show 113 < 65536 by decide) hA' hQ' (.inr trivial)
    have hcf : CF s (qu s c) := ⟨rfl, fun x => up_c (by omega), rfl, rfl, rfl⟩
    have hBq : BD (qu s c) := apO_BD (BD.put hBs (by show 113 < 65536; decide)) (by omega) q1
    refine AG.ret (A' := stA A c 113 (aQ A ++ [c])) ?_ ⟨hBq, BD.put (BD.put (BD.put hBt (by show 113 < 65536; decide)) (by show c < 16; omega)) (by show _ < 17; omega), ⟨hr.1.1, hr.1.2.1, hr.1.2.2.1, ?_, ?_, hC.2.2.2.2.2⟩, hA', hQ', (show SM s (mqu τ c) from hS).cf hcf, ⟨hr.2.1, hr.2.2.1, hr.2.2.2.1, ?_, hM.2.2.2.2⟩, ?_, hD.cf hcf rfl rfl⟩ rfl ((((FS.refl s).up (by decide)).up (by decide)).up (by decide)) ((((FT.refl τ).up (by omega)).up (by omega)).up (by omega)) (by show (aQ A ++ [c]).length ≤ _; rw [List.length_append]; exact Nat.le_refl _)
    · show τ 30 0 0 3 + 1 = qu s c 12 0 0 0
      rw [q3]
      exact (show qu s c 12 0 0 0 = s 12 0 0 0 + 1 by unfold qu apO; rw [up_same]; rfl).symm
    · rw [lsO_put, if_pos rfl, hC.2.2.2.1]
      rfl
    · rw [lsO_put, if_neg (by decide), hC.2.2.2.2.1]
      rfl
    · show lsM (mqu τ c) 0 = aQ A ++ [c]
      rw [← hM.2.2.2.1]
      exact lsM_put (up_same _ _ _ _ _ _) (fun x => by
        show up (up τ 52 0 0 c 113) 50 0 0 (τ 30 0 0 3) c 50 0 0 x = _
        rw [upx]
        rfl)
    · exact hX.st (w := 113) hc
  · rw [if_pos (.inr e2), if_pos (fun q => e2 (hk.mp q))]
    exact AG.err cd_queue_2
theorem ag_unqueue (h : RR s τ A) (c : Int32) : AG cd_unqueue s τ A (k_unqueue s c) (k6_unqueue τ c) := by
  have hn17 := h.n17
  obtain ⟨hBs, hBt, hC, hA, hQ, hS, hM, hX, hD⟩ := id h
  refine AG.unl h cd_unqueue_1 cd_unqueue_2 (fun c hc hst => ?_)
  have hcq := hQ.1 c hc hst
  obtain ⟨k0, a1, a2, a3⟩ := lsM_at (show c ∈ lsM τ 0 by rw [hM.2.2.2.1]; exact hcq)
  rw [qix_ok a2 a3 _ a1]
  have hA' : AI s (stA A c 111 ((aQ A).filter (fun x => decide (x ≠ c)))) := AI_fal hA hcq
  have hQ' : QI s (stA A c 111 ((aQ A).filter (fun x => decide (x ≠ c)))) := QI_fal hQ
  have hr := h.st (Q := (aQ A).filter (fun x => decide (x ≠ c))) (s2 := s) (τ2 := s) hc (show 111 < 65536 by decide) hA' hQ' (.inr trivial)
  have hcf : CF s (rpn s c) := ⟨rfl, fun x => (up_c (by omega)).trans (drO_k (by decide) (by decide)), rfl, rfl, rfl⟩
  have l1 : lsO (rpn s c) 0 = (aQ A).filter (fun x => decide (x ≠ c)) := by
    rw [← hC.2.2.2.1]
    exact lsO_drO s 0 c
  have l2 : lsM (muq τ c k0) 0 = (aQ A).filter (fun x => decide (x ≠ c)) := by
    rw [← hM.2.2.2.1]
    exact lsM_lvs a1 a2 a3 (by rw [hM.2.2.2.1]; exact hA.1)
  have hlen : τ 30 0 0 3 - 1 = rpn s c 12 0 0 0 := by
    have := congrArg List.length (l2.trans l1.symm)
    rw [lsM_len, lsO_len] at this
    exact this
  refine AG.ret (A' := stA A c 111 ((aQ A).filter (fun x => decide (x ≠ c)))) hlen ⟨rpn_BD hBs, BD.put (lvs_BD hBt _ _) (by show 111 < 65536; decide), ⟨fun x hx => ?_, fun x hx => ?_, fun x hx y hy => ?_, l1, ?_, hC.2.2.2.2.2⟩, hA', hQ', (show SM s (muq τ c k0) from hS).cf hcf, ⟨hr.2.1, hr.2.2.1, hr.2.2.2.1, l2, hM.2.2.2.2⟩, ?_, hD.cf hcf rfl rfl⟩ rfl ((((FS.refl s).upr (by decide)).up (by decide)).up (by decide)) ((((FT.refl τ).up (by omega)).upr (by omega)).up (by omega)) (Nat.le_succ_of_le (List.length_filter_le _ _))
  · exact hr.1.1 x hx
  · exact hr.1.2.1 x hx
  · exact hr.1.2.2.1 x hx y hy
  · show _ = aM A
    rw [← hC.2.2.2.2.1]
    exact lsO_other (σ := s) (w := 0) (w' := 1) (n := c) (by decide)
  · exact hX.st (w := 111) hc
end WRITES4
