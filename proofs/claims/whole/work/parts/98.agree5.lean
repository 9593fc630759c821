section WRITES5
variable {s τ : SG} {A : AS}
theorem ag_open (h : RR s τ A) (a : Int32) : AG cd_open s τ A (k_open s a) (k6_open τ a) := by
  have hn17 := h.n17
  obtain ⟨hBs, hBt, hC, hA, hQ, hS, hM, hX, hD⟩ := id h
  refine AG.guard rfl cd_open_1 (fun a ha => AG.ite (by rw [hS.1]; omega) (fun _ => AG.err cd_open_2) (fun hn => ?_))
  obtain ⟨n, hnd⟩ : ∃ n, n = s 0 0 0 0 := ⟨_, rfl⟩
  have hn : n < 16 := by omega
  have ht : τ 30 0 0 2 = n := hS.1.trans hnd.symm
  obtain ⟨w1, w2, w3, w4, w5, w6, w7⟩ := id hX
  obtain ⟨u1, u2, u3, u4, u5⟩ := w6 n (by omega) hn
  rw [← hnd, ht]
  have s6 : ∀ x y, up (up s 6 n 0 0 a) 0 0 0 0 (n + 1) 6 x 0 y = if x = n ∧ y = 0 then a else s 6 x 0 y := fun x y => by
    show up s 6 n 0 0 a 6 x 0 y = _
    by_cases e : x = n ∧ y = 0
    · rw [if_pos e, e.1, e.2, up_same]
    · rw [if_neg e, up_c e]
  have sn : up (up s 6 n 0 0 a) 0 0 0 0 (n + 1) 0 0 0 0 = n + 1 := up_same _ _ _ _ _ _
  have hS' : ∀ x y, y ≠ 0 → up (up s 6 n 0 0 a) 0 0 0 0 (n + 1) 6 x 0 y = s 6 x 0 y := fun x y e => (s6 x y).trans (if_neg (fun z => e z.2))
  have t52 : ∀ x, opS τ a 52 0 0 x = if x = n then 111 else τ 52 0 0 x := fun x => by
    show up (up τ 49 0 0 (τ 30 0 0 2) a) 52 0 0 (τ 30 0 0 2) 111 52 0 0 x = _
    rw [upx, ht]
    rfl
  have t49 : ∀ x, opS τ a 49 0 0 x = if x = n then a else τ 49 0 0 x := fun x => by
    show up τ 49 0 0 (τ 30 0 0 2) a 49 0 0 x = _
    rw [upx, ht]
  have t41 : ∀ x y, y < 64 → opS τ a 41 x 0 y = if x = n then 0 else τ 41 x 0 y := fun x y hy => by
    show upr (op0 τ a) 41 (τ 30 0 0 2) 0 (fun z => if z < 64 then 0 else τ 41 (τ 30 0 0 2) 0 z) 41 x 0 y = _
    rw [ht]
    by_cases e : x = n
    · rw [e, upr_same, if_pos hy, if_pos rfl]
    · rw [upr_i e, if_neg e]
      rfl
  have t45 : ∀ x y, y < 6 → opS τ a 45 x 0 y = if x = n then 45 else τ 45 x 0 y := fun x y hy => by
    show upr (op1 τ a 64) 45 (τ 30 0 0 2) 0 (fun z => if z < 6 then 45 else τ 45 (τ 30 0 0 2) 0 z) 45 x 0 y = _
    rw [ht]
    by_cases e : x = n
    · rw [e, upr_same, if_pos hy, if_pos rfl]
    · rw [upr_i e, if_neg e]
      rfl
  have hBs' : BD (up (up s 6 n 0 0 a) 0 0 0 0 (n + 1)) := BD.put (BD.put hBs ha) (by show n + 1 < 17; omega)
  have hBt' : BD (opS τ a) := by
    unfold opS op2 op1 op0
    rw [ht]
    refine BD.put (BD.putr (BD.putr (BD.put (BD.put hBt (by show a < 6; exact ha)) (by show 111 < 65536; decide)) (fun x _ => ?_)) (fun x _ => ?_)) (by show n + 1 < 17; omega)
    · show (if x < 64 then 0 else τ 41 n 0 x) < 101
      split
      · decide
      · exact hBt 41 n 0 x rfl
    · show (if x < 6 then 45 else τ 45 n 0 x) < 65536
      split
      · decide
      · exact hBt 45 n 0 x rfl
  have an : aS A n = 111 := (hC.1 n hn).symm.trans u1
  refine AG.ret rfl ⟨hBs', hBt', ⟨fun x hx => ?_, fun x hx => ?_, fun x hx y hy => ?_, hC.2.2.2⟩, ⟨hA.1, hA.2.1, fun x hx => ?_, fun x hx => ?_⟩, ⟨fun x hx q => ?_, fun x hx q => ?_⟩, ⟨?_, fun x hx y hy => ?_, hS.2.2.1, hS.2.2.2⟩, ⟨fun x hx => ?_, fun x hx => ?_, fun x hx y hy => ?_, ?_, ?_, hM.2.2.2.2.2⟩, ⟨w1, w2, fun x hx => ?_, fun x hx y hy => ?_, fun x hx y hy h8 z hz => ?_, fun x hx hx16 => ?_, w7⟩, ?_⟩ rfl (((FS.refl s).up (by decide)).up (by decide)) ?_ (Nat.le_succ _)
  · rw [hS' x 1 (by decide)]; exact hC.1 x hx
  · rw [hS' x 2 (by decide)]; exact hC.2.1 x hx
  · rw [hS' x 4 (by decide)]; exact hC.2.2.1 x hx y hy
  · rw [sn]; exact ⟨by have := (hA.2.2.1 x hx).1; omega, (hA.2.2.1 x hx).2⟩
  · rw [sn]; exact ⟨by have := (hA.2.2.2 x hx).1; omega, (hA.2.2.2 x hx).2⟩
  · rw [sn] at hx
    exact hQ.1 x (by
      have : x ≠ n := fun e => by rw [e, an] at q; cases q
      omega) q
  · rw [sn] at hx
    exact hQ.2 x (by
      have : x ≠ n := fun e => by rw [e, an] at q; cases q
      omega) q
  · rw [sn]
    show up (op2 τ a 6) 30 0 0 2 (τ 30 0 0 2 + 1) 30 0 0 2 = n + 1
    rw [up_same, ht]
  · rw [sn] at hx
    rw [t41 x y hy, hS' x 3 (by decide)]
    by_cases e : x = n
    · rw [if_pos e, e, u3, Nat.zero_testBit, if_neg (by decide)]
    · rw [if_neg e]
      exact hS.2.1 x (by omega) y hy
  · rw [sn] at hx
    rw [t52]
    by_cases e : x = n
    · rw [if_pos e, e, an]
    · rw [if_neg e]; exact hM.1 x (by omega)
  · exact hM.2.1 x hx
  · exact hM.2.2.1 x hx y hy
  · rw [← hM.2.2.2.1]
    exact lsM_eq rfl (fun _ _ => rfl)
  · rw [← hM.2.2.2.2.1]
    exact lsM_eq rfl (fun _ _ => rfl)
  · rw [sn] at hx
    rw [t49, s6]
    by_cases e : x = n
    · rw [if_pos e, if_pos ⟨e, rfl⟩]
    · rw [if_neg e, if_neg (fun z => e z.1)]; exact w3 x (by omega)
  · rw [sn] at hx
    show opS τ a 45 x 0 y = vc (s 8 x 0 y)
    rw [t45 x y hy]
    by_cases e : x = n
    · rw [if_pos e, e, u5 y hy]; rfl
    · rw [if_neg e]; exact w4 x (by omega) y hy
  · rw [sn] at hx
    have h8 : s 8 x 0 y = 1 := h8
    have e : x ≠ n := fun e => by rw [e, u5 y hy] at h8; cases h8
    exact w5 x (by omega) y hy h8 z hz
  · rw [sn] at hx
    rw [hS' x 1 (by decide), hS' x 2 (by decide), hS' x 3 (by decide), hS' x 4 (by decide)]
    exact w6 x (by omega) hx16
  · exact hD.of (fun x _ => by
      funext w y
      unfold layv
      rw [hS' x 3 (by decide)]
      rfl) rfl rfl rfl rfl
  · unfold opS op2 op1 op0
    exact ((((FT.refl τ).up (by omega)).up (by omega)).upr (by omega)).upr (by omega) |>.up (by omega)
theorem ag_update (h : RR s τ A) (c : Int32) : AG cd_update s τ A (k_update s c) (k6_update τ c) := by
  have hn17 := h.n17
  obtain ⟨hBs, hBt, hC, hA, hQ, hS, hM, hX, hD⟩ := id h
  refine AG.unl h cd_update_1 cd_update_2 (fun c hc hst => ?_)
  have s6 : ∀ x y, ud s c 6 x 0 y = if x = c ∧ y = 4 then 0 else s 6 x 0 y := fun x y => by
    unfold ud
    by_cases e : x = c ∧ y = 4
    · rw [if_pos e, e.1, e.2, up_same]
    · rw [if_neg e, up_c e]
      rfl
  have n6 : ∀ x y, y ≠ 4 → ud s c 6 x 0 y = s 6 x 0 y := fun x y e => (s6 x y).trans (if_neg (fun z => e z.2))
  have n6c : ∀ x y, x ≠ c → ud s c 6 x 0 y = s 6 x 0 y := fun x y e => (s6 x y).trans (if_neg (fun z => e z.1))
  have hcf : CF s (ud s c) := ⟨rfl, fun x => n6 x 3 (by decide), rfl, rfl, rfl⟩
  have t43 : ∀ x y, y < 64 → upi τ c 64 0 43 x 0 y = if x = c then 0 else τ 43 x 0 y := fun x y hy => by
    unfold upi
    rw [if_neg (by omega), if_neg (by omega)]
    by_cases e : x = c
    · rw [if_pos ⟨rfl, e, rfl, hy⟩, if_pos e]
    · rw [if_neg (fun z => e z.2.1), if_neg e]
  have tk : ∀ k i j x, k ≠ 48 → k ≠ 43 → upi τ c 64 0 k i j x = τ k i j x := fun k i j x h1 h2 => upi_k h1 h2
  obtain ⟨w1, w2, w3, w4, w5, w6, w7⟩ := id hX
  refine AG.ret (A' := (aS A, aF A, fun x y => !decide (x = c) && aC A x y, aQ A, aM A, aT A, aK A)) (cmy_pop hM hC (by omega) hc) ⟨BD.put (utd_BD hBs) (by show 0 < 18446744073709551616; decide), upi_BD hBt _ _ _, ⟨fun x hx => ?_, fun x hx => ?_, fun x hx y hy => ?_, hC.2.2.2⟩, hA, hQ, (hS.of (fun k i j x q => tk k i j x (by rintro rfl; cases q) (by rintro rfl; cases q))).cf hcf, ⟨fun x hx => (tk 52 0 0 x (by decide) (by decide)).trans (hM.1 x hx), fun x hx => (tk 53 0 0 x (by decide) (by decide)).trans (hM.2.1 x hx), fun x hx y hy => ?_, ?_, ?_, fun x hx => (tk 31 0 0 x (by decide) (by decide)).trans (hM.2.2.2.2.2 x hx)⟩, ⟨fun d hd => ?_, fun p hp => ?_, fun x hx => ?_, fun x hx y hy => ?_, fun x hx y hy h8 z hz => ?_, fun x hx hx16 => ?_, fun t h1 h2 => ?_⟩, hD.cf hcf rfl rfl⟩ rfl ?_ ?_ (Nat.le_succ _)
  · rw [n6 x 1 (by decide)]; exact hC.1 x hx
  · rw [n6 x 2 (by decide)]; exact hC.2.1 x hx
  · show _ = (!decide (x = c) && aC A x y)
    by_cases e : x = c
    · rw [s6, if_pos ⟨e, rfl⟩, decide_eq_true e, Nat.zero_testBit]; rfl
    · rw [n6c x 4 e, decide_eq_false e, hC.2.2.1 x hx y hy]; rfl
  · show _ = b2n (!decide (x = c) && aC A x y)
    rw [t43 x y hy]
    by_cases e : x = c
    · rw [if_pos e, decide_eq_true e]; rfl
    · rw [if_neg e, decide_eq_false e, hM.2.2.1 x hx y hy]; rfl
  · show lsM (upi τ c 64 0) 0 = aQ A
    rw [← hM.2.2.2.1]
    exact lsM_eq (tk 30 0 0 3 (by decide) (by decide)) (fun x _ => tk 50 0 0 x (by decide) (by decide))
  · show lsM (upi τ c 64 0) 1 = aM A
    rw [← hM.2.2.2.2.1]
    exact lsM_eq (tk 30 0 0 4 (by decide) (by decide)) (fun x _ => tk 51 0 0 x (by decide) (by decide))
  · rw [tk 36 0 0 d (by decide) (by decide), tk 37 0 0 d (by decide) (by decide), tk 38 0 0 d (by decide) (by decide)]
    exact w1 d hd
  · rw [tk 39 0 0 p (by decide) (by decide)]
    exact w2 p hp
  · rw [tk 49 0 0 x (by decide) (by decide), n6 x 0 (by decide)]
    exact w3 x hx
  · rw [tk 45 x 0 y (by decide) (by decide)]
    exact w4 x hx y hy
  · have h8 : s 8 x 0 y = 1 := h8
    have hx : x < s 0 0 0 0 := hx
    show upi τ c 64 0 48 x y z = if (utd s c 6 9 x 0 y).testBit z = true then s 11 x y z + 1 else 0
    have old := w5 x hx y hy h8 z hz
    unfold upi utd
    by_cases e : x = c
    · subst e
      rw [if_pos (c := 9 = 9 ∧ x = x ∧ 0 = 0 ∧ y < 6) ⟨rfl, rfl, rfl, hy⟩, clr_bit hz, hC.2.2.1 x (by omega) z hz]
      by_cases e2 : aC A x z = true
      · rw [if_pos ⟨rfl, rfl, hy, hz, by rw [hM.2.2.1 x (by omega) z hz, e2]; decide⟩, e2, Bool.not_true, Bool.and_false, if_neg (by decide)]
      · have e2 : aC A x z = false := by simpa using e2
        rw [if_neg (fun q => q.2.2.2.2 (by rw [hM.2.2.1 x (by omega) z hz, e2]; rfl)), if_neg (by omega), if_neg (by omega), e2, Bool.not_false, Bool.and_true]
        exact old
    · rw [if_neg (c := 9 = 9 ∧ x = c ∧ 0 = 0 ∧ y < 6) (fun q => e q.2.1), if_neg (fun q => e q.2.1), if_neg (fun q => e q.2.1), if_neg (fun q => e q.2.1)]
      exact old
  · have hx : s 0 0 0 0 ≤ x := hx
    have e : x ≠ c := by omega
    rw [n6c x 1 e, n6c x 2 e, n6c x 3 e, n6c x 4 e]
    exact w6 x hx hx16
  · rw [tk 35 0 0 t (by decide) (by decide)]
    exact w7 t h1 h2
  · intro k i j x q
    show up (utd s c 6) 6 c 0 4 0 k i j x = _
    rw [up_k (by omega), utd_k (by omega)]
  · intro k i j x q
    exact tk k i j x (by omega) (by omega)
end WRITES5
