/-! ===== values that may be null ===== -/
section PTR
variable {X : XT} {G : GT} {own : String} {cc : ByteArray} {nL n mc ms : Nat} {kc ks : Nat} {ok : KF} {ad : AD} {σ : SG} {l : List (Nat × Value)} {pc : Nat} {st : List Value} {v : Nat}
theorem v_aloadP_n {q : Fin 4} (hC : Cx X G own cc nL n mc ms) (d : decode cc pc = .ok (.aload_n q, 1)) (h : lvg l q.val = some (va_rf (rf v))) (k : V X G kc ks ok ad σ l (pc + 1) (va_rf (rf v) :: st)) : V X G kc ks ok ad σ l pc st := by
  cases v with
  | zero => exact v_aloadN_n hC d h k
  | succ v => exact v_aload_n hC d h k
theorem v_aloadP {i : Nat} (hC : Cx X G own cc nL n mc ms) (d : decode cc pc = .ok (.aload i, 2)) (h : lvg l i = some (va_rf (rf v))) (k : V X G kc ks ok ad σ l (pc + 2) (va_rf (rf v) :: st)) : V X G kc ks ok ad σ l pc st := by
  cases v with
  | zero => exact v_aloadN hC d h k
  | succ v => exact v_aload hC d h k
theorem v_astoreP {i : Nat} (hC : Cx X G own cc nL n mc ms) (d : decode cc pc = .ok (.astore i, 2)) (hn : i < nL) (k : V X G kc ks ok ad σ (lvp l i (va_rf (rf v))) (pc + 2) st) : V X G kc ks ok ad σ l pc (va_rf (rf v) :: st) := by
  cases v with
  | zero => exact v_astoreN hC d hn k
  | succ v => exact v_astore hC d hn k
theorem v_astoreP_n {q : Fin 4} (hC : Cx X G own cc nL n mc ms) (d : decode cc pc = .ok (.astore_n q, 1)) (hn : q.val < nL) (k : V X G kc ks ok ad σ (lvp l q.val (va_rf (rf v))) (pc + 1) st) : V X G kc ks ok ad σ l pc (va_rf (rf v) :: st) := by
  cases v with
  | zero => exact v_astoreN_n hC d hn k
  | succ v => exact v_astore_n hC d hn k
end PTR

/-- the inputs copied -/
def cpI (σ : SG) (n : Nat) : Nat → Nat := fun x => if x = 9000 then n else if x = 30 then n else if x = 9001 then 0 else if x < n then σ 20 0 0 x else 0
def czI (n : Nat) : Nat → Nat := fun x => if x = 9000 then n else if x = 30 then n else 0
theorem ar_I : Cond.arrayClass FieldType.int ∈ lw_good := by decide +kernel
theorem dyn_ok {cA : ClassId} {G : GT} {ok : KF} {ad : AD} {k0 i0 j0 : Nat} (hd : dynk k0) : ∀ a k' i' j', ok k' i' j' → ∀ s, enck G.2.2.1 (adA ad k0 i0 j0 a) k' i' j' s = enck G.2.2.1 ad k' i' j' s := fun a k' i' j' _ s => enck_dyn hd k' i' j' s

set_option maxHeartbeats 4000000 in
set_option maxRecDepth 100000 in
theorem c_J7_copyOf_59c91 {l : Launch} (hl0 : l.stackTraces = false) {G : GT} {ok : KF} {ad : AD} {σ : SG} (hO : OKC ok) {n : Nat} (hn : n ≤ 24) (h80 : ¬ ok 80 0 0) : Ct l G 1 yJ7_copyOf_59c91 cJ7_copyOf_59c91 3 (some (.array .int)) [.ref (ad 20 0 0), iv n] ok ad σ (fun v μ => ∃ a, v = some (.ref a) ∧ μ = (okA ok 80 0 0, adA ad 80 0 0 a, upr σ 80 0 0 (cpI σ n))) NX 1 24 := by
  refine Ct.mk (by decide +kernel) hl0 (Nat.le_of_ble_eq_true rfl) (fun X hX hC hM => ?_)
  subst hX
  have hd : ∀ a k' i' j', ok k' i' j' → ∀ s, enck G.2.2.1 (adA ad 80 0 0 a) k' i' j' s = enck G.2.2.1 ad k' i' j' s := fun a k' i' j' _ s => enck_dyn (.inr (.inr (.inr (by decide)))) k' i' j' s
  refine v_iload_n hC dJ7_copyOf_59c91_0 rfl ?_
  refine v_aload_n hC dJ7_copyOf_59c91_1 rfl ?_
  refine v_alenN (N := 24) 0 rfl hC dJ7_copyOf_59c91_2 hO.k20 rfl ?_
  refine v_icmp_neN (tgt := 14) hC dJ7_copyOf_59c91_3 (by decide) (by omega) (by decide) (fun c_3 => ?_) (fun c_3 => ?_)
  · refine v_iload_n hC dJ7_copyOf_59c91_14 rfl ?_
    refine v_newa (atype := .int) (ty := .int) (a0 := (n, .inl fun x => nI (czI n x))) (σ1 := upr σ 80 0 0 (czI n)) 0 80 0 0 hC dJ7_copyOf_59c91_15 rfl ar_I rfl rfl (by omega) (by show n * 4 ≤ 536870912; omega) (by omega) (by omega) h80 hd (fun k' i' j' h => upr_off _ _ h) (fun a => by rw [upr_row]; rfl) (show arrV (G.2.2.1 0) n (fun x => Value.int (nI (czI n x))) = arrV (G.2.2.1 0) n (fun _ => Value.int 0) from arrV_congr (fun j hj => by unfold czI; rw [if_neg (by omega), if_neg (by omega)]; rfl)) (fun a => ?_)
    refine v_astore_n hC dJ7_copyOf_59c91_17 (by decide) ?_
    refine v_aload_n hC dJ7_copyOf_59c91_18 rfl ?_
    refine v_iconst (v := nI 0) hC dJ7_copyOf_59c91_19 (by decide) ?_
    refine v_aload_n hC dJ7_copyOf_59c91_20 rfl ?_
    refine v_iconst (v := nI 0) hC dJ7_copyOf_59c91_21 (by decide) ?_
    refine v_aload_n hC dJ7_copyOf_59c91_22 rfl ?_
    have hO2 : OKC (okA ok 80 0 0) := fun k i j h => .inl (hO k i j h)
    refine v_alenN (N := 24) (ad := adA ad 80 0 0 a) 0 rfl hC dJ7_copyOf_59c91_23 hO2.k20 rfl ?_
    refine v_iload_n hC dJ7_copyOf_59c91_24 rfl ?_
    refine v_min (a := 24) (b := n) hC dJ7_copyOf_59c91_25 wm_1 (by decide) (by omega) (Nat.le_of_ble_eq_true rfl) (by omega) (by omega) ?_
    refine v_copyi (k := 20) (i := 0) (j := 0) (k2 := 80) (i2 := 0) (j2 := 0) (m := min 24 n) (N := 24) (N2 := n) (σ1 := upr σ 80 0 0 (cpI σ n)) (f := fun x => nI (σ 20 0 0 x)) (g := fun x => nI (czI n x)) (f1 := fun x => nI (cpI σ n x)) hC dJ7_copyOf_59c91_28 ac_J7_150 hO2.k20 (.inr ⟨rfl, rfl, rfl⟩) (by decide) rfl (by rw [upr_row]; rfl) (Nat.min_le_left _ _) (Nat.min_le_right _ _) (by omega) (fun k' i' j' h => by rw [upr_off _ _ h, upr_off _ _ h]) (by rw [upr_row]; rfl) (fun x => ?_) (Nat.le_of_ble_eq_true rfl) ?_
    · show nI (cpI σ n x) = if x < min 24 n then nI (σ 20 0 0 x) else nI (czI n x)
      unfold cpI czI
      by_cases h1 : x < n
      · rw [if_neg (by omega), if_neg (by omega), if_neg (by omega), if_pos h1, if_pos (by omega)]
      · rw [if_neg (c := x < min 24 n) (by omega), if_neg (c := x < n) h1]
        by_cases h2 : x = 9000
        · rw [if_pos h2, if_pos h2]
        · rw [if_neg h2, if_neg h2]
          by_cases h3 : x = 30
          · rw [if_pos h3, if_pos h3]
          · rw [if_neg h3, if_neg h3]
            simp
    refine v_aload_n hC dJ7_copyOf_59c91_31 rfl ?_
    refine v_aret hC hM dJ7_copyOf_59c91_32 (.inr ⟨_, rfl⟩) (.inr ⟨_, rfl⟩) (by omega) (by omega) ?_
    exact ⟨a, rfl, rfl⟩
  · refine v_aload_n hC dJ7_copyOf_59c91_6 rfl ?_
    refine v_clone (k := 20) (i := 0) (j := 0) (a0 := (n, .inl fun x => nI (cpI σ n x))) (σ1 := upr σ 80 0 0 (cpI σ n)) 80 0 0 hC dJ7_copyOf_59c91_7 hO.k20 rfl (by omega) (by omega) h80 hd (fun k' i' j' h => upr_off _ _ h) (fun a => by rw [upr_row]; rfl) (by rw [c_3]; exact (show arrV (G.2.2.1 0) 24 (fun x => Value.int (nI (cpI σ 24 x))) = arrV (G.2.2.1 0) 24 (fun x => Value.int (nI (σ 20 0 0 x))) from arrV_congr (fun j hj => by unfold cpI; rw [if_neg (by omega), if_neg (by omega), if_neg (by omega), if_pos hj]))) (Nat.le_of_ble_eq_true rfl) (fun a => ?_)
    refine v_castA (ad := adA ad 80 0 0 a) (k := 80) (i := 0) (j := 0) (t0 := 0) (x := (n, .inl fun x => nI (cpI σ n x))) hC dJ7_copyOf_59c91_10 wc_7 (.inr ⟨rfl, rfl, rfl⟩) (by rw [upr_row]; rfl) hC.nmI ?_
    refine v_aret hC hM dJ7_copyOf_59c91_13 (.inr ⟨_, rfl⟩) (.inr ⟨_, rfl⟩) (by omega) (by omega) ?_
    exact ⟨a, rfl, rfl⟩

