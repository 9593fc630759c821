/-- the batch picked out of a queue -/
def pka (σ : SG) (b : List Nat) (c : Nat) : List Nat := if b.length < 4 ∧ tfz σ c = false ∧ (∀ x ∈ b, shr σ c x = false) then b ++ [c] else b
def pck (σ : SG) (q : List Nat) : List Nat := q.foldl (pka σ) []
theorem shr_f {σ : SG} {c x : Nat} : shr σ c x = false ↔ σ 6 c 0 3 &&& σ 6 x 0 3 = 0 := by
  unfold shr
  rw [decide_eq_false_iff_not, Classical.not_not]
theorem shr_comm (σ : SG) (c x : Nat) : shr σ c x = shr σ x c := by
  unfold shr
  rw [Nat.and_comm]
theorem pkb_pck (σ : SG) : ∀ n, (List.range (pkb σ n).1).map (pkb σ n).2.2 = ((List.range n).map (σ 13 0 0)).foldl (pka σ) [] ∧ ∀ e, e &&& (pkb σ n).2.1 = 0 ↔ ∀ x ∈ ((List.range n).map (σ 13 0 0)).foldl (pka σ) [], e &&& σ 6 x 0 3 = 0
  | 0 => ⟨rfl, fun e => ⟨fun _ x hx => (by cases hx), fun _ => Nat.and_zero e⟩⟩
  | n + 1 => by
    obtain ⟨h1, h2⟩ := pkb_pck σ n
    rw [List.range_succ, List.map_append, List.foldl_append]
    generalize ((List.range n).map (σ 13 0 0)).foldl (pka σ) [] = L at h1 h2 ⊢
    show (List.range (pkb σ (n + 1)).1).map (pkb σ (n + 1)).2.2 = pka σ L (σ 13 0 0 n) ∧ ∀ e, e &&& (pkb σ (n + 1)).2.1 = 0 ↔ ∀ x ∈ pka σ L (σ 13 0 0 n), e &&& σ 6 x 0 3 = 0
    have hl : L.length = (pkb σ n).1 := by rw [← h1]; simp
    by_cases hc : (pkb σ n).1 < 4 ∧ tfz σ (σ 13 0 0 n) = false ∧ σ 6 (σ 13 0 0 n) 0 3 &&& (pkb σ n).2.1 = 0
    · have e1 : pkb σ (n + 1) = ((pkb σ n).1 + 1, (pkb σ n).2.1 ||| σ 6 (σ 13 0 0 n) 0 3, fun x => if x = (pkb σ n).1 then σ 13 0 0 n else (pkb σ n).2.2 x) := if_pos hc
      have e2 : pka σ L (σ 13 0 0 n) = L ++ [σ 13 0 0 n] := if_pos ⟨by rw [hl]; exact hc.1, hc.2.1, fun x hx => shr_f.mpr ((h2 _).mp hc.2.2 x hx)⟩
      rw [e1, e2]
      refine ⟨?_, fun e => ?_⟩
      · show (List.range ((pkb σ n).1 + 1)).map _ = _
        rw [List.range_succ, List.map_append, ← h1]
        congr 1
        · apply List.map_congr_left
          intro x hx
          have := List.mem_range.mp hx
          dsimp only
          rw [if_neg (by omega)]
        · simp
      · show e &&& ((pkb σ n).2.1 ||| σ 6 (σ 13 0 0 n) 0 3) = 0 ↔ _
        rw [Nat.and_or_distrib_left, Nat.or_eq_zero_iff, h2 e]
        constructor
        · intro h x hx
          rcases List.mem_append.mp hx with q | q
          · exact h.1 x q
          · rw [List.mem_singleton.mp q]
            exact h.2
        · intro h
          exact ⟨fun x hx => h x (List.mem_append_left _ hx), h _ (List.mem_append_right _ List.mem_cons_self)⟩
    · have e1 : pkb σ (n + 1) = pkb σ n := if_neg hc
      have e2 : pka σ L (σ 13 0 0 n) = L := if_neg (fun q => hc ⟨by rw [← hl]; exact q.1, q.2.1, (h2 _).mpr (fun x hx => shr_f.mp (q.2.2 x hx))⟩)
      rw [e1, e2]
      exact ⟨h1, h2⟩
theorem pck_inv (σ : SG) : ∀ (q acc : List Nat), acc.length ≤ 4 → acc.Nodup → q.Nodup → (∀ c ∈ acc, c ∉ q) → (∀ c ∈ acc, ∀ c' ∈ acc, c ≠ c' → shr σ c c' = false) → (q.foldl (pka σ) acc).length ≤ 4 ∧ (q.foldl (pka σ) acc).Nodup ∧ (∀ c ∈ q.foldl (pka σ) acc, c ∈ acc ∨ c ∈ q) ∧ ∀ c ∈ q.foldl (pka σ) acc, ∀ c' ∈ q.foldl (pka σ) acc, c ≠ c' → shr σ c c' = false
  | [], acc, h0, h1, _, _, h4 => ⟨h0, h1, fun c hc => .inl hc, h4⟩
  | c :: q, acc, h0, h1, h2, h3, h4 => by
    obtain ⟨n1, n2⟩ := List.nodup_cons.mp h2
    have hca : c ∉ acc := fun z => h3 c z List.mem_cons_self
    by_cases hc : acc.length < 4 ∧ tfz σ c = false ∧ (∀ x ∈ acc, shr σ c x = false)
    · have e : pka σ acc c = acc ++ [c] := if_pos hc
      show ((q.foldl (pka σ) (pka σ acc c)).length ≤ 4) ∧ _
      rw [List.foldl_cons, e]
      obtain ⟨r1, r2, r3, r4⟩ := pck_inv σ q (acc ++ [c]) (by simp; omega) (by
        rw [List.nodup_append]
        exact ⟨h1, by simp, fun a ha b hb z => hca (by rw [← List.mem_singleton.mp hb, ← z]; exact ha)⟩) n2 (fun x hx => by
        rcases List.mem_append.mp hx with z | z
        · exact fun y => h3 x z (List.mem_cons_of_mem _ y)
        · rw [List.mem_singleton.mp z]
          exact n1) (fun x hx y hy hne => by
        rcases List.mem_append.mp hx with z | z
        · rcases List.mem_append.mp hy with w | w
          · exact h4 x z y w hne
          · rw [List.mem_singleton.mp w, shr_comm]
            exact hc.2.2 x z
        · rcases List.mem_append.mp hy with w | w
          · rw [List.mem_singleton.mp z]
            exact hc.2.2 y w
          · exact absurd ((List.mem_singleton.mp z).trans (List.mem_singleton.mp w).symm) hne)
      refine ⟨r1, r2, fun x hx => ?_, r4⟩
      rcases r3 x hx with z | z
      · rcases List.mem_append.mp z with w | w
        · exact .inl w
        · rw [List.mem_singleton.mp w]
          exact .inr List.mem_cons_self
      · exact .inr (List.mem_cons_of_mem _ z)
    · have e : pka σ acc c = acc := if_neg hc
      rw [List.foldl_cons, e]
      obtain ⟨r1, r2, r3, r4⟩ := pck_inv σ q acc h0 h1 n2 (fun x hx y => h3 x hx (List.mem_cons_of_mem _ y)) h4
      exact ⟨r1, r2, fun x hx => (r3 x hx).imp id (List.mem_cons_of_mem _), r4⟩
theorem pck_BI {σ : SG} {A : AS} (h : AI σ A) : BI σ A (pck σ (aQ A)) ∧ (pck σ (aQ A)).length ≤ 4 := by
  obtain ⟨r1, r2, r3, r4⟩ := pck_inv σ (aQ A) [] (Nat.zero_le _) List.nodup_nil h.1 (fun c hc => by cases hc) (fun c hc => by cases hc)
  exact ⟨⟨r2, fun c hc => (r3 c hc).elim (fun z => by cases z) id, r4⟩, r1⟩
theorem RC_14 {σ σ' : SG} {A : AS} (h : ∀ k, k ≠ 14 → σ' k = σ k) (hR : RC σ A) : RC σ' A := by
  obtain ⟨h1, h2, h3, h4, h5, h6⟩ := hR
  have e6 := h 6 (by decide)
  have el : ∀ w, lsO σ' w = lsO σ w := fun w => by
    unfold lsO
    rw [h 12 (by decide), h 13 (by decide)]
  exact ⟨fun c hc => by rw [e6]; exact h1 c hc, fun c hc => by rw [e6]; exact h2 c hc, fun c hc x hx => by rw [e6]; exact h3 c hc x hx, (el 0).trans h4, (el 1).trans h5, fun x hx => by rw [h 15 (by decide)]; exact h6 x hx⟩
theorem pkS_kf (σ : SG) (n k : Nat) (hk : k ≠ 14) : pkS σ n k = σ k := by
  funext i j x
  exact pkS_k hk
theorem TS_pkS {ok : KF} {ad : AD} {σ0 σ : SG} {A : AS} (h : TS ok ad σ0 σ A) (n : Nat) : TS ok ad σ0 (pkS σ n) A := by
  obtain ⟨h1, h2, h3, h4, h5, h6⟩ := h
  have hk := pkS_kf σ n
  exact ⟨pkS_BD h1 n, h2.trans ⟨fun k _ _ _ h14 _ _ => hk k h14, fun c x _ _ _ => by rw [hk 6 (by decide)], by rw [hk 16 (by decide)]⟩, RC_14 hk h3, h4.same (hk 19 (by decide)) (hk 21 (by decide)) (hk 22 (by decide)) (by rw [hk 16 (by decide)]), h5, h6⟩
theorem bt_pkS {ok : KF} {ad : AD} {σ0 σ : SG} {A : AS} (h : TS ok ad σ0 σ A) : bt (pkS σ (σ 12 0 0 0)) 0 (pkb σ (σ 12 0 0 0)).1 = pck σ (aQ A) := by
  have h2 := (pkb_pck σ (σ 12 0 0 0)).1
  have h3 : (List.range (σ 12 0 0 0)).map (σ 13 0 0) = aQ A := h.2.2.1.2.2.2.1
  rw [h3] at h2
  unfold pck
  rw [← h2]
  unfold bt
  apply List.map_congr_left
  intro x _
  rw [Nat.zero_add]
  unfold pkS
  exact upr_same _ _ _ _ _ _

/-- what a step or a revert says, what is then, how many results were taken -/
abbrev RO : Type := (String ⊕ Nat) × AS × Nat
def Mem (ok : KF) (ad : AD) (σ : SG) (A A' : AS) (t B : Nat) (μ : MT) : Prop := ∃ nk na σ', μ = (mixK ok nk, mixA ad na, σ') ∧ TS (mixK ok nk) (mixA ad na) σ σ' A' ∧ CT σ σ' (aK A) (aK A') t B
abbrev rV (r : RO) (ok : KF) (ad : AD) (σ : SG) (A : AS) (B : Nat) : Option Value → MT → Prop := fun v μ => ∃ n, r.1 = .inr n ∧ v = some (iv n) ∧ Mem ok ad σ A r.2.1 r.2.2 B μ
abbrev rX (r : RO) (ok : KF) (ad : AD) (σ : SG) (A : AS) (B : Nat) : String → MT → Prop := fun E μ => r.1 = .inl E ∧ Mem ok ad σ A r.2.1 r.2.2 B μ
def ro_step (σ : SG) (A : AS) : RO := if pck σ (aQ A) = [] then (.inl eNSE, A, 0) else (.inr (trsA σ 3 (pck σ (aQ A)) A).1, (trsA σ 3 (pck σ (aQ A)) A).2.1, (trsA σ 3 (pck σ (aQ A)) A).2.2)
theorem Mem.same {ok : KF} {ad : AD} {σ σ' : SG} {A : AS} {B : Nat} (h : TS ok ad σ σ' A) (h16 : ∀ x, σ' 16 0 0 x = σ 16 0 0 x) : Mem ok ad σ A A 0 B (ok, ad, σ') :=
  ⟨ok, ad, σ', by rw [mixK_id, mixA_id], by rw [mixK_id, mixA_id]; exact h, CT.rfl' h16⟩

set_option maxHeartbeats 4000000 in
set_option maxRecDepth 100000 in
theorem c_X5_step {l : Launch} (hl0 : l.stackTraces = false) {G : GT} {ok : KF} {ad : AD} {σ : SG} {A : AS} (hO : OKC ok) (hT : TS ok ad σ σ A) (h1 : σ 16 0 0 1 + (8 * (pck σ (aQ A)).length - 4) ≤ 3072) (h2 : σ 16 0 0 2 + (8 * (pck σ (aQ A)).length - 4) ≤ 3994) (h3 : σ 16 0 0 3 + (8 * (pck σ (aQ A)).length - 4) ≤ 99994) :
    Ct l G 11 yX5_step cX5_step 2 (some .int) [.ref (ad 0 0 0)] ok ad σ (rV (ro_step σ A) ok ad σ A (8 * (pck σ (aQ A)).length - 4)) (rX (ro_step σ A) ok ad σ A (8 * (pck σ (aQ A)).length - 4)) 60 780 := by
  refine Ct.mk (by decide +kernel) hl0 (Nat.le_of_ble_eq_true rfl) (fun X hX hC hM => ?_)
  subst hX
  have hB := hT.1
  refine v_aload_n hC dX5_step_0 rfl ?_
  refine v_callV_r0 hC lk_X5_175 dX5_step_1 (c_X5_pickBatch hl0 hO hB) (by decide) (by decide) hO.k0 rfl rfl rfl rfl (Nat.le_of_ble_eq_true rfl) (by omega) (by omega) ?_
  have hbt := bt_pkS hT
  have hn := congrArg List.length hbt
  rw [bt_len] at hn
  have hBI := pck_BI hT.2.2.2.2.2
  rw [hn]
  rw [hn] at hbt
  generalize hL : pck σ (aQ A) = L at *
  have hl4 : L.length ≤ 4 := hBI.2
  refine v_istore_n hC dX5_step_4 (by decide) ?_
  refine v_iload_n hC dX5_step_5 rfl ?_
  refine v_if_neN (tgt := 19) hC dX5_step_6 (by decide) (by first | omega | exact hB _ _ _ _ rfl | assumption | exact Nat.lt_of_le_of_lt hBI.2 (by decide)) (fun c_6 => ?_) (fun c_6 => ?_)
  · refine v_aload_n hC dX5_step_19 rfl ?_
    refine v_iconst (v := nI 0) hC dX5_step_20 (by decide) ?_
    refine v_iload_n hC dX5_step_21 rfl ?_
    refine v_iconst (v := nI 0) hC dX5_step_22 (by decide) ?_
    have h16 : ∀ x, pkS σ (σ 12 0 0 0) 16 0 0 x = σ 16 0 0 x := fun x => pkS_k (by decide)
    have hBI1 : BI σ A (bt (pkS σ (σ 12 0 0 0)) 0 (L.length - 0)) := by
      rw [Nat.sub_zero, hbt]
      exact hBI.1
    refine v_callV hC lk_X5_180 dX5_step_23 (c_X5_tries hl0 hB 2 (Nat.le_refl _) (a := 0) (b := L.length) hO (TS_pkS hT _) hBI1 (by omega) hBI.2 hBI.2 (by rw [h16]; exact h1) (by rw [h16]; exact h2) (by rw [h16]; exact h3)) (by decide) (by decide) hO.k0 rfl rfl rfl rfl (Nat.le_of_ble_eq_true rfl) (by omega) (by omega) (fun v μ h => ?_) (fun _ _ h => h.elim)
    obtain ⟨nk, na, σ1, rfl, rfl, g1, g2, g3⟩ := h
    dsimp only
    rw [Nat.sub_zero, hbt] at g1 g3 ⊢
    refine v_iret hC hM dX5_step_26 (by omega) (by omega) ?_
    have hne : pck σ (aQ A) ≠ [] := fun q => by rw [hL] at q; rw [q] at c_6; exact c_6 rfl
    have hro : ro_step σ A = (.inr (trsA σ 3 L A).1, (trsA σ 3 L A).2.1, (trsA σ 3 L A).2.2) := by
      unfold ro_step
      rw [if_neg hne, hL]
    rw [hro]
    refine ⟨_, rfl, rfl, nk, na, σ1, rfl, g1, ?_⟩
    obtain ⟨a1, a2, a3, a4, a5, a6⟩ := g3
    rw [h16] at a3 a4 a5
    exact ⟨a1, a2, a3, a4, a5, a6⟩
  · exact v_thrY (text := "no queued change can be taken") hC hM tw_NSE (by decide +kernel) (by
          have hro : ro_step σ A = (.inl eNSE, A, 0) := if_pos (by rw [hL]; exact List.eq_nil_of_length_eq_zero c_6)
          rw [hro]
          exact ⟨rfl, Mem.same (TS_pkS hT _) (fun x => pkS_k (by decide))⟩) (by omega) (by omega) (Nat.le_of_ble_eq_true rfl) dX5_step_9 dX5_step_12 dX5_step_13 dX5_step_15 dX5_step_18

