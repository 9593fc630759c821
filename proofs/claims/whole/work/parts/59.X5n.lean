/-! ===== a revert ===== -/
def filS (σ : SG) (n : Nat) : SG := upr σ 15 1 0 (fun x => if x < n then 0 else σ 15 1 0 x)
theorem filS_k {σ : SG} {n k i j x : Nat} (hk : k ≠ 15) : filS σ n k i j x = σ k i j x := upr_k hk
theorem filS_BD {σ : SG} (h : BD σ) (n : Nat) : BD (filS σ n) := BD.putr h (fun x _ => by
  split
  · show 0 < 100
    decide
  · exact h 15 1 0 x rfl)
theorem filS_s (σ : SG) (n : Nat) : up (filS σ n) 15 1 0 n 0 = filS σ (n + 1) := by
  unfold filS
  rw [upr_up]
  congr 1
  funext y
  by_cases e : y = n
  · rw [if_pos e, if_pos (by omega)]
  · rw [if_neg e]
    by_cases h : y < n
    · rw [if_pos h, if_pos (by omega)]
    · rw [if_neg h, if_neg (by omega)]
theorem filS_0 (σ : SG) : filS σ 0 = σ := by
  unfold filS
  have : (fun x => if x < 0 then 0 else σ 15 1 0 x) = σ 15 1 0 := by
    funext x
    rw [if_neg (by omega)]
  rw [this]
  exact upr_id σ 15 1 0
/-- the candidate without the changes of the set g -/
def wof (σ : SG) (g : Nat) : Nat → SG
  | 0 => filS σ 64
  | n + 1 => if g.testBit (σ 13 1 0 n) = true then wof σ g n else lay (wof σ g n) (σ 13 1 0 n) 1 64
theorem wof_BD {σ : SG} (h : BD σ) (g : Nat) : ∀ n, BD (wof σ g n)
  | 0 => filS_BD h 64
  | n + 1 => by
    unfold wof
    split
    · exact wof_BD h g n
    · exact lay_BD (wof_BD h g n)
theorem wof_k {σ : SG} {g k i j x : Nat} (hk : k ≠ 15) : ∀ n, wof σ g n k i j x = σ k i j x
  | 0 => filS_k hk
  | n + 1 => by
    unfold wof
    split
    · exact wof_k hk n
    · exact (lay_k hk).trans (wof_k hk n)
theorem wof_00 (σ : SG) (g : Nat) : ∀ n x, wof σ g n 15 0 0 x = σ 15 0 0 x
  | 0, x => by
    show filS σ 64 15 0 0 x = _
    unfold filS
    exact upr_i (by decide)
  | n + 1, x => by
    unfold wof
    split
    · exact wof_00 σ g n x
    · unfold lay
      rw [if_neg (fun q => absurd q.2.1 (by decide))]
      exact wof_00 σ g n x
theorem wof_v (σ : SG) (g : Nat) : ∀ n x, x < 64 → wof σ g n 15 1 0 x = (((List.range n).map (σ 13 1 0)).filter (fun c => !g.testBit c)).foldl (fun v c => layv σ c v) (fun _ => 0) x
  | 0, x, hx => by
    show filS σ 64 15 1 0 x = 0
    unfold filS
    rw [upr_same, if_pos hx]
  | n + 1, x, hx => by
    rw [List.range_succ, List.map_append, List.filter_append, List.foldl_append]
    have ih := wof_v σ g n x hx
    unfold wof
    by_cases h : g.testBit (σ 13 1 0 n) = true
    · rw [if_pos h]
      simp only [List.map_cons, List.map_nil, List.filter_cons, List.filter_nil, h, Bool.not_true, List.foldl_nil]
      exact ih
    · rw [if_neg h]
      have h2 : g.testBit (σ 13 1 0 n) = false := by simpa using h
      simp only [List.map_cons, List.map_nil, List.filter_cons, List.filter_nil, h2, Bool.not_false, List.foldl_cons, List.foldl_nil, if_true]
      unfold lay layv
      rw [wof_k (by decide), wof_k (by decide)]
      by_cases h3 : (σ 6 (σ 13 1 0 n) 0 3).testBit x = true
      · rw [if_pos ⟨rfl, rfl, rfl, hx, h3⟩, if_pos h3]
      · rw [if_neg (fun q => h3 q.2.2.2.2), if_neg h3]
        exact ih

set_option maxHeartbeats 4000000 in
set_option maxRecDepth 100000 in
theorem c_J7_fill_53178 {l : Launch} (hl0 : l.stackTraces = false) {G : GT} {ok : KF} {ad : AD} {σ : SG} (hO : OKC ok) : Ct l G 1 yJ7_fill_53178 cJ7_fill_53178 4 (none) [.ref (ad 15 1 0), iv 0] ok ad σ (Rt none ok ad (filS σ 64)) (NX) 0 0 := by
  refine Ct.mk (by decide +kernel) hl0 (Nat.le_of_ble_eq_true rfl) (fun X hX hC hM => ?_)
  subst hX
  refine v_iconst (v := nI 0) hC dJ7_fill_53178_0 (by decide) ?_
  refine v_istore_n hC dJ7_fill_53178_1 (by decide) ?_
  refine v_aload_n hC dJ7_fill_53178_2 rfl ?_
  refine v_alenN (N := 64) 0 rfl hC dJ7_fill_53178_3 (hO.k15 (i := 1) (by decide)) rfl ?_
  refine v_istore_n hC dJ7_fill_53178_4 (by decide) ?_
  have key : ∀ p, p ≤ 64 → V X G 0 0 ok ad (filS σ p) [(0, .ref (ad 15 1 0)), (1, iv 0), (2, iv p), (3, iv 64)] 5 [] := by
    refine down (64) ?_ ?_
    · refine v_iload_n hC dJ7_fill_53178_5 rfl ?_
      refine v_iload_n hC dJ7_fill_53178_6 rfl ?_
      refine v_icmp_geN (tgt := 20) hC dJ7_fill_53178_7 (by decide) (by first | omega | decide | assumption) (by first | omega | decide | assumption) (fun c_7 => ?_) (fun c_7 => ?_)
      · refine v_vret hC hM dJ7_fill_53178_20 (by omega) (by omega) ?_
        exact ⟨rfl, rfl⟩
      · exact absurd c_7 (by omega)
    · intro p hp ih 
      refine v_iload_n hC dJ7_fill_53178_5 rfl ?_
      refine v_iload_n hC dJ7_fill_53178_6 rfl ?_
      refine v_icmp_geN (tgt := 20) hC dJ7_fill_53178_7 (by decide) (by first | omega | decide | assumption) (by first | omega | decide | assumption) (fun c_7 => ?_) (fun c_7 => ?_)
      · exact absurd c_7 (by omega)
      · refine v_aload_n hC dJ7_fill_53178_10 rfl ?_
        refine v_iload_n hC dJ7_fill_53178_11 rfl ?_
        refine v_iload_n hC dJ7_fill_53178_12 rfl ?_
        refine as_15 hC dJ7_fill_53178_13 hO (i := 1) (by decide) (by omega) ?_
        rw [filS_s]
        refine v_iincN hC dJ7_fill_53178_14 rfl (by decide) ?_
        refine v_goto (tgt := 5) hC dJ7_fill_53178_17 (by decide) ?_
        exact v_sub rfl ih
  have k0 := key 0 (Nat.zero_le _)
  rw [filS_0] at k0
  exact v_sub rfl k0

set_option maxHeartbeats 4000000 in
set_option maxRecDepth 100000 in
theorem c_X5_isGoodWithout {l : Launch} (hl0 : l.stackTraces = false) {G : GT} {ok : KF} {ad : AD} {σ : SG} (hO : OKC ok) (hB : BD σ) {K : List (List Nat)} (hCK : CK ok ad σ K) (hVK : VK σ K) (hc1 : σ 16 0 0 1 ≤ 3068) (hc2 : σ 16 0 0 2 ≤ 3990) (hc3 : σ 16 0 0 3 ≤ 99990) {g : Nat} (hg : g < 2 ^ 16) : Ct l G 4 yX5_isGoodWithout cX5_isGoodWithout 4 (some .boolean) [.ref (ad 0 0 0), iv g] ok ad σ (fun v μ => v = some (iv (b2n (sbl (wof σ g (σ 12 1 0 0)) (wof σ g (σ 12 1 0 0) 15 1 0) 4 K).1)) ∧ Bld ok ad (wof σ g (σ 12 1 0 0)) K (sbl (wof σ g (σ 12 1 0 0)) (wof σ g (σ 12 1 0 0) 15 1 0) 4 K).2.1 (sbl (wof σ g (σ 12 1 0 0)) (wof σ g (σ 12 1 0 0) 15 1 0) 4 K).2.2 μ) (NX) 8 108 := by
  refine Ct.mk (by decide +kernel) hl0 (Nat.le_of_ble_eq_true rfl) (fun X hX hC hM => ?_)
  subst hX
  have hsz : σ 12 1 0 0 < 17 := hB 12 1 0 0 rfl
  refine v_aload_n hC dX5_isGoodWithout_0 rfl ?_
  refine gf_X5_45 hC dX5_isGoodWithout_1 hO ?_
  refine v_iconst (v := nI 0) hC dX5_isGoodWithout_4 (by decide) ?_
  refine v_callS_v0 hC lk_X5_318 dX5_isGoodWithout_5 (c_J7_fill_53178 hl0 hO) (by decide) (by decide) rfl rfl (Nat.le_of_ble_eq_true rfl) (by omega) (by omega) ?_
  refine v_iconst (v := nI 0) hC dX5_isGoodWithout_8 (by decide) ?_
  refine v_istore_n hC dX5_isGoodWithout_9 (by decide) ?_
  have key : ∀ n, n ≤ σ 12 1 0 0 → V X G 0 0 ok ad (wof σ g n) [(0, .ref (ad 0 0 0)), (1, iv g), (2, iv n)] 10 [] := by
    refine down (σ 12 1 0 0) ?_ ?_
    · refine v_iload_n hC dX5_isGoodWithout_10 rfl ?_
      refine v_aload_n hC dX5_isGoodWithout_11 rfl ?_
      refine gf_X5_36 hC dX5_isGoodWithout_12 hO ?_
      refine gf_X5_159 hC dX5_isGoodWithout_15 hO (i := 1) (by decide) ?_
      rw [wof_k (by decide)]
      refine v_icmp_geN (tgt := 57) hC dX5_isGoodWithout_18 (by decide) (by first | omega | exact hB _ _ _ _ rfl | assumption | exact Nat.lt_of_le_of_lt Nat.and_le_left (Nat.lt_trans hg (by decide))) (by first | omega | exact hB _ _ _ _ rfl | assumption | exact Nat.lt_of_le_of_lt Nat.and_le_left (Nat.lt_trans hg (by decide))) (fun c_18 => ?_) (fun c_18 => ?_)
      · refine v_aload_n hC dX5_isGoodWithout_57 rfl ?_
        refine gf_X5_51 hC dX5_isGoodWithout_58 hO ?_
        refine v_aload_n hC dX5_isGoodWithout_61 rfl ?_
        refine gf_X5_45 hC dX5_isGoodWithout_62 hO ?_
        have hkf : ∀ k, k ≠ 15 → wof σ g (σ 12 1 0 0) k = σ k := fun k hk => by
          funext i j x
          exact wof_k hk _
        have hk16 : ∀ x, wof σ g (σ 12 1 0 0) 16 0 0 x = σ 16 0 0 x := fun x => wof_k (by decide) _
        refine v_callVN hC lk_X5_310 dX5_isGoodWithout_65 (c_X4_buildTrunk hl0 hO (wof_BD hB g (σ 12 1 0 0)) (w := 1) (by decide) (K := K) (hCK.same (hkf 19 (by decide)) (hkf 21 (by decide)) (hkf 22 (by decide)) (hk16 1)) (VK_of hVK (hkf 18 (by decide)) (hk16 0)) (by rw [hk16]; exact hc1) (by rw [hk16]; exact hc2) (by rw [hk16]; exact hc3)) (by decide) (by decide) hO.k16 rfl rfl rfl rfl (Nat.le_of_ble_eq_true rfl) (by omega) (by omega) (fun v μ h => ?_) (fun _ _ h => h.elim)
        obtain ⟨rfl, hb⟩ := h
        obtain ⟨nk, na, τ, rfl, hb1, hb2⟩ := hb
        dsimp only
        refine v_zret hC hM dX5_isGoodWithout_68 (nar_z (b2n_lt _)) (by omega) (by omega) ?_
        exact ⟨rfl, nk, na, τ, rfl, hb1, hb2⟩
      · exact absurd c_18 (by omega)
    · intro n hp ih 
      have hBn := wof_BD hB g n
      have hc16 : σ 13 1 0 n < 16 := hB 13 1 0 n rfl
      refine v_iload_n hC dX5_isGoodWithout_10 rfl ?_
      refine v_aload_n hC dX5_isGoodWithout_11 rfl ?_
      refine gf_X5_36 hC dX5_isGoodWithout_12 hO ?_
      refine gf_X5_159 hC dX5_isGoodWithout_15 hO (i := 1) (by decide) ?_
      rw [wof_k (by decide)]
      refine v_icmp_geN (tgt := 57) hC dX5_isGoodWithout_18 (by decide) (by first | omega | exact hB _ _ _ _ rfl | assumption | exact Nat.lt_of_le_of_lt Nat.and_le_left (Nat.lt_trans hg (by decide))) (by first | omega | exact hB _ _ _ _ rfl | assumption | exact Nat.lt_of_le_of_lt Nat.and_le_left (Nat.lt_trans hg (by decide))) (fun c_18 => ?_) (fun c_18 => ?_)
      · exact absurd c_18 (by omega)
      · refine v_aload_n hC dX5_isGoodWithout_21 rfl ?_
        refine gf_X5_36 hC dX5_isGoodWithout_22 hO ?_
        refine v_iload_n hC dX5_isGoodWithout_25 rfl ?_
        refine v_callVN_r0 hC lk_X5_171 dX5_isGoodWithout_26 (c_X2_at hl0 hO hBn (by decide) (by omega)) (by decide) (by decide) (hO.k12 (i := 1) (by decide)) rfl rfl rfl rfl (Nat.le_of_ble_eq_true rfl) (by omega) (by omega) ?_
        rw [wof_k (by decide)]
        refine v_istore_n hC dX5_isGoodWithout_29 (by decide) ?_
        refine v_iload_n hC dX5_isGoodWithout_30 rfl ?_
        refine v_iconst (v := nI 1) hC dX5_isGoodWithout_31 (by decide) ?_
        refine v_iload_n hC dX5_isGoodWithout_32 rfl ?_
        refine v_ishlN hC dX5_isGoodWithout_33 (by omega) ?_
        refine v_iandN hC dX5_isGoodWithout_34 ?_
        refine v_if_neN (tgt := 51) hC dX5_isGoodWithout_35 (by decide) (by first | omega | exact hB _ _ _ _ rfl | assumption | exact Nat.lt_of_le_of_lt Nat.and_le_left (Nat.lt_trans hg (by decide))) (fun c_35 => ?_) (fun c_35 => ?_)
        · refine v_iincN hC dX5_isGoodWithout_51 rfl (by decide) ?_
          refine v_goto (tgt := 10) hC dX5_isGoodWithout_54 (by decide) ?_
          rw [show wof σ g (n + 1) = wof σ g n from if_pos (bit_nz c_35)] at ih
          exact v_sub rfl ih
        · refine v_aload_n hC dX5_isGoodWithout_38 rfl ?_
          refine gf_X5_25 hC dX5_isGoodWithout_39 hO ?_
          refine v_iload_n hC dX5_isGoodWithout_42 rfl ?_
          refine al_5 hC dX5_isGoodWithout_43 hO hc16 ?_
          refine v_aload_n hC dX5_isGoodWithout_44 rfl ?_
          refine gf_X5_45 hC dX5_isGoodWithout_45 hO ?_
          refine v_callVN_v0 hC lk_X5_306 dX5_isGoodWithout_48 (c_X1_applyTo hl0 hO hBn hc16 (w := 1) (by decide)) (by decide) (by decide) (hO.k6 hc16) rfl rfl rfl rfl (Nat.le_of_ble_eq_true rfl) (by omega) (by omega) ?_
          refine v_iincN hC dX5_isGoodWithout_51 rfl (by decide) ?_
          refine v_goto (tgt := 10) hC dX5_isGoodWithout_54 (by decide) ?_
          rw [show wof σ g (n + 1) = lay (wof σ g n) (σ 13 1 0 n) 1 64 from if_neg (by rw [(bit_z _ _).mp c_35]; decide)] at ih
          exact v_sub rfl ih
  exact v_sub rfl (key 0 (Nat.zero_le _))

/-- what goes along with the change a, of those merged -/
def gnA (σ : SG) (a : Nat) (acc : List Nat) (c : Nat) : List Nat := if c = a ∨ acc.any (fun x => shr σ c x) = true then acc ++ [c] else acc
def gnl (σ : SG) (a : Nat) (ml : List Nat) : List Nat := ml.foldl (gnA σ a) []
theorem any_shr {σ : SG} {c : Nat} {L : List Nat} : L.any (fun x => shr σ c x) = true ↔ ∃ x ∈ L, σ 6 c 0 3 &&& σ 6 x 0 3 ≠ 0 := by
  rw [List.any_eq_true]
  constructor
  · rintro ⟨x, h1, h2⟩
    exact ⟨x, h1, of_decide_eq_true h2⟩
  · rintro ⟨x, h1, h2⟩
    exact ⟨x, h1, decide_eq_true h2⟩
theorem gal_gnl (σ : SG) (a : Nat) : ∀ n, (∀ c, (gal σ a n).1.testBit c = decide (c ∈ ((List.range n).map (σ 13 1 0)).foldl (gnA σ a) [])) ∧ ∀ e, e &&& (gal σ a n).2 ≠ 0 ↔ ∃ x ∈ ((List.range n).map (σ 13 1 0)).foldl (gnA σ a) [], e &&& σ 6 x 0 3 ≠ 0
  | 0 => ⟨fun c => by
      show Nat.testBit 0 c = decide (c ∈ [])
      simp, fun e => ⟨fun h => absurd (Nat.and_zero e) h, fun ⟨x, hx, _⟩ => by cases hx⟩⟩
  | n + 1 => by
    obtain ⟨h1, h2⟩ := gal_gnl σ a n
    rw [List.range_succ, List.map_append, List.foldl_append]
    generalize ((List.range n).map (σ 13 1 0)).foldl (gnA σ a) [] = L at h1 h2 ⊢
    show (∀ c, (gal σ a (n + 1)).1.testBit c = decide (c ∈ gnA σ a L (σ 13 1 0 n))) ∧ ∀ e, e &&& (gal σ a (n + 1)).2 ≠ 0 ↔ ∃ x ∈ gnA σ a L (σ 13 1 0 n), e &&& σ 6 x 0 3 ≠ 0
    by_cases hc : σ 13 1 0 n = a ∨ σ 6 (σ 13 1 0 n) 0 3 &&& (gal σ a n).2 ≠ 0
    · have e1 : gal σ a (n + 1) = ((gal σ a n).1 ||| 1 * 2 ^ σ 13 1 0 n, (gal σ a n).2 ||| σ 6 (σ 13 1 0 n) 0 3) := if_pos hc
      have e2 : gnA σ a L (σ 13 1 0 n) = L ++ [σ 13 1 0 n] := if_pos (hc.imp id (fun q => any_shr.mpr ((h2 _).mp q)))
      rw [e1, e2]
      refine ⟨fun c => ?_, fun e => ?_⟩
      · show ((gal σ a n).1 ||| 1 * 2 ^ σ 13 1 0 n).testBit c = _
        rw [Nat.one_mul, fb_bit_set, h1 c]
        by_cases q : c = σ 13 1 0 n <;> simp [q]
      · show e &&& ((gal σ a n).2 ||| σ 6 (σ 13 1 0 n) 0 3) ≠ 0 ↔ _
        rw [Nat.and_or_distrib_left, ne_eq, Nat.or_eq_zero_iff]
        constructor
        · intro h
          by_cases q : e &&& (gal σ a n).2 = 0
          · exact ⟨_, List.mem_append_right _ List.mem_cons_self, fun z => h ⟨q, z⟩⟩
          · obtain ⟨x, hx, hx2⟩ := (h2 e).mp q
            exact ⟨x, List.mem_append_left _ hx, hx2⟩
        · rintro ⟨x, hx, hx2⟩ ⟨z1, z2⟩
          rcases List.mem_append.mp hx with q | q
          · exact (h2 e).mpr ⟨x, q, hx2⟩ z1
          · rw [List.mem_singleton.mp q] at hx2
            exact hx2 z2
    · have e1 : gal σ a (n + 1) = gal σ a n := if_neg hc
      have e2 : gnA σ a L (σ 13 1 0 n) = L := if_neg (fun q => hc (q.imp id (fun z => (h2 _).mpr (any_shr.mp z))))
      rw [e1, e2]
      exact ⟨h1, h2⟩
theorem gnl_sub (σ : SG) (a : Nat) : ∀ (q acc : List Nat), (acc ++ q).Nodup → (q.foldl (gnA σ a) acc).Nodup ∧ ∀ c ∈ q.foldl (gnA σ a) acc, c ∈ acc ∨ c ∈ q
  | [], acc, h => ⟨by rw [List.append_nil] at h; exact h, fun c hc => .inl hc⟩
  | c :: q, acc, h => by
    have h3 := List.nodup_append.mp h
    by_cases hc : c = a ∨ acc.any (fun x => shr σ c x) = true
    · have e : gnA σ a acc c = acc ++ [c] := if_pos hc
      rw [List.foldl_cons, e]
      obtain ⟨r1, r2⟩ := gnl_sub σ a q (acc ++ [c]) (by rw [List.append_assoc]; exact h)
      refine ⟨r1, fun x hx => ?_⟩
      rcases r2 x hx with z | z
      · rcases List.mem_append.mp z with w | w
        · exact .inl w
        · rw [List.mem_singleton.mp w]
          exact .inr List.mem_cons_self
      · exact .inr (List.mem_cons_of_mem _ z)
    · have e : gnA σ a acc c = acc := if_neg hc
      rw [List.foldl_cons, e]
      obtain ⟨r1, r2⟩ := gnl_sub σ a q acc (List.nodup_append.mpr ⟨h3.1, (List.nodup_cons.mp h3.2.1).2, fun x hx y hy => h3.2.2 x hx y (List.mem_cons_of_mem _ hy)⟩)
      exact ⟨r1, fun x hx => (r2 x hx).imp id (List.mem_cons_of_mem _)⟩
theorem gnl_ok (σ : SG) (a : Nat) {ml : List Nat} (h : ml.Nodup) : (gnl σ a ml).Nodup ∧ ∀ c ∈ gnl σ a ml, c ∈ ml := by
  obtain ⟨h1, h2⟩ := gnl_sub σ a ml [] h
  exact ⟨h1, fun c hc => (h2 c hc).elim (fun z => by cases z) id⟩
theorem cnt_ext {f g : Nat → Bool} : ∀ n, (∀ c, c < n → f c = g c) → cnt f n = cnt g n
  | 0, _ => rfl
  | n + 1, h => by
    show cnt f n + b2n (f n) = cnt g n + b2n (g n)
    rw [cnt_ext n (fun c hc => h c (by omega)), h n (by omega)]
theorem cnt_mem : ∀ (n : Nat) {L : List Nat}, L.Nodup → (∀ c ∈ L, c < n) → cnt (fun c => decide (c ∈ L)) n = L.length
  | 0, L, _, h => by
    cases L with
    | nil => rfl
    | cons c L => exact absurd (h c List.mem_cons_self) (by omega)
  | n + 1, L, hd, h => by
    have h1 := cnt_mem n (L := L.filter (fun c => decide (c ≠ n))) (hd.filter _) (fun c hc => by
      obtain ⟨q1, q2⟩ := List.mem_filter.mp hc
      have := h c q1
      have := of_decide_eq_true q2
      omega)
    show cnt (fun c => decide (c ∈ L)) n + b2n (decide (n ∈ L)) = L.length
    rw [cnt_ext (g := fun c => decide (c ∈ L.filter (fun c => decide (c ≠ n)))) n (fun c hc => by
      apply decide_eq_decide.mpr
      rw [List.mem_filter]
      exact ⟨fun q => ⟨q, decide_eq_true (by omega)⟩, fun q => q.1⟩), h1]
    clear h1 h
    induction L with
    | nil => rfl
    | cons c L ih =>
      obtain ⟨hc, hl⟩ := List.nodup_cons.mp hd
      by_cases e : c = n
      · subst e
        have : L.filter (fun x => decide (x ≠ c)) = L := List.filter_eq_self.mpr (fun x hx => decide_eq_true (fun q => hc (by rw [← q]; exact hx)))
        rw [List.filter_cons_of_neg (by simp), this]
        simp [b2n]
      · have h3 := ih hl
        rw [List.filter_cons_of_pos (by simp [e])]
        have e4 : decide (n ∈ c :: L) = decide (n ∈ L) := by
          apply decide_eq_decide.mpr
          rw [List.mem_cons]
          exact ⟨fun q => q.elim (fun z => absurd z.symm e) id, .inr⟩
        rw [e4]
        simp only [List.length_cons]
        omega
/-- the trunk without the changes g -/
def rvT (σ : SG) (g ml : List Nat) : Nat → Nat := (ml.filter (fun c => !decide (c ∈ g))).foldl (fun v c => layv σ c v) (fun _ => 0)
def rvA (σ : SG) (g : List Nat) (A : AS) : AS := (fun c => if c ∈ g then 118 else aS A c, aF A, aC A, aQ A, (aM A).filter (fun c => !decide (c ∈ g)), rvT σ g (aM A), aK A)
def ro_revert (σ : SG) (A : AS) (c : Int32) : RO := match inR c (σ 0 0 0 0) with
  | none => (.inl eNSE, A, 0)
  | some c => if aS A c ≠ 109 then (.inl eISE, A, 0) else
    if (sbl σ (rvT σ (gnl σ c (aM A)) (aM A)) 4 (aK A)).1 = true then (.inr (gnl σ c (aM A)).length, rvA σ (gnl σ c (aM A)) (setK A (sbl σ (rvT σ (gnl σ c (aM A)) (aM A)) 4 (aK A)).2.1), (sbl σ (rvT σ (gnl σ c (aM A)) (aM A)) 4 (aK A)).2.2)
    else (.inl eUOE, setK A (sbl σ (rvT σ (gnl σ c (aM A)) (aM A)) 4 (aK A)).2.1, (sbl σ (rvT σ (gnl σ c (aM A)) (aM A)) 4 (aK A)).2.2)
/-- the trunk taken from the candidate -/
def cpT (σ : SG) : SG := upr σ 15 0 0 (fun x => if x < 64 then σ 15 1 0 x else σ 15 0 0 x)
theorem cpT_BD {σ : SG} (h : BD σ) : BD (cpT σ) := by
  unfold cpT
  refine BD.putr h (fun x _ => ?_)
  split
  · exact h 15 1 0 x rfl
  · exact h 15 0 0 x rfl
theorem cpT_k {σ : SG} {k i j x : Nat} (hk : k ≠ 15) : cpT σ k i j x = σ k i j x := upr_k hk
theorem tkb_6 {σ : SG} {g c x : Nat} : ∀ n, tkb σ g n 6 c 0 x = if x = 1 ∧ c < n ∧ g.testBit c = true then 118 else σ 6 c 0 x
  | 0 => by
    rw [if_neg (fun q => absurd q.2.1 (by omega))]
    rfl
  | n + 1 => by
    have ih := tkb_6 (σ := σ) (g := g) (c := c) (x := x) n
    unfold tkb
    by_cases h : g.testBit n = true
    · rw [if_pos h]
      by_cases e : c = n
      · subst e
        by_cases ex : x = 1
        · rw [ex, up_same, if_pos ⟨rfl, by omega, h⟩]
        · rw [up_x ex, drO_k (by decide) (by decide), ih, if_neg (fun q => ex q.1), if_neg (fun q => ex q.1)]
      · rw [up_i e, drO_k (by decide) (by decide), ih]
        have : (x = 1 ∧ c < n ∧ g.testBit c = true) ↔ (x = 1 ∧ c < n + 1 ∧ g.testBit c = true) := ⟨fun q => ⟨q.1, by omega, q.2.2⟩, fun q => ⟨q.1, by omega, q.2.2⟩⟩
        simp only [this]
    · rw [if_neg h, ih]
      have : (x = 1 ∧ c < n ∧ g.testBit c = true) ↔ (x = 1 ∧ c < n + 1 ∧ g.testBit c = true) := ⟨fun q => ⟨q.1, by omega, q.2.2⟩, fun q => ⟨q.1, Nat.lt_of_le_of_ne (by omega) (fun z => h (by rw [← z]; exact q.2.2)), q.2.2⟩⟩
      simp only [this]
theorem tkb_l1 {σ : SG} {g : Nat} : ∀ n, lsO (tkb σ g n) 1 = (lsO σ 1).filter (fun c => !(decide (c < n) && g.testBit c))
  | 0 => by
    show lsO σ 1 = _
    rw [List.filter_eq_self.mpr (fun c _ => by simp)]
  | n + 1 => by
    have ih := tkb_l1 (σ := σ) (g := g) n
    unfold tkb
    by_cases h : g.testBit n = true
    · rw [if_pos h]
      have : lsO (up (drO (tkb σ g n) 1 n) 6 n 0 1 118) 1 = lsO (drO (tkb σ g n) 1 n) 1 := rfl
      rw [this, lsO_drO, ih, List.filter_filter]
      apply List.filter_congr
      intro c _
      by_cases e : c = n
      · subst e; simp [h]
      · have : decide (c < n + 1) = decide (c < n) := decide_eq_decide.mpr (by omega)
        simp [this, e]
    · rw [if_neg h, ih]
      apply List.filter_congr
      intro c _
      by_cases e : c = n
      · subst e; simp [h]
      · have : decide (c < n + 1) = decide (c < n) := decide_eq_decide.mpr (by omega)
        rw [this]
theorem tkb_l0 {σ : SG} {g : Nat} : ∀ n, lsO (tkb σ g n) 0 = lsO σ 0
  | 0 => rfl
  | n + 1 => by
    unfold tkb
    split
    · have : lsO (up (drO (tkb σ g n) 1 n) 6 n 0 1 118) 0 = lsO (drO (tkb σ g n) 1 n) 0 := rfl
      rw [this, lsO_other (by decide)]
      exact tkb_l0 n
    · exact tkb_l0 n
theorem TS_rv {ok : KF} {ad : AD} {σ0 σ : SG} {A : AS} {L : List Nat} {g : Nat} (h : TS ok ad σ0 σ A) (hg : ∀ c, g.testBit c = decide (c ∈ L)) (hL : ∀ c ∈ L, c ∈ aM A) (hv : ∀ x, x < 64 → σ 15 1 0 x = rvT σ0 L (aM A) x) : TS ok ad σ0 (tkb (cpT σ) g (cpT σ 0 0 0 0)) (rvA σ0 L A) := by
  obtain ⟨h1, h2, h3, h4, h5, h6⟩ := h
  obtain ⟨r1, r2, r3, r4, r5, r6⟩ := h3
  have hn : cpT σ 0 0 0 0 = σ0 0 0 0 0 := by
    rw [cpT_k (by decide), h2.1 0 (by decide) (by decide) (by decide) (by decide) (by decide) rfl]
  have hk : ∀ k i j x, k ≠ 12 → k ≠ 13 → k ≠ 6 → k ≠ 15 → tkb (cpT σ) g (cpT σ 0 0 0 0) k i j x = σ k i j x := fun k i j x q1 q2 q3 q4 => (tkb_k q1 q2 q3 _).trans (cpT_k q4)
  have hk6 : ∀ c x, x ≠ 1 → tkb (cpT σ) g (cpT σ 0 0 0 0) 6 c 0 x = σ 6 c 0 x := fun c x hx => by
    rw [tkb_6, if_neg (fun q => hx q.1)]
    exact cpT_k (by decide)
  have hl : ∀ w, lsO (cpT σ) w = lsO σ w := fun w => by
    unfold lsO
    rw [cpT_k (by decide)]
    apply List.map_congr_left
    intro x _
    exact cpT_k (by decide)
  have hin : ∀ c ∈ L, c < σ0 0 0 0 0 := fun c hc => (h6.2.2.2 c (hL c hc)).1
  refine ⟨tkb_BD (cpT_BD h1) g _, ⟨fun k g6 g12 g13 g14 g15 gk => ?_, fun c x g1 g2 g4 => ?_, ?_⟩, ⟨fun c hc => ?_, fun c hc => ?_, fun c hc x hx => ?_, ?_, ?_, fun x hx => ?_⟩, ?_, h5, ?_⟩
  · rw [← h2.1 k g6 g12 g13 g14 g15 gk]
    funext a b x
    exact hk k a b x g12 g13 g6 g15
  · rw [hk6 c x g1]
    exact h2.2.1 c x g1 g2 g4
  · rw [hk 16 0 0 0 (by decide) (by decide) (by decide) (by decide)]
    exact h2.2.2
  · rw [tkb_6, hn, hg c]
    show _ = if c ∈ L then 118 else aS A c
    by_cases q : c ∈ L
    · rw [if_pos q, if_pos ⟨rfl, hin c q, decide_eq_true q⟩]
    · rw [if_neg q, if_neg (fun z => q (of_decide_eq_true z.2.2)), cpT_k (by decide)]
      exact r1 c hc
  · rw [hk6 c 2 (by decide)]
    exact r2 c hc
  · rw [hk6 c 4 (by decide)]
    exact r3 c hc x hx
  · rw [tkb_l0, hl]
    exact r4
  · rw [tkb_l1, hl, r5, hn]
    show _ = (aM A).filter (fun c => !decide (c ∈ L))
    apply List.filter_congr
    intro c _
    rw [hg c]
    by_cases q : c ∈ L
    · simp [q, hin c q]
    · simp [q]
  · have e : tkb (cpT σ) g (cpT σ 0 0 0 0) 15 0 0 x = cpT σ 15 0 0 x := tkb_k (by decide) (by decide) (by decide) _
    rw [e]
    unfold cpT
    rw [upr_same, if_pos hx]
    exact hv x hx
  · exact h4.same (by funext a b x; exact hk 19 a b x (by decide) (by decide) (by decide) (by decide)) (by funext a b x; exact hk 21 a b x (by decide) (by decide) (by decide) (by decide)) (by funext a b x; exact hk 22 a b x (by decide) (by decide) (by decide) (by decide)) (hk 16 0 0 1 (by decide) (by decide) (by decide) (by decide))
  · obtain ⟨i1, i2, i3, i4⟩ := h6
    refine ⟨i1, i2.filter _, fun c hc => ⟨(i3 c hc).1, ?_⟩, fun c hc => ?_⟩
    · show (if c ∈ L then 118 else aS A c) = 113
      rw [if_neg (fun q => by
        have e1 := (i4 c (hL c q)).2
        rw [(i3 c hc).2] at e1
        cases e1)]
      exact (i3 c hc).2
    · obtain ⟨q1, q2⟩ := List.mem_filter.mp hc
      refine ⟨(i4 c q1).1, ?_⟩
      show (if c ∈ L then 118 else aS A c) = 109
      rw [if_neg (by simpa using q2)]
      exact (i4 c q1).2
theorem RC_wof {σ : SG} {A : AS} (h : RC σ A) (g n : Nat) : RC (wof σ g n) A := by
  obtain ⟨h1, h2, h3, h4, h5, h6⟩ := h
  have hk : ∀ k, k ≠ 15 → wof σ g n k = σ k := fun k hk => by
    funext i j x
    exact wof_k hk _
  have e6 := hk 6 (by decide)
  have el : ∀ w, lsO (wof σ g n) w = lsO σ w := fun w => by
    unfold lsO
    rw [hk 12 (by decide), hk 13 (by decide)]
  exact ⟨fun c hc => by rw [e6]; exact h1 c hc, fun c hc => by rw [e6]; exact h2 c hc, fun c hc x hx => by rw [e6]; exact h3 c hc x hx, (el 0).trans h4, (el 1).trans h5, fun x hx => (wof_00 σ g n x).trans (h6 x hx)⟩
theorem SF_wof (σ : SG) (g n : Nat) : SF σ (wof σ g n) :=
  ⟨fun k _ _ _ _ h15 _ => by
    funext i j x
    exact wof_k h15 n, fun c x _ _ _ => wof_k (by decide) n, wof_k (by decide) n⟩

set_option maxHeartbeats 4000000 in
set_option maxRecDepth 100000 in
theorem c_X5_revert {l : Launch} (hl0 : l.stackTraces = false) {G : GT} {ok : KF} {ad : AD} {σ : SG} {A : AS} (hO : OKC ok) (hT : TS ok ad σ σ A) (h1 : σ 16 0 0 1 + 4 ≤ 3072) (h2 : σ 16 0 0 2 + 4 ≤ 3994) (h3 : σ 16 0 0 3 + 4 ≤ 99994) (c : Int32) :
    Ct l G 5 yX5_revert cX5_revert 3 (some .int) [.ref (ad 0 0 0), .int c] ok ad σ (rV (ro_revert σ A c) ok ad σ A 4) (rX (ro_revert σ A c) ok ad σ A 4) 12 132 := by
  refine Ct.mk (by decide +kernel) hl0 (Nat.le_of_ble_eq_true rfl) (fun X hX hC hM => ?_)
  subst hX
  have hB := hT.1
  refine v_aload_n hC dX5_revert_0 rfl ?_
  refine v_iload_n hC dX5_revert_1 rfl ?_
  refine v_callV hC lk_X5_82 dX5_revert_2 (c_X5_changeOf hl0 hO hB c) (by decide) (by decide) hO.k0 rfl rfl rfl rfl (Nat.le_of_ble_eq_true rfl) (by omega) (by omega) (fun v μ h => ?_) (fun E μ h => ?_)
  rotate_left
  · obtain ⟨rfl, rfl, he⟩ := h
    refine v_out hC hM (by omega) (by omega) ?_
    have hro : ro_revert σ A c = (.inl eNSE, A, 0) := by
      unfold ro_revert
      rw [he]
    rw [hro]
    exact ⟨rfl, Mem.same hT (fun _ => rfl)⟩
  obtain ⟨rfl, c, h_c, rfl, b_c, b2_c, rfl⟩ := h
  dsimp only
  refine v_callS hC lk_X5_226 dX5_revert_5 (c_X5_checkMerged hl0 hO hB b2_c) (by decide) (by decide) rfl rfl (Nat.le_of_ble_eq_true rfl) (by omega) (by omega) (fun v μ h => ?_) (fun E μ h => ?_)
  rotate_left
  · obtain ⟨rfl, rfl, he⟩ := h
    refine v_out hC hM (by omega) (by omega) ?_
    rw [hT.2.2.1.1 c b2_c] at he
    have hro : ro_revert σ A (nI c) = (.inl eISE, A, 0) := by
      unfold ro_revert
      rw [h_c]
      dsimp only
      rw [if_pos he]
    rw [hro]
    exact ⟨rfl, Mem.same hT (fun _ => rfl)⟩
  obtain ⟨rfl, rfl, hop⟩ := h
  rw [hT.2.2.1.1 c b2_c] at hop
  dsimp only
  refine v_aload_n hC dX5_revert_8 rfl ?_
  refine v_iload_n hC dX5_revert_9 rfl ?_
  refine v_callV_r0 hC lk_X5_229 dX5_revert_10 (c_X5_goingAlong hl0 hO hB b2_c) (by decide) (by decide) hO.k0 rfl rfl rfl rfl (Nat.le_of_ble_eq_true rfl) (by omega) (by omega) ?_
  refine v_istore_n hC dX5_revert_13 (by decide) ?_
  refine v_aload_n hC dX5_revert_14 rfl ?_
  refine v_iload_n hC dX5_revert_15 rfl ?_
  have hml : (List.range (σ 12 1 0 0)).map (σ 13 1 0) = aM A := hT.2.2.1.2.2.2.2.1
  have hgt : ∀ y, (gal σ c (σ 12 1 0 0)).1.testBit y = decide (y ∈ gnl σ c (aM A)) := fun y => by
    have := (gal_gnl σ c (σ 12 1 0 0)).1 y
    rw [hml] at this
    exact this
  have hgl := gal_lt hB c (σ 12 1 0 0)
  generalize (gal σ c (σ 12 1 0 0)).1 = g at *
  have hgL := gnl_ok σ c hT.2.2.2.2.2.2.1
  have hip : ipop g = (gnl σ c (aM A)).length := by
    unfold ipop
    rw [cnt_ext 32 (fun x _ => hgt x)]
    exact cnt_mem 32 hgL.1 (fun x hx => by
      have := (hT.2.2.2.2.2.2.2.2 x (hgL.2 x hx)).1
      have h17 : σ 0 0 0 0 < 17 := hB 0 0 0 0 rfl
      omega)
  refine v_callV hC lk_X5_237 dX5_revert_16 (c_X5_isGoodWithout hl0 hO hB (K := aK A) hT.2.2.2.1 hT.2.2.2.2.1 (by omega) (by omega) (by omega) (g := g) hgl.1) (by decide) (by decide) hO.k0 rfl rfl rfl rfl (Nat.le_of_ble_eq_true rfl) (by omega) (by omega) (fun v μ h => ?_) (fun _ _ h => h.elim)
  obtain ⟨rfl, nk, na, τ, rfl, g1, g2, g3, g4, g5, g6, g7, g8, g9⟩ := h
  dsimp only
  have k16 : ∀ x, wof σ g (σ 12 1 0 0) 16 0 0 x = σ 16 0 0 x := fun x => wof_k (by decide) _
  have hsb : sbl (wof σ g (σ 12 1 0 0)) (wof σ g (σ 12 1 0 0) 15 1 0) 4 (aK A) = sbl σ (rvT σ (gnl σ c (aM A)) (aM A)) 4 (aK A) := by
    rw [sbl_18 (by funext i j x; exact wof_k (by decide) _) (k16 0)]
    refine sbl_v hB (fun x hx => ?_) 4 _
    rw [wof_v σ g _ x hx, hml]
    unfold rvT
    rw [List.filter_congr (fun y _ => by rw [hgt y])]
  have hvx : ∀ x, x < 64 → wof σ g (σ 12 1 0 0) 15 1 0 x = rvT σ (gnl σ c (aM A)) (aM A) x := fun x hx => by
    rw [wof_v σ g _ x hx, hml]
    unfold rvT
    rw [List.filter_congr (fun y _ => by rw [hgt y])]
  rw [hsb] at g2 g3 g5 g6 g7 g8 g9 ⊢
  rw [k16] at g6 g7 g8
  have hro : ro_revert σ A (nI c) = if (sbl σ (rvT σ (gnl σ c (aM A)) (aM A)) 4 (aK A)).1 = true then (.inr (gnl σ c (aM A)).length, rvA σ (gnl σ c (aM A)) (setK A (sbl σ (rvT σ (gnl σ c (aM A)) (aM A)) 4 (aK A)).2.1), (sbl σ (rvT σ (gnl σ c (aM A)) (aM A)) 4 (aK A)).2.2) else (.inl eUOE, setK A (sbl σ (rvT σ (gnl σ c (aM A)) (aM A)) 4 (aK A)).2.1, (sbl σ (rvT σ (gnl σ c (aM A)) (aM A)) 4 (aK A)).2.2) := by
    unfold ro_revert
    rw [h_c]
    dsimp only
    rw [if_neg (fun q => q hop)]
  generalize sbl σ (rvT σ (gnl σ c (aM A)) (aM A)) 4 (aK A) = r at *
  have hCT : CT σ (mixS (wof σ g (σ 12 1 0 0)) τ) (aK A) r.2.1 r.2.2 4 := ⟨g5.1, g5.2, g6, g7, g8, g9⟩
  have hSF : SF σ (mixS (wof σ g (σ 12 1 0 0)) τ) := (SF_wof σ g _).trans (SF_mixS g4)
  have hT1 : TS (mixK ok nk) (mixA ad na) σ (mixS (wof σ g (σ 12 1 0 0)) τ) (setK A r.2.1) := ⟨g1, hSF, RC_wof hT.2.2.1 g _, g2, VK_SF' (SF_wof σ g _) g3, hT.2.2.2.2.2⟩
  have hv1 : ∀ x, x < 64 → mixS (wof σ g (σ 12 1 0 0)) τ 15 1 0 x = rvT σ (gnl σ c (aM A)) (aM (setK A r.2.1)) x := hvx
  generalize mixS (wof σ g (σ 12 1 0 0)) τ = σ1 at *
  have hO1 : OKC (mixK ok nk) := hO.mix
  have hB1 := hT1.1
  refine v_if_neN (tgt := 32) hC dX5_revert_19 (by decide) (by first | omega | exact b2n_31 _ | assumption) (fun c_19 => ?_) (fun c_19 => ?_)
  · refine v_aload_n hC dX5_revert_32 rfl ?_
    refine gf_X5_45 hC dX5_revert_33 hO1 ?_
    refine v_iconst (v := nI 0) hC dX5_revert_36 (by decide) ?_
    refine v_aload_n hC dX5_revert_37 rfl ?_
    refine gf_X5_42 hC dX5_revert_38 hO1 ?_
    refine v_iconst (v := nI 0) hC dX5_revert_41 (by decide) ?_
    refine v_bipush (v := nI 64) hC dX5_revert_42 (by decide) ?_
    refine v_copyi (k := 15) (i := 1) (j := 0) (k2 := 15) (i2 := 0) (j2 := 0) (m := 64) (N := 64) (N2 := 64) (σ1 := cpT σ1) hC dX5_revert_44 ac_X5_242 (hO1.k15 (i := 1) (by decide)) (hO1.k15 (i := 0) (by decide)) (by decide) rfl rfl (by decide) (by decide) (by decide) (fun _ _ _ h => upr_off _ _ h) (by unfold cpT; rw [upr_row]; rfl) (fun x => by dsimp only; split <;> rfl) (Nat.le_of_ble_eq_true rfl) ?_
    refine v_aload_n hC dX5_revert_47 rfl ?_
    refine v_iload_n hC dX5_revert_48 rfl ?_
    refine v_callV_v0 hC lk_X5_248 dX5_revert_49 (c_X5_takeBack hl0 hO1 (cpT_BD hB1) hgl.1) (by decide) (by decide) hO1.k0 rfl rfl rfl rfl (Nat.le_of_ble_eq_true rfl) (by omega) (by omega) ?_
    refine v_iload_n hC dX5_revert_52 rfl ?_
    refine v_callS_r0 hC lk_X5_232 dX5_revert_53 (c_J6_bitCount_0f7a4 hl0 (Nat.lt_trans hgl.1 (by decide))) (by decide) (by decide) rfl rfl (Nat.le_of_ble_eq_true rfl) (by omega) (by omega) ?_
    refine v_iret hC hM dX5_revert_56 (by omega) (by omega) ?_
    rw [hro, if_pos (b2n_1 c_19)]
    refine ⟨_, rfl, by rw [hip], nk, na, _, rfl, TS_rv hT1 hgt hgL.2 hv1, ?_⟩
    have e16 : ∀ x, tkb (cpT σ1) g (cpT σ1 0 0 0 0) 16 0 0 x = σ1 16 0 0 x := fun x => (tkb_k (by decide) (by decide) (by decide) _).trans (cpT_k (by decide))
    obtain ⟨a1, a2, a3, a4, a5, a6⟩ := hCT
    exact ⟨a1, a2, by rw [e16]; exact a3, by rw [e16]; exact a4, by rw [e16]; exact a5, a6⟩
  · exact v_thr (text := "a directory of the trunk without them is not good") hC hM tw_UOE (by decide +kernel) (by
          rw [hro, if_neg (by rw [b2n_0 c_19]; decide)]
          exact ⟨rfl, nk, na, σ1, rfl, hT1, hCT⟩) (by omega) (by omega) (Nat.le_of_ble_eq_true rfl) dX5_revert_22 dX5_revert_25 dX5_revert_26 dX5_revert_28 dX5_revert_31

