theorem rng_at {f : Nat → Nat} {n c : Nat} (h : c ∈ (List.range n).map f) : ∃ k0, k0 < n ∧ f k0 = c ∧ ∀ j, j < k0 → f j ≠ c := by
  induction n with
  | zero => cases h
  | succ n ih =>
    rw [List.range_succ, List.map_append] at h
    by_cases q : c ∈ (List.range n).map f
    · obtain ⟨k0, a, b, d⟩ := ih q
      exact ⟨k0, by omega, b, d⟩
    · rcases List.mem_append.mp h with z | z
      · exact absurd z q
      · refine ⟨n, by omega, (List.mem_singleton.mp z).symm, fun j hj e => q ?_⟩
        exact List.mem_map.mpr ⟨j, List.mem_range.mpr hj, e⟩
theorem lteq {a b c : Nat} (h : a = b) (h2 : b < c) : a < c := h ▸ h2
theorem rng_inj {f : Nat → Nat} {n : Nat} (h : ((List.range n).map f).Nodup) {y z : Nat} (hy : y < n) (hz : z < n) (e : f y = f z) : y = z := by
  have key : ∀ y z, y < z → z < n → f y ≠ f z := fun y z h1 h2 e => by
    rw [show n = z + (n - z) by omega, rng_app] at h
    have h3 := (List.nodup_append.mp h).2.2
    exact h3 (f y) (List.mem_map.mpr ⟨y, List.mem_range.mpr h1, rfl⟩) (f z) (List.mem_map.mpr ⟨0, List.mem_range.mpr (by omega), by rw [Nat.add_zero]⟩) e
  rcases Nat.lt_trichotomy y z with q | q | q
  · exact absurd e (key y z q hz)
  · exact q
  · exact absurd e.symm (key z y q hy)
theorem gnA_mem {s : SG} {a : Nat} : ∀ (q acc : List Nat) {x : Nat}, x ∈ q.foldl (gnA s a) acc → x ∈ acc ∨ x ∈ q
  | [], _, _, h => .inl h
  | c :: q, acc, x, h => by
    rcases gnA_mem q _ h with z | z
    · unfold gnA at z
      split at z
      · rcases List.mem_append.mp z with y | y
        · exact .inl y
        · exact .inr (by rw [List.mem_singleton.mp y]; exact List.mem_cons_self)
      · exact .inl z
    · exact .inr (List.mem_cons_of_mem _ z)
theorem gnA_pre {s : SG} {a : Nat} : ∀ (q : List Nat), (∀ c ∈ q, c ≠ a) → q.foldl (gnA s a) [] = []
  | [], _ => rfl
  | c :: q, h => by
    have e : gnA s a [] c = [] := if_neg (fun z => z.elim (h c List.mem_cons_self) (by simp))
    rw [List.foldl_cons, e]
    exact gnA_pre q (fun x hx => h x (List.mem_cons_of_mem _ hx))
/-- what goes along, among the q merged changes from place at0 -/
def gsq (s : SG) (M : Nat → Nat) (c at0 q : Nat) : List Nat := ((List.range q).map (fun y => M (at0 + y))).foldl (gnA s c) []
theorem gsq_s (s : SG) (M : Nat → Nat) (c at0 q : Nat) : gsq s M c at0 (q + 1) = gnA s c (gsq s M c at0 q) (M (at0 + q)) := by
  unfold gsq
  rw [List.range_succ, List.map_append, List.foldl_append]
  rfl
theorem gsq_1 {s : SG} {M : Nat → Nat} {c at0 : Nat} (h : M at0 = c) : gsq s M c at0 1 = [c] := by
  rw [gsq_s, Nat.add_zero, h]
  exact if_pos (.inl rfl)
theorem gsq_gnl {s : SG} {M : Nat → Nat} {c at0 n : Nat} (h : at0 ≤ n) (hmin : ∀ j, j < at0 → M j ≠ c) : gnl s c ((List.range n).map M) = gsq s M c at0 (n - at0) := by
  unfold gnl gsq
  obtain ⟨r, rfl⟩ : ∃ r, n = at0 + r := ⟨n - at0, by omega⟩
  rw [rng_app, List.foldl_append, gnA_pre _ (fun x hx => by
    obtain ⟨j, hj, rfl⟩ := List.mem_map.mp hx
    exact hmin j (List.mem_range.mp hj)), Nat.add_sub_cancel_left]
theorem gsq_mem {s : SG} {M : Nat → Nat} {c at0 q x : Nat} (h : x ∈ gsq s M c at0 q) : ∃ y, y < q ∧ M (at0 + y) = x := by
  rcases gnA_mem _ _ h with z | z
  · cases z
  · obtain ⟨y, hy, e⟩ := List.mem_map.mp z
    exact ⟨y, List.mem_range.mp hy, e⟩
def MkP (ok : KF) (ad : AD) (s τ : SG) (c : Nat) (v : Option Value) (μ : MT) : Prop := ∃ g : Nat → Nat, v = some (iv (gnl s c (lsM τ 1)).length) ∧ μ = (ok, ad, upr τ 58 0 0 g) ∧ ∀ x, g x = b2n (decide (x ∈ gnl s c (lsM τ 1)))

set_option maxHeartbeats 16000000 in
set_option maxRecDepth 100000 in
theorem c_X6_marks {l : Launch} (hl0 : l.stackTraces = false) {G : GT} {ok : KF} {ad : AD} {s τ : SG} (hQ : OKM ok) (hBs : BD s) (hB : BD τ) (hS : SM s τ) (hnd : (lsM τ 1).Nodup) (hlt : ∀ c ∈ lsM τ 1, c < s 0 0 0 0) (hk : ok 58 0 0) {c : Nat} (hc : c ∈ lsM τ 1) : Ct l G 1 yX6_marks cX6_marks 7 (some .int) [.ref (ad 30 0 0), iv c, .ref (ad 58 0 0)] ok ad (upr τ 58 0 0 (fun _ => 0)) (MkP ok ad s τ c) NX 0 0 := by
  refine Ct.mk (by decide +kernel) hl0 (by first | exact Nat.le_of_ble_eq_true rfl | omega) (fun X hX hC hM => ?_)
  subst hX
  obtain ⟨M, hMd⟩ : ∃ M, M = τ 51 0 0 := ⟨_, rfl⟩
  obtain ⟨mm, hmm⟩ : ∃ mm, mm = τ 30 0 0 4 := ⟨_, rfl⟩
  have hml : lsM τ 1 = (List.range mm).map M := by rw [hMd, hmm]; rfl
  have hnd2 := hnd
  rw [hml] at hnd2
  have hcn := hlt c hc
  have hn17 : s 0 0 0 0 < 17 := hBs 0 0 0 0 rfl
  have hm17 : mm < 17 := by rw [hmm]; exact hB 30 0 0 4 rfl
  rw [hml] at hc
  obtain ⟨at0, a1, a2, a3⟩ := rng_at hc
  obtain ⟨τ0, hτ0⟩ : ∃ τ0, τ0 = upr τ 58 0 0 (fun _ => 0) := ⟨_, rfl⟩
  rw [← hτ0]
  have hB1 : BD τ0 := by rw [hτ0]; exact BD.putr hB (fun x _ => by show 0 < 2; decide)
  have hM0 : τ0 51 0 0 = M := by rw [hτ0, hMd]; rfl
  refine v_iconst (v := nI 0) hC dX6_marks_0 (by decide) ?_
  refine v_istore_n hC dX6_marks_1 (by decide) ?_
  have key : ∀ p, p ≤ at0 → V X G 0 0 ok ad τ0 [(0, .ref (ad 30 0 0)), (1, iv c), (2, .ref (ad 58 0 0)), (3, iv p)] 2 [] := by
    refine down (at0) ?_ ?_
    · refine v_aload_n hC dX6_marks_2 rfl ?_
      refine gf_X6_72 hC dX6_marks_3 hQ ?_
      refine v_iload_n hC dX6_marks_6 rfl ?_
      refine al_51 hC dX6_marks_7 hQ (by omega) ?_
      rw [show τ0 51 0 0 at0 = M at0 from congrFun hM0 _]
      rw [a2]
      refine v_iload_n hC dX6_marks_8 rfl ?_
      refine v_icmp_eqN (tgt := 18) hC dX6_marks_9 (by decide) (by first | omega | exact hB1.i _ _ _ _ rfl | assumption | exact b2n_31 _ | decide) (by first | omega | exact hB1.i _ _ _ _ rfl | assumption | exact b2n_31 _ | decide) (fun c_9 => ?_) (fun c_9 => ?_)
      · refine v_aload_n hC dX6_marks_18 rfl ?_
        refine v_iload_n hC dX6_marks_19 rfl ?_
        refine v_iconst (v := nI 1) hC dX6_marks_20 (by decide) ?_
        refine as_58 hC dX6_marks_21 hk (by omega) (by decide) ?_
        rw [show up τ0 58 0 0 c 1 = upr τ 58 0 0 (fun x => if x = c then 1 else 0) by rw [hτ0, up_upr]]
        have hg1 : ∀ x, (fun x => if x = c then 1 else 0) x = b2n (decide (x ∈ gsq s M c at0 1)) := fun x => by
          rw [gsq_1 a2]
          by_cases e : x = c
          · simp [e, b2n]
          · simp [e, b2n]
        generalize (fun x => if x = c then 1 else 0) = g1 at *
        refine v_iconst (v := nI 1) hC dX6_marks_22 (by decide) ?_
        refine v_istore hC dX6_marks_23 (by decide) ?_
        refine v_iload_n hC dX6_marks_25 rfl ?_
        refine v_iconst (v := nI 1) hC dX6_marks_26 (by decide) ?_
        refine v_iaddN hC dX6_marks_27 ?_
        refine v_istore hC dX6_marks_28 (by decide) ?_
        have key3 : ∀ q, 1 ≤ q → q ≤ (mm - at0) → ∀ g, (∀ x, g x = b2n (decide (x ∈ gsq s M c at0 q))) → V X G 0 0 ok ad (upr τ 58 0 0 g) [(0, .ref (ad 30 0 0)), (1, iv c), (2, .ref (ad 58 0 0)), (3, iv at0), (4, iv (gsq s M c at0 q).length), (5, iv (at0 + q))] 30 [] := by
          refine downL ((mm - at0)) ?_ ?_
          · intro hlo g hg
            have hB1 : BD (upr τ 58 0 0 g) := BD.putr hB (fun x _ => by rw [hg]; exact b2n_lt _)
            refine v_iload hC dX6_marks_30 rfl ?_
            refine v_aload_n hC dX6_marks_32 rfl ?_
            refine gf_X6_198 hC dX6_marks_33 hQ ?_
            rw [show (upr τ 58 0 0 g) 30 0 0 4 = mm from hmm.symm]
            refine v_icmp_geN (tgt := 122) hC dX6_marks_36 (by decide) (by first | omega | exact hB1.i _ _ _ _ rfl | assumption | exact b2n_31 _ | decide) (by first | omega | exact hB1.i _ _ _ _ rfl | assumption | exact b2n_31 _ | decide) (fun c_36 => ?_) (fun c_36 => ?_)
            · refine v_iload hC dX6_marks_122 rfl ?_
              refine v_iret hC hM dX6_marks_124 (by omega) (by omega) ?_
              have hfin := gsq_gnl (s := s) (M := M) (n := mm) (Nat.le_of_lt a1) a3
              rw [← hml] at hfin
              rw [← hfin] at hg ⊢
              exact ⟨g, rfl, rfl, hg⟩
            · exact absurd c_36 (by omega)
          · intro q hlo hp ih g hg
            have hB1 : BD (upr τ 58 0 0 g) := BD.putr hB (fun x _ => by rw [hg]; exact b2n_lt _)
            have hkm : at0 + q < mm := by omega
            obtain ⟨z, hz⟩ : ∃ z, z = M (at0 + q) := ⟨_, rfl⟩
            have hzm : z ∈ lsM τ 1 := by rw [hml, hz]; exact List.mem_map.mpr ⟨_, List.mem_range.mpr hkm, rfl⟩
            have hzn := hlt z hzm
            have hz16 : z < 16 := by omega
            have hzc : z ≠ c := fun e => by
              have := rng_inj hnd2 hkm a1 (by rw [← hz, e, a2])
              omega
            have hzg : z ∉ gsq s M c at0 q := fun e => by
              obtain ⟨y, hy, e2⟩ := gsq_mem e
              have := rng_inj hnd2 (show at0 + y < mm by omega) hkm (by rw [e2, hz])
              omega
            refine v_iload hC dX6_marks_30 rfl ?_
            refine v_aload_n hC dX6_marks_32 rfl ?_
            refine gf_X6_198 hC dX6_marks_33 hQ ?_
            rw [show (upr τ 58 0 0 g) 30 0 0 4 = mm from hmm.symm]
            refine v_icmp_geN (tgt := 122) hC dX6_marks_36 (by decide) (by first | omega | exact hB1.i _ _ _ _ rfl | assumption | exact b2n_31 _ | decide) (by first | omega | exact hB1.i _ _ _ _ rfl | assumption | exact b2n_31 _ | decide) (fun c_36 => ?_) (fun c_36 => ?_)
            · exact absurd c_36 (by omega)
            · refine v_iload_n hC dX6_marks_39 rfl ?_
              refine v_istore hC dX6_marks_40 (by decide) ?_
              have nxt : ∀ g' n' x6, (∀ x, g' x = b2n (decide (x ∈ gsq s M c at0 (q + 1)))) → n' = (gsq s M c at0 (q + 1)).length → V X G 0 0 ok ad (upr τ 58 0 0 g') [(0, .ref (ad 30 0 0)), (1, iv c), (2, .ref (ad 58 0 0)), (3, iv at0), (4, iv n'), (5, iv (at0 + q)), (6, x6)] 116 [] := by
                intro g' n' x6 hg' hn'
                subst hn'
                refine v_iincN hC dX6_marks_116 rfl (by decide) ?_
                refine v_goto (tgt := 30) hC dX6_marks_119 (by decide) ?_
                exact v_sub rfl (ih g' hg')
              have key4 : ∀ j, j ≤ q → (∀ y', y' < j → M (at0 + y') ∈ gsq s M c at0 q → shr s z (M (at0 + y')) = false) → V X G 0 0 ok ad (upr τ 58 0 0 g) [(0, .ref (ad 30 0 0)), (1, iv c), (2, .ref (ad 58 0 0)), (3, iv at0), (4, iv (gsq s M c at0 q).length), (5, iv (at0 + q)), (6, iv (at0 + j))] 42 [] := by
                refine down (q) ?_ ?_
                · intro hno
                  refine v_iload hC dX6_marks_42 rfl ?_
                  refine v_iload hC dX6_marks_44 rfl ?_
                  refine v_icmp_geN (tgt := 116) hC dX6_marks_46 (by decide) (by first | omega | exact hB1.i _ _ _ _ rfl | assumption | exact b2n_31 _ | decide) (by first | omega | exact hB1.i _ _ _ _ rfl | assumption | exact b2n_31 _ | decide) (fun c_46 => ?_) (fun c_46 => ?_)
                  · have hacc : gsq s M c at0 (q + 1) = gsq s M c at0 q := by
                      rw [gsq_s, ← hz]
                      refine if_neg (fun h => h.elim hzc (fun h2 => ?_))
                      obtain ⟨x, hx, e⟩ := List.any_eq_true.mp h2
                      obtain ⟨y', hy', rfl⟩ := gsq_mem hx
                      rw [hno y' hy' hx] at e
                      cases e
                    exact v_sub rfl (nxt g _ _ (by rw [hacc]; exact hg) (by rw [hacc]))
                  · exact absurd c_46 (by omega)
                · intro j hj ih2 hno
                  obtain ⟨y, hy⟩ : ∃ y, y = M (at0 + j) := ⟨_, rfl⟩
                  have hyn : y < s 0 0 0 0 := hlt y (by rw [hml, hy]; exact List.mem_map.mpr ⟨_, List.mem_range.mpr (by omega), rfl⟩)
                  have hy16 : y < 16 := by omega
                  refine v_iload hC dX6_marks_42 rfl ?_
                  refine v_iload hC dX6_marks_44 rfl ?_
                  refine v_icmp_geN (tgt := 116) hC dX6_marks_46 (by decide) (by first | omega | exact hB1.i _ _ _ _ rfl | assumption | exact b2n_31 _ | decide) (by first | omega | exact hB1.i _ _ _ _ rfl | assumption | exact b2n_31 _ | decide) (fun c_46 => ?_) (fun c_46 => ?_)
                  · exact absurd c_46 (by omega)
                  · refine v_aload_n hC dX6_marks_49 rfl ?_
                    refine v_aload_n hC dX6_marks_50 rfl ?_
                    refine gf_X6_72 hC dX6_marks_51 hQ ?_
                    refine v_iload hC dX6_marks_54 rfl ?_
                    refine al_51 hC dX6_marks_56 hQ (by omega) ?_
                    rw [show (upr τ 58 0 0 g) 51 0 0 (at0 + q) = z from (show τ 51 0 0 (at0 + q) = z by rw [hz, hMd])]
                    refine al_58 hC dX6_marks_57 hk hz16 ?_
                    rw [show (upr τ 58 0 0 g) 58 0 0 z = 0 from (congrFun (upr_row _ _ _ _ _) z).trans (by rw [hg, decide_eq_false hzg]; rfl)]
                    refine v_if_neN (tgt := 116) hC dX6_marks_58 (by decide) (by decide) (fun c_58 => absurd c_58 (by decide)) (fun c_58 => ?_)
                    refine v_aload_n hC dX6_marks_61 rfl ?_
                    refine v_aload_n hC dX6_marks_62 rfl ?_
                    refine gf_X6_72 hC dX6_marks_63 hQ ?_
                    refine v_iload hC dX6_marks_66 rfl ?_
                    refine al_51 hC dX6_marks_68 hQ (by omega) ?_
                    rw [show (upr τ 58 0 0 g) 51 0 0 (at0 + j) = y from (show τ 51 0 0 (at0 + j) = y by rw [hy, hMd])]
                    refine al_58 hC dX6_marks_69 hk hy16 ?_
                    rw [show (upr τ 58 0 0 g) 58 0 0 y = b2n (decide (y ∈ gsq s M c at0 q)) from (congrFun (upr_row _ _ _ _ _) y).trans (hg y)]
                    refine v_if_eqN (tgt := 110) hC dX6_marks_70 (by decide) (by first | omega | exact hB1.i _ _ _ _ rfl | assumption | exact b2n_31 _ | decide) (fun c_70 => ?_) (fun c_70 => ?_)
                    · refine v_iincN hC dX6_marks_110 rfl (by decide) ?_
                      refine v_goto (tgt := 42) hC dX6_marks_113 (by decide) ?_
                      refine v_sub rfl (ih2 (fun y' hy' hm => ?_))
                      by_cases e : y' = j
                      · subst e
                        rw [← hy] at hm ⊢
                        have := b2n_0 c_70
                        rw [decide_eq_true hm] at this
                        cases this
                      · exact hno y' (by omega) hm
                    · refine v_aload_n hC dX6_marks_73 rfl ?_
                      refine v_aload_n hC dX6_marks_74 rfl ?_
                      refine gf_X6_72 hC dX6_marks_75 hQ ?_
                      refine v_iload hC dX6_marks_78 rfl ?_
                      refine al_51 hC dX6_marks_80 hQ (by omega) ?_
                      rw [show (upr τ 58 0 0 g) 51 0 0 (at0 + q) = z from (show τ 51 0 0 (at0 + q) = z by rw [hz, hMd])]
                      refine v_aload_n hC dX6_marks_81 rfl ?_
                      refine gf_X6_72 hC dX6_marks_82 hQ ?_
                      refine v_iload hC dX6_marks_85 rfl ?_
                      refine al_51 hC dX6_marks_87 hQ (by omega) ?_
                      rw [show (upr τ 58 0 0 g) 51 0 0 (at0 + j) = y from (show τ 51 0 0 (at0 + j) = y by rw [hy, hMd])]
                      refine v_callV_r0 hC lk_X6_201 dX6_marks_88 (c_X6_shares (σ := (upr τ 58 0 0 g)) hl0 hQ hB1 hz16 hy16) (by decide) (by decide) hQ.k30 rfl rfl rfl rfl (Nat.le_of_ble_eq_true rfl) (by omega) (by omega) ?_
                      rw [show msh (upr τ 58 0 0 g) z y = shr s z y from (show msh τ z y = _ from hS.Msh hBs hzn hyn)]
                      refine v_if_neN (tgt := 97) hC dX6_marks_91 (by decide) (by first | omega | exact hB1.i _ _ _ _ rfl | assumption | exact b2n_31 _ | decide) (fun c_91 => ?_) (fun c_91 => ?_)
                      · have hin := of_decide_eq_true (b2n_1 c_70)
                        have hacc : gsq s M c at0 (q + 1) = gsq s M c at0 q ++ [z] := by
                          rw [gsq_s, ← hz]
                          exact if_pos (.inr (List.any_eq_true.mpr ⟨y, hin, b2n_1 c_91⟩))
                        have hg2 : ∀ x, (fun x => if x = z then 1 else g x) x = b2n (decide (x ∈ gsq s M c at0 (q + 1))) := fun x => by
                          show (if x = z then 1 else g x) = _
                          rw [hacc]
                          by_cases e : x = z
                          · simp [e, b2n]
                          · rw [if_neg e, hg]
                            simp [e]
                        have hn2 : (gsq s M c at0 q).length + 1 = (gsq s M c at0 (q + 1)).length := by rw [hacc]; simp
                        have hB2 : BD (upr τ 58 0 0 (fun x => if x = z then 1 else g x)) := BD.putr hB (fun x _ => lteq (hg2 x) (b2n_lt _))
                        refine v_aload_n hC dX6_marks_97 rfl ?_
                        refine v_aload_n hC dX6_marks_98 rfl ?_
                        refine gf_X6_72 hC dX6_marks_99 hQ ?_
                        refine v_iload hC dX6_marks_102 rfl ?_
                        refine al_51 hC dX6_marks_104 hQ (by omega) ?_
                        rw [show (upr τ 58 0 0 g) 51 0 0 (at0 + q) = z from (show τ 51 0 0 (at0 + q) = z by rw [hz, hMd])]
                        refine v_iconst (v := nI 1) hC dX6_marks_105 (by decide) ?_
                        refine as_58 hC dX6_marks_106 hk hz16 (by decide) ?_
                        rw [up_upr]
                        refine v_iincN hC dX6_marks_107 rfl (by decide) ?_
                        refine v_iincN hC dX6_marks_110 rfl (by decide) ?_
                        refine v_goto (tgt := 42) hC dX6_marks_113 (by decide) ?_
                        refine v_iload hC dX6_marks_42 rfl ?_
                        refine v_iload hC dX6_marks_44 rfl ?_
                        refine v_icmp_geN (tgt := 116) hC dX6_marks_46 (by decide) (by first | omega | exact hB2.i _ _ _ _ rfl | assumption | exact b2n_31 _ | decide) (by first | omega | exact hB2.i _ _ _ _ rfl | assumption | exact b2n_31 _ | decide) (fun c_46 => ?_) (fun c_46 => ?_)
                        · exact v_sub rfl (nxt _ _ _ hg2 hn2)
                        · refine v_aload_n hC dX6_marks_49 rfl ?_
                          refine v_aload_n hC dX6_marks_50 rfl ?_
                          refine gf_X6_72 hC dX6_marks_51 hQ ?_
                          refine v_iload hC dX6_marks_54 rfl ?_
                          refine al_51 hC dX6_marks_56 hQ (by omega) ?_
                          rw [show upr τ 58 0 0 (fun x => if x = z then 1 else g x) 51 0 0 (at0 + q) = z from (show τ 51 0 0 (at0 + q) = z by rw [hz, hMd])]
                          refine al_58 hC dX6_marks_57 hk hz16 ?_
                          rw [show upr τ 58 0 0 (fun x => if x = z then 1 else g x) 58 0 0 z = 1 from (congrFun (upr_row _ _ _ _ _) z).trans (if_pos rfl)]
                          refine v_if_neN (tgt := 116) hC dX6_marks_58 (by decide) (by decide) (fun c_58 => ?_) (fun c_58 => absurd c_58 (by decide))
                          exact v_sub rfl (nxt _ _ _ hg2 hn2)
                      · refine v_goto (tgt := 110) hC dX6_marks_94 (by decide) ?_
                        refine v_iincN hC dX6_marks_110 rfl (by decide) ?_
                        refine v_goto (tgt := 42) hC dX6_marks_113 (by decide) ?_
                        refine v_sub rfl (ih2 (fun y' hy' hm => ?_))
                        by_cases e : y' = j
                        · subst e
                          rw [← hy] at hm ⊢
                          exact b2n_0 c_91
                        · exact hno y' (by omega) hm
              exact v_sub rfl (key4 0 (Nat.zero_le _) (fun y h => absurd h (by omega)))
        have e1 : (gsq s M c at0 1).length = 1 := by rw [gsq_1 a2]; rfl
        have k00 := key3 1 (Nat.le_refl _) (by omega) g1 hg1
        rw [e1] at k00
        exact v_sub rfl k00
      · exact absurd rfl c_9
    · intro p hp ih 
      have hMp : M p < 2 ^ 31 := by rw [← hM0]; exact hB1.i 51 0 0 p rfl
      refine v_aload_n hC dX6_marks_2 rfl ?_
      refine gf_X6_72 hC dX6_marks_3 hQ ?_
      refine v_iload_n hC dX6_marks_6 rfl ?_
      refine al_51 hC dX6_marks_7 hQ (by omega) ?_
      rw [show τ0 51 0 0 p = M p from congrFun hM0 _]
      refine v_iload_n hC dX6_marks_8 rfl ?_
      refine v_icmp_eqN (tgt := 18) hC dX6_marks_9 (by decide) (by first | omega | exact hB1.i _ _ _ _ rfl | assumption | exact b2n_31 _ | decide) (by first | omega | exact hB1.i _ _ _ _ rfl | assumption | exact b2n_31 _ | decide) (fun c_9 => ?_) (fun c_9 => ?_)
      · exact absurd c_9 (a3 p hp)
      · refine v_iincN hC dX6_marks_12 rfl (by decide) ?_
        refine v_goto (tgt := 2) hC dX6_marks_15 (by decide) ?_
        exact v_sub rfl ih
  exact v_sub rfl (key 0 (Nat.zero_le _))
