/-! ===== the model's constructor ===== -/
theorem cw_X6_46 : Cond.classLink "BranchyardModel" 46 ("[" ++ (FieldType.array .int).toString) ∈ lw_good := gd_at 927 (by decide +kernel) (by decide +kernel)
theorem cw_X6_51 : Cond.classLink "BranchyardModel" 51 ("[" ++ (FieldType.array .boolean).toString) ∈ lw_good := gd_at 928 (by decide +kernel) (by decide +kernel)
theorem cw_X6_56 : Cond.classLink "BranchyardModel" 56 ("[" ++ (FieldType.array .char).toString) ∈ lw_good := gd_at 930 (by decide +kernel) (by decide +kernel)
theorem cw_X6_61 : Cond.classLink "BranchyardModel" 61 ("[" ++ (FieldType.array (.array .int)).toString) ∈ lw_good := gd_at 932 (by decide +kernel) (by decide +kernel)
theorem ao_ZZ : FieldType.array .boolean ∈ aos := by decide +kernel
theorem ao_CC : FieldType.array .char ∈ aos := by decide +kernel
theorem ao_III : FieldType.array (.array .int) ∈ aos := by decide +kernel

def hk82 (k i : Nat) : Nat := if k = 82 then i / 100 else 0
/-- the model under construction: L the fields set (slot, key), D the arrays of arrays made, Ks the kinds made -/
def H3 (b : Bool) (ad : AD) (σ : SG) (ok : KF) : Prop := b = true → σ 82 4600 0 9000 = 16 ∧ σ 82 4600 0 9001 = 11 ∧ (∀ x, x < 16 → ok 82 (4700 + x) 0 ∧ σ 82 4600 0 x = ad 82 (4700 + x) 0 + 1) ∧ ∀ x, x < 16 → σ 82 (4700 + x) 0 9000 = 6 ∧ σ 82 (4700 + x) 0 9001 = 8 ∧ ∀ y, y < 6 → ok 48 x y ∧ σ 82 (4700 + x) 0 y = ad 48 x y + 1
def M6 (L D : List (Nat × Nat × Nat × Nat)) (Ks : List (Nat × Nat)) (b : Bool) (A : Nat) (adc : AD) (ok : KF) (ad : AD) (σ : SG) : Prop :=
  ((∀ q ∈ L, ok q.2.1 q.2.2.1 q.2.2.2 ∧ σ 96 0 0 q.1 = ad q.2.1 q.2.2.1 q.2.2.2 + 1) ∧ (∀ x, (∀ q ∈ L, q.1 ≠ x) → σ 96 0 0 x = 0)) ∧
  (∀ q ∈ D, σ 82 q.1 0 9000 = 16 ∧ σ 82 q.1 0 9001 = q.2.1 ∧ ∀ x, x < 16 → ok q.2.2.1 x 0 ∧ σ 82 q.1 0 x = ad q.2.2.1 x 0 + 1) ∧ H3 b ad σ ok ∧
  ((∀ k i j, k < 80 → σ k i j = Z1 k i j) ∧ (∀ k i j, KC k i j → ok k i j ∧ ad k i j = adc k i j) ∧ ok 96 0 0 ∧ ad 96 0 0 = A) ∧ ∀ k i j, ok k i j → KC k i j ∨ (lf k = true ∧ (k, hk82 k i) ∈ Ks)
section M6S
variable {L D : List (Nat × Nat × Nat × Nat)} {Ks : List (Nat × Nat)} {b : Bool} {A : Nat} {adc : AD} {ok ok1 : KF} {ad ad1 : AD} {σ σ1 : SG}
theorem M6.ino (h : M6 L D Ks b A adc ok ad σ) {k0 : Nat} (hk : 23 ≤ k0) : INo ok k0 := fun k i j q => by
  rcases h.2.2.2.2 k i j q with c | c
  · exact .inr ⟨by have := okc_lt c; omega, hk⟩
  · exact .inl c.1
theorem M6.fresh (h : M6 L D Ks b A adc ok ad σ) {k0 i0 j0 : Nat} (hk : 23 ≤ k0) (hn : (k0, hk82 k0 i0) ∉ Ks) : ¬ ok k0 i0 j0 := fun q => by
  rcases h.2.2.2.2 k0 i0 j0 q with c | c
  · have := okc_lt c; omega
  · exact hn c.2
/-- new keys S (kinds in ks), fields and rows told, nothing else changed but the slot x of the model -/
theorem M6.step (h : M6 L D Ks b A adc ok ad σ) {ks : List (Nat × Nat)} {x v : Nat} {key : Nat × Nat × Nat} {D' : List (Nat × Nat × Nat × Nat)} {b' : Bool} (hok : ∀ k i j, ok k i j → ok1 k i j) (hnew : ∀ k i j, ok1 k i j → ok k i j ∨ (lf k = true ∧ (k, hk82 k i) ∈ ks)) (hka : ∀ k i j, ok k i j → ad1 k i j = ad k i j)
    (hs96 : σ1 96 0 0 = σ 96 0 0) (hs80 : ∀ k i j, k < 80 → σ1 k i j = σ k i j) (hsD : ∀ q ∈ D, σ1 82 q.1 0 = σ 82 q.1 0) (hs3 : b = true → σ1 82 4600 0 = σ 82 4600 0 ∧ ∀ z, z < 16 → σ1 82 (4700 + z) 0 = σ 82 (4700 + z) 0)
    (hx : ∀ q ∈ L, q.1 ≠ x) (hv : v = ad1 key.1 key.2.1 key.2.2 + 1) (hkey : ok1 key.1 key.2.1 key.2.2)
    (hD' : ∀ q ∈ D', σ1 82 q.1 0 9000 = 16 ∧ σ1 82 q.1 0 9001 = q.2.1 ∧ ∀ x, x < 16 → ok1 q.2.2.1 x 0 ∧ σ1 82 q.1 0 x = ad1 q.2.2.1 x 0 + 1) (hb' : b' = true → b = true ∨ H3 true ad1 σ1 ok1) : M6 ((x, key) :: L) (D' ++ D) (ks ++ Ks) b' A adc ok1 ad1 (up σ1 96 0 0 x v) := by
  obtain ⟨⟨h1, h2⟩, h3, h4, ⟨h5, h6, h7, h8⟩, h9⟩ := h
  have s82 : ∀ i, up σ1 96 0 0 x v 82 i 0 = σ1 82 i 0 := fun i => up_off _ _ _ (fun e => absurd e.1 (by decide))
  refine ⟨⟨fun q hq => ?_, fun y hy => ?_⟩, fun q hq => ?_, fun hb => ?_, ⟨fun k i j hk => ?_, fun k i j hk => ⟨hok _ _ _ (h6 k i j hk).1, ?_⟩, hok _ _ _ h7, (hka _ _ _ h7).trans h8⟩, fun k i j q => ?_⟩
  · rcases List.mem_cons.mp hq with rfl | hq
    · refine ⟨hkey, ?_⟩
      show (if _ then _ else _) = _
      rw [if_pos ⟨rfl, rfl, rfl, rfl⟩]
      exact hv
    · obtain ⟨g1, g2⟩ := h1 q hq
      refine ⟨hok _ _ _ g1, ?_⟩
      show (if _ then _ else _) = _
      rw [if_neg (fun e => hx q hq e.2.2.2), hs96, g2, hka _ _ _ g1]
  · show (if _ then _ else _) = _
    rw [if_neg (fun e => hy _ List.mem_cons_self e.2.2.2.symm), hs96]
    exact h2 y (fun q hq => hy q (List.mem_cons_of_mem _ hq))
  · rw [s82]
    rcases List.mem_append.mp hq with hq | hq
    · exact hD' q hq
    · obtain ⟨g1, g2, g3⟩ := h3 q hq
      rw [hsD q hq]
      exact ⟨g1, g2, fun x hx => ⟨hok _ _ _ (g3 x hx).1, by rw [hka _ _ _ (g3 x hx).1]; exact (g3 x hx).2⟩⟩
  · have key3 : H3 true ad1 σ1 ok1 := by
      rcases hb' hb with hb | hb
      · obtain ⟨g1, g2, g3, g4⟩ := h4 hb
        obtain ⟨e1, e2⟩ := hs3 hb
        intro _
        rw [e1]
        refine ⟨g1, g2, fun x hx => ⟨hok _ _ _ (g3 x hx).1, by rw [hka _ _ _ (g3 x hx).1]; exact (g3 x hx).2⟩, fun x hx => ?_⟩
        rw [e2 x hx]
        obtain ⟨u1, u2, u3⟩ := g4 x hx
        exact ⟨u1, u2, fun y hy => ⟨hok _ _ _ (u3 y hy).1, by rw [hka _ _ _ (u3 y hy).1]; exact (u3 y hy).2⟩⟩
      · exact hb
    have k3 := key3 rfl
    rw [s82]
    refine ⟨k3.1, k3.2.1, k3.2.2.1, fun x hx => ?_⟩
    rw [s82]
    exact k3.2.2.2 x hx
  · rw [up_k80 (by decide) k i j hk, hs80 k i j hk]
    exact h5 k i j hk
  · rw [hka _ _ _ (h6 k i j hk).1]
    exact (h6 k i j hk).2
  · rcases hnew k i j q with q | ⟨q1, q2⟩
    · rcases h9 k i j q with c | c
      · exact .inl c
      · exact .inr ⟨c.1, List.mem_append_right _ c.2⟩
    · exact .inr ⟨q1, List.mem_append_left _ q2⟩
end M6S
section ST6
variable {X : XT} {G : GT} {cc : ByteArray} {nL n mc ms : Nat} {kc ks : Nat} {l : List (Nat × Value)} {pc : Nat}
variable {L D : List (Nat × Nat × Nat × Nat)} {Ks : List (Nat × Nat)} {b : Bool} {A : Nat} {adc : AD} {ok : KF} {ad : AD} {σ : SG}
/-- a new array of numbers, put into the field x -/
theorem st6_arr {atype : ArrayType} {ty : FieldType} {N pc2 : Nat} {a0 : vp_A} (t0 k0 x : Nat) (hC : Cx X G "BranchyardModel" cc nL n mc ms) (hM6 : M6 L D Ks b A adc ok ad σ) (d : decode cc pc = .ok (.newarray atype, 2)) (hty : newarray.typeOf atype = ty) (hw : Cond.arrayClass ty ∈ lw_good) (ht : (TYS G.2.2.1)[t0]? = some (G.2.2.1 t0, ty)) (hra : va_RA (xs X) (G.2.2.1 t0) ty = ((xs X).vm.findClass ("[" ++ ty.toString) = some (G.2.2.1 t0))) (hN : N < 2 ^ 31) (hb : N * componentBytes ty ≤ 536870912)
    (h1 : kc + 1 ≤ mc) (h2 : ks + N ≤ ms) (hk : 23 ≤ k0 ∧ k0 < 80) (hl : lf k0 = true) (hn : (k0, hk82 k0 0) ∉ Ks) (hx : ∀ q ∈ L, q.1 ≠ x) (he : enck G.2.2.1 ad k0 0 0 (Z1 k0 0 0) = .inl (G.2.2.1 t0, a0)) (hz : vp_cell (G.2.2.1 t0) a0 = arrV (G.2.2.1 t0) N (fun _ => defaultValue ty))
    (pr : ∀ {ok : KF} {ad : AD} {σ : SG} {v : Nat}, ok 96 0 0 → V X G (kc + 1) (ks + N) ok ad (up σ 96 0 0 x v) l pc2 [] → V X G (kc + 1) (ks + N) ok ad σ l (pc + 2) [va_rf (rf v), .ref (ad 96 0 0)])
    (kk : ∀ ok ad σ, M6 ((x, k0, 0, 0) :: L) D ((k0, hk82 k0 0) :: Ks) b A adc ok ad σ → V X G (kc + 1) (ks + N) ok ad σ l pc2 []) : V X G kc ks ok ad σ l pc [iv N, .ref A] := by
  have hf : ¬ ok k0 0 0 := hM6.fresh hk.1 hn
  refine n_a (a0 := a0) t0 k0 0 0 hC d hty hw ht hra hN hb h1 h2 hf (hM6.ino hk.1) hl (by rw [hM6.2.2.2.1.1 k0 0 0 hk.2]; exact he) hz (fun a => ?_)
  have e96 : adA ad k0 0 0 a 96 0 0 = A := (adA_off _ _ (fun e => by omega)).trans hM6.2.2.2.1.2.2.2
  refine v_stk (st' := [va_rf (rf (a + 1)), .ref (adA ad k0 0 0 a 96 0 0)]) (by rw [e96]; rfl) ?_
  refine pr (.inl hM6.2.2.2.1.2.2.1) (kk _ _ _ ?_)
  exact hM6.step (ks := [(k0, hk82 k0 0)]) (D' := []) (fun k i j q => .inl q) (fun k i j q => by
      rcases q with q | ⟨rfl, rfl, rfl⟩
      · exact .inl q
      · exact .inr ⟨hl, List.mem_singleton.mpr rfl⟩) (fun k i j q => adA_off _ _ (fun e => hf (by obtain ⟨rfl, rfl, rfl⟩ := e; exact q))) rfl (fun _ _ _ _ => rfl) (fun _ _ => rfl) (fun _ => ⟨rfl, fun _ _ => rfl⟩) hx (by show a + 1 = adA ad k0 0 0 a k0 0 0 + 1; rw [adA_self]) (.inr ⟨rfl, rfl, rfl⟩) (fun q hq => by cases hq) (fun h => .inl h)
/-- a new array of 16 arrays, put into the field x -/
theorem st6_m2 {ty : FieldType} {M ix pc2 ki : Nat} {ai : vp_A} (to ti o x : Nat) (hC : Cx X G "BranchyardModel" cc nL n mc ms) (hM6 : M6 L D Ks b A adc ok ad σ) (d : decode cc pc = .ok (.multianewarray ix 2, 4)) (hcl : Cond.classLink "BranchyardModel" ix ("[" ++ (FieldType.array ty).toString) ∈ lw_good) (hov : FieldType.array ty ∈ aos) (har : Cond.arrayClass ty ∈ lw_good)
    (ht : (TYS G.2.2.1)[to]? = some (G.2.2.1 to, .array ty)) (ht2 : (TYS G.2.2.1)[ti]? = some (G.2.2.1 ti, ty)) (hra : va_RA (xs X) (G.2.2.1 ti) ty = ((xs X).vm.findClass ("[" ++ ty.toString) = some (G.2.2.1 ti)))
    (hM : M < 1000) (hcb : componentBytes ty ≤ 8) (hdf : fits ty (defaultValue ty) = true) (hdd : (defaultValue ty).isDefault = true) (h1 : kc + (1 + 16) ≤ mc) (h2 : ks + (16 + 16 * M) ≤ ms)
    (hk : 23 ≤ ki ∧ ki < 80) (hlk : lf ki = true) (hno : (82, o / 100) ∉ Ks) (hnk : (ki, 0) ∉ Ks) (hnD : ∀ q ∈ D, q.1 ≠ o) (hb : b = false) (ho : o < 4600) (hx : ∀ q ∈ L, q.1 ≠ x)
    (he : ∀ y, y < 16 → enck G.2.2.1 ad ki y 0 (Z1 ki y 0) = .inl (G.2.2.1 ti, ai)) (hz : vp_cell (G.2.2.1 ti) ai = arrV (G.2.2.1 ti) M (fun _ => defaultValue ty))
    (pr : ∀ {ok : KF} {ad : AD} {σ : SG} {v : Nat}, ok 96 0 0 → V X G (kc + (1 + 16)) (ks + (16 + 16 * M)) ok ad (up σ 96 0 0 x v) l pc2 [] → V X G (kc + (1 + 16)) (ks + (16 + 16 * M)) ok ad σ l (pc + 4) [va_rf (rf v), .ref (ad 96 0 0)])
    (kk : ∀ ok ad σ, M6 ((x, 82, o, 0) :: L) ((o, to, ki, 0) :: D) ((82, o / 100) :: (ki, 0) :: Ks) b A adc ok ad σ → V X G (kc + (1 + 16)) (ks + (16 + 16 * M)) ok ad σ l pc2 []) : V X G kc ks ok ad σ l pc [iv M, iv 16, .ref A] := by
  have h82 : hk82 82 o = o / 100 := if_pos rfl
  have hkk : ∀ y, hk82 ki y = 0 := fun y => if_neg (by omega)
  have hf : ¬ ok 82 o 0 := hM6.fresh (by decide) (by rw [h82]; exact hno)
  have hf2 : ∀ y, ¬ ok ki y 0 := fun y => hM6.fresh hk.1 (by rw [hkk]; exact hnk)
  refine v_mna2 (N := 16) (M := M) (ki := ki) (a := fun y => y) (b := fun _ => 0) (inv := fun i _ => i) (ai := ai) to ti o hC d hcl hov har ht ht2 hra (by decide) hM hcb hdf hdd h1 h2 (by omega) hlk (hM6.ino hk.1) hf (fun y _ => hf2 y) (fun _ _ => rfl) (fun y hy => by rw [hM6.2.2.2.1.1 ki y 0 hk.2]; exact he y hy) hz (fun ok1 ad1 σ1 k1 k2 k3 k4 k5 k6 => ?_)
  have o96 := hM6.2.2.2.1.2.2.1
  have e96 : ad1 96 0 0 = A := (k2 _ _ _ o96).trans hM6.2.2.2.1.2.2.2
  refine v_stk (st' := [va_rf (rf (ad1 82 o 0 + 1)), .ref (ad1 96 0 0)]) (by rw [e96]; rfl) ?_
  refine pr ((k1 _ _ _).mpr (.inl o96)) (kk _ _ _ ?_)
  exact hM6.step (ks := [(82, o / 100), (ki, 0)]) (D' := [(o, to, ki, 0)]) (key := (82, o, 0)) (fun k i j q => (k1 _ _ _).mpr (.inl q)) (fun k i j q => by
      rcases (k1 _ _ _).mp q with q | ⟨rfl, rfl, rfl⟩ | ⟨y, hy, rfl, rfl, rfl⟩
      · exact .inl q
      · exact .inr ⟨rfl, by rw [h82]; exact List.mem_cons_self⟩
      · exact .inr ⟨hlk, by rw [hkk]; exact List.mem_cons_of_mem _ List.mem_cons_self⟩) k2 (k3 _ _ _ (fun e => absurd e.1 (by decide))) (fun k i j h => k3 k i j (fun e => by omega)) (fun q hq => k3 _ _ _ (fun e => hnD q hq e.2.1)) (fun h => by rw [hb] at h; cases h) hx rfl ((k1 _ _ _).mpr (.inr (.inl ⟨rfl, rfl, rfl⟩)))
      (fun q hq => by
        rw [List.mem_singleton.mp hq]
        exact ⟨k4, k5, fun y hy => ⟨(k1 _ _ _).mpr (.inr (.inr ⟨y, hy, rfl, rfl, rfl⟩)), k6 y hy⟩⟩) (fun h => .inl h)
/-- int[16][6][64], put into the field 14 -/
theorem st6_m3 {ix pc2 : Nat} (hC : Cx X G "BranchyardModel" cc nL n mc ms) (hM6 : M6 L D Ks false A adc ok ad σ) (d : decode cc pc = .ok (.multianewarray ix 3, 4)) (hcl : Cond.classLink "BranchyardModel" ix ("[" ++ (FieldType.array (.array .int)).toString) ∈ lw_good)
    (h1 : kc + 113 ≤ mc) (h2 : ks + 6256 ≤ ms) (hno : (82, 46) ∉ Ks) (hno2 : (82, 47) ∉ Ks) (hnk : (48, 0) ∉ Ks) (hnD : ∀ q ∈ D, q.1 < 4600) (hx : ∀ q ∈ L, q.1 ≠ 14)
    (pr : ∀ {ok : KF} {ad : AD} {σ : SG} {v : Nat}, ok 96 0 0 → V X G (kc + 113) (ks + 6256) ok ad (up σ 96 0 0 14 v) l pc2 [] → V X G (kc + 113) (ks + 6256) ok ad σ l (pc + 4) [va_rf (rf v), .ref (ad 96 0 0)])
    (kk : ∀ ok ad σ, M6 ((14, 82, 4600, 0) :: L) D ((82, 46) :: (82, 47) :: (48, 0) :: Ks) true A adc ok ad σ → V X G (kc + 113) (ks + 6256) ok ad σ l pc2 []) : V X G kc ks ok ad σ l pc [iv 64, iv 6, iv 16, .ref A] := by
  have h47 : ∀ x, x < 16 → hk82 82 (4700 + x) = 47 := fun x hx => (if_pos rfl).trans (by omega)
  have hf : ¬ ok 82 4600 0 := hM6.fresh (by decide) hno
  have hf2 : ∀ x, x < 16 → ¬ ok 82 (4700 + x) 0 := fun x hx => hM6.fresh (by decide) (by rw [h47 x hx]; exact hno2)
  have hf3 : ∀ x y, ¬ ok 48 x y := fun x y => hM6.fresh (by decide) hnk
  refine v_mna3 hC d hcl ao_III ao_II ar_I h1 h2 (hM6.ino (by decide)) hf hf2 (fun x y _ _ => hf3 x y) (fun x y _ _ => (hM6.2.2.2.1.1 48 x y (by decide)).trans rfl) (fun ok1 ad1 σ1 k1 k2 k3 k4 k5 k6 k7 => ?_)
  have o96 := hM6.2.2.2.1.2.2.1
  have e96 : ad1 96 0 0 = A := (k2 _ _ _ o96).trans hM6.2.2.2.1.2.2.2
  refine v_stk (st' := [va_rf (rf (ad1 82 4600 0 + 1)), .ref (ad1 96 0 0)]) (by rw [e96]; rfl) ?_
  refine pr ((k1 _ _ _).mpr (.inl o96)) (kk _ _ _ ?_)
  exact hM6.step (ks := [(82, 46), (82, 47), (48, 0)]) (D' := []) (key := (82, 4600, 0)) (fun k i j q => (k1 _ _ _).mpr (.inl q)) (fun k i j q => by
      rcases (k1 _ _ _).mp q with q | ⟨rfl, rfl, rfl⟩ | ⟨y, hy, rfl, rfl, rfl⟩ | ⟨rfl, -, -⟩
      · exact .inl q
      · exact .inr ⟨rfl, by decide⟩
      · exact .inr ⟨rfl, by rw [h47 y hy]; decide⟩
      · exact .inr ⟨rfl, by show (48, 0) ∈ _; decide⟩) k2 (k3 _ _ _ (fun e => absurd e.1 (by decide))) (fun k i j h => k3 k i j (fun e => by omega)) (fun q hq => k3 _ _ _ (fun e => by have := hnD q hq; omega)) (fun h => by cases h) hx rfl ((k1 _ _ _).mpr (.inr (.inl ⟨rfl, rfl, rfl⟩)))
      (fun q hq => by cases hq) (fun _ => .inr (fun _ => ⟨k4, k5, fun x hx => ⟨(k1 _ _ _).mpr (.inr (.inr (.inl ⟨x, hx, rfl, rfl, rfl⟩))), k6 x hx⟩, fun x hx => ⟨(k7 x hx).1, (k7 x hx).2.1, fun y hy => ⟨(k1 _ _ _).mpr (.inr (.inr (.inr ⟨rfl, hx, hy⟩))), (k7 x hx).2.2 y hy⟩⟩⟩))
end ST6

set_option maxHeartbeats 4000000 in
set_option maxRecDepth 100000 in
theorem c_Jxa1e45_init_da8c8 {l : Launch} (hl0 : l.stackTraces = false) {G : GT} {ok : KF} {ad : AD} {σ : SG} (h97 : ok 97 0 0) : Ct l G 0 yJxa1e45_init_da8c8 cJxa1e45_init_da8c8 1 (none) [.ref (ad 97 0 0)] ok ad σ (Rt none ok ad σ) NX 0 0 := by
  refine Ct.mk (by decide +kernel) hl0 (Nat.le_of_ble_eq_true rfl) (fun X hX hC hM => ?_)
  subst hX
  refine v_aload_n hC dJxa1e45_init_da8c8_0 rfl ?_
  refine v_objInit hC dJxa1e45_init_da8c8_1 oi_Jxa1e45 (Nat.le_of_ble_eq_true rfl) ?_
  exact v_vret hC hM dJxa1e45_init_da8c8_4 (by omega) (by omega) ⟨rfl, rfl⟩

set_option maxHeartbeats 4000000 in
set_option maxRecDepth 100000 in
theorem c_Jxc12de_init_da8c8 {l : Launch} (hl0 : l.stackTraces = false) {G : GT} {ok : KF} {ad : AD} {σ : SG} (h97 : ok 97 0 0) : Ct l G 1 yJxc12de_init_da8c8 cJxc12de_init_da8c8 1 (none) [.ref (ad 97 0 0)] ok ad σ (Rt none ok ad (up σ 97 0 0 0 0)) NX 0 0 := by
  refine Ct.mk (by decide +kernel) hl0 (Nat.le_of_ble_eq_true rfl) (fun X hX hC hM => ?_)
  subst hX
  refine v_aload_n hC dJxc12de_init_da8c8_0 rfl ?_
  refine v_callI_v0 hC lk_Jxc12de_1 dJxc12de_init_da8c8_1 (c_Jxa1e45_init_da8c8 hl0 h97) (by decide) (by decide) rfl rfl (Nat.le_of_ble_eq_true rfl) (by omega) (by omega) ?_
  refine v_aload_n hC dJxc12de_init_da8c8_4 rfl ?_
  refine v_iconst (v := nI 0) hC dJxc12de_init_da8c8_5 (by decide) ?_
  refine pr_Jxc12de_7 (v := 0) (i := 0) (j := 0) hC dJxc12de_init_da8c8_6 h97 ?_
  exact v_vret hC hM dJxc12de_init_da8c8_9 (by omega) (by omega) ⟨rfl, rfl⟩

set_option maxHeartbeats 4000000 in
set_option maxRecDepth 100000 in
theorem c_Jx4a65c_init_da8c8 {l : Launch} (hl0 : l.stackTraces = false) {G : GT} {ok : KF} {ad : AD} {σ : SG} (h97 : ok 97 0 0) : Ct l G 2 yJx4a65c_init_da8c8 cJx4a65c_init_da8c8 1 (none) [.ref (ad 97 0 0)] ok ad σ (Rt none ok ad (up (up σ 97 0 0 0 0) 97 0 0 1 (G.2.2.2 0 + 1))) NX 0 0 := by
  refine Ct.mk (by decide +kernel) hl0 (Nat.le_of_ble_eq_true rfl) (fun X hX hC hM => ?_)
  subst hX
  refine v_aload_n hC dJx4a65c_init_da8c8_0 rfl ?_
  refine v_callI_v0 hC lk_Jx4a65c_1 dJx4a65c_init_da8c8_1 (c_Jxc12de_init_da8c8 hl0 h97) (by decide) (by decide) rfl rfl (Nat.le_of_ble_eq_true rfl) (by omega) (by omega) ?_
  refine v_aload_n hC dJx4a65c_init_da8c8_4 rfl ?_
  refine v_gets39 hC dJx4a65c_init_da8c8_5 ?_
  refine pr_Jx4a65c_9 (v := G.2.2.2 0 + 1) (i := 0) (j := 0) hC dJx4a65c_init_da8c8_8 h97 ?_
  exact v_vret hC hM dJx4a65c_init_da8c8_11 (by omega) (by omega) ⟨rfl, rfl⟩

def KM6 : KF := fun k i j => KC k i j ∨ okm k i j = true
def K6 : KF := fun k i j => KC k i j ∨ (k = 96 ∧ i = 0 ∧ j = 0)
def Z2 (c : Nat) : SG := fun k i j x => if k = 37 ∧ i = 0 ∧ j = 0 ∧ x < 4 then 1 else if k = 54 ∧ x = 1 then c + 1 else Z1 k i j x
def fM : Nat → Nat → Nat → Nat × Nat × Nat
  | 30, i, j => (96, i, j)
  | 40, _, _ => (82, 4000, 0)
  | 42, _, _ => (82, 4200, 0)
  | 44, _, _ => (82, 4400, 0)
  | 46, _, _ => (82, 4600, 0)
  | 47, i, _ => (82, 4700 + i, 0)
  | 54, i, j => (97, i, j)
  | k, i, j => (k, i, j)
def gJ (q : Nat × Nat × Nat) : Nat × Nat × Nat := if q.1 = 96 then (30, q.2.1, q.2.2) else if q.1 = 97 then (54, q.2.1, q.2.2) else if q.1 = 82 then (if q.2.1 = 4000 then (40, 0, 0) else if q.2.1 = 4200 then (42, 0, 0) else if q.2.1 = 4400 then (44, 0, 0) else if q.2.1 = 4600 then (46, 0, 0) else (47, q.2.1 - 4700, 0)) else q
theorem okm_rg {k i j : Nat} (h : okm k i j = true) : 30 ≤ k ∧ k < 55 := by
  by_cases c : 30 ≤ k ∧ k < 55
  · exact c
  · exfalso
    have : okm k i j = false := by
      unfold okm
      split <;> first | omega | rfl
    rw [this] at h
    cases h

theorem fM_c {k i j : Nat} (h : k < 21) : fM k i j = (k, i, j) := by
  rcases (show k = 0 ∨ k = 1 ∨ k = 2 ∨ k = 3 ∨ k = 4 ∨ k = 5 ∨ k = 6 ∨ k = 7 ∨ k = 8 ∨ k = 9 ∨ k = 10 ∨ k = 11 ∨ k = 12 ∨ k = 13 ∨ k = 14 ∨ k = 15 ∨ k = 16 ∨ k = 17 ∨ k = 18 ∨ k = 19 ∨ k = 20 by omega) with rfl | rfl | rfl | rfl | rfl | rfl | rfl | rfl | rfl | rfl | rfl | rfl | rfl | rfl | rfl | rfl | rfl | rfl | rfl | rfl | rfl <;> rfl
theorem gJ82 (o : Nat) (h1 : 4700 ≤ o) : gJ (82, o, 0) = (47, o - 4700, 0) := by
  unfold gJ
  have a1 : o ≠ 4000 := by omega
  have a2 : o ≠ 4200 := by omega
  have a3 : o ≠ 4400 := by omega
  have a4 : o ≠ 4600 := by omega
  simp [a1, a2, a3, a4]
theorem gJ_fM {k i j : Nat} (h : KM6 k i j) : gJ (fM k i j) = (k, i, j) := by
  rcases h with h | h
  · have hk := okc_lt h
    rw [fM_c hk]
    unfold gJ
    rw [if_neg (by show ¬ k = 96; omega), if_neg (by show ¬ k = 97; omega), if_neg (by show ¬ k = 82; omega)]
  have hk := okm_rg h
  rcases (show k = 30 ∨ k = 31 ∨ k = 32 ∨ k = 33 ∨ k = 34 ∨ k = 35 ∨ k = 36 ∨ k = 37 ∨ k = 38 ∨ k = 39 ∨ k = 40 ∨ k = 41 ∨ k = 42 ∨ k = 43 ∨ k = 44 ∨ k = 45 ∨ k = 46 ∨ k = 47 ∨ k = 48 ∨ k = 49 ∨ k = 50 ∨ k = 51 ∨ k = 52 ∨ k = 53 ∨ k = 54 by omega) with rfl | rfl | rfl | rfl | rfl | rfl | rfl | rfl | rfl | rfl | rfl | rfl | rfl | rfl | rfl | rfl | rfl | rfl | rfl | rfl | rfl | rfl | rfl | rfl | rfl
  · rfl
  · rfl
  · rfl
  · rfl
  · rfl
  · rfl
  · rfl
  · rfl
  · rfl
  · rfl
  · simp [okm] at h
    obtain ⟨rfl, rfl⟩ := h
    rfl
  · rfl
  · simp [okm] at h
    obtain ⟨rfl, rfl⟩ := h
    rfl
  · rfl
  · simp [okm] at h
    obtain ⟨rfl, rfl⟩ := h
    rfl
  · rfl
  · simp [okm] at h
    obtain ⟨rfl, rfl⟩ := h
    rfl
  · simp [okm] at h
    obtain ⟨h1, rfl⟩ := h
    exact (gJ82 (4700 + i) (by omega)).trans (by rw [Nat.add_sub_cancel_left])
  · rfl
  · rfl
  · rfl
  · rfl
  · rfl
  · rfl
  · rfl
/-- all is made -/
def E6 (c A : Nat) (adc : AD) (ok : KF) (ad : AD) (σ : SG) : Prop := ∃ Ks σ0, M6 [(25, 97, 0, 0), (19, 53, 0, 0), (18, 52, 0, 0), (17, 51, 0, 0), (16, 50, 0, 0), (15, 49, 0, 0), (14, 82, 4600, 0), (13, 82, 4400, 0), (12, 82, 4200, 0), (11, 82, 4000, 0), (10, 39, 0, 0), (9, 38, 0, 0), (8, 37, 0, 0), (7, 36, 0, 0), (5, 35, 0, 0), (4, 34, 0, 0), (3, 33, 0, 0), (2, 32, 0, 0), (1, 31, 0, 0)] [(4400, 10, 45, 0), (4200, 9, 43, 0), (4000, 8, 41, 0)] Ks true A adc ok ad σ0 ∧ (∀ k i j, ¬ (k = 37 ∧ i = 0 ∧ j = 0) → σ k i j = σ0 k i j) ∧ (σ 37 0 0 = fun x => if x < 4 then 1 else 0) ∧ σ 97 0 0 0 = 0 ∧ σ 97 0 0 1 = c + 1 ∧ σ 97 0 0 2 = 0
theorem E6.key {G : GT} {A : Nat} {adc ad : AD} {ok : KF} {σ : SG} (h : E6 (G.2.2.2 0) A adc ok ad σ) : ∀ k i j, KM6 k i j → ok (fM k i j).1 (fM k i j).2.1 (fM k i j).2.2 ∧ (fun k i j => ad (fM k i j).1 (fM k i j).2.1 (fM k i j).2.2) k i j = ad (fM k i j).1 (fM k i j).2.1 (fM k i j).2.2 ∧
    ∀ H, va_at G.1 CL (ad (fM k i j).1 (fM k i j).2.1 (fM k i j).2.2, enck G.2.2.1 ad (fM k i j).1 (fM k i j).2.1 (fM k i j).2.2 (σ (fM k i j).1 (fM k i j).2.1 (fM k i j).2.2)) H → va_at G.1 CL (ad (fM k i j).1 (fM k i j).2.1 (fM k i j).2.2, enck G.2.2.1 (fun k i j => ad (fM k i j).1 (fM k i j).2.1 (fM k i j).2.2) k i j (Z2 (G.2.2.2 0) k i j)) H := by
  obtain ⟨Ks, σ0, ⟨⟨m1, m2⟩, m3, m4, ⟨m5, m6, m7, m8⟩, m9⟩, s1, s2, s3, s4, s5⟩ := h
  have s96 : σ 96 0 0 = σ0 96 0 0 := s1 _ _ _ (by omega)
  have s82 : ∀ o, σ 82 o 0 = σ0 82 o 0 := fun o => s1 _ _ _ (by omega)
  intro k i j q
  rcases q with q | q
  · have hk := okc_lt q
    have eadc : ∀ k' i' j', k' ≤ 22 → (fun k i j => ad (fM k i j).1 (fM k i j).2.1 (fM k i j).2.2) k' i' j' = ad k' i' j' := fun k' i' j' h' => by
      by_cases c : k' < 21
      · show ad (fM k' i' j').1 (fM k' i' j').2.1 (fM k' i' j').2.2 = _
        rw [fM_c c]
      · rcases (show k' = 21 ∨ k' = 22 by omega) with rfl | rfl <;> rfl
    rw [fM_c hk]
    refine ⟨(m6 k i j q).1, by show ad (fM k i j).1 (fM k i j).2.1 (fM k i j).2.2 = _; rw [fM_c hk], fun H hH => ?_⟩
    have ez : Z2 (G.2.2.2 0) k i j = σ k i j := by
      rw [s1 k i j (by omega), m5 k i j (by omega)]
      funext x
      unfold Z2
      rw [if_neg (by omega), if_neg (by omega)]
    rw [ez, IN.eq (k0 := 99) (ad := ad) (.inr ⟨by omega, by decide⟩) (fun _ => eadc)]
    exact hH
  have hk := okm_rg q
  rcases (show k = 30 ∨ k = 31 ∨ k = 32 ∨ k = 33 ∨ k = 34 ∨ k = 35 ∨ k = 36 ∨ k = 37 ∨ k = 38 ∨ k = 39 ∨ k = 40 ∨ k = 41 ∨ k = 42 ∨ k = 43 ∨ k = 44 ∨ k = 45 ∨ k = 46 ∨ k = 47 ∨ k = 48 ∨ k = 49 ∨ k = 50 ∨ k = 51 ∨ k = 52 ∨ k = 53 ∨ k = 54 by omega) with rfl | rfl | rfl | rfl | rfl | rfl | rfl | rfl | rfl | rfl | rfl | rfl | rfl | rfl | rfl | rfl | rfl | rfl | rfl | rfl | rfl | rfl | rfl | rfl | rfl
  · have q2 : i = 0 ∧ j = 0 := by simpa [okm] using q
    obtain ⟨rfl, rfl⟩ := q2
    refine ⟨m7, rfl, fun H hH => ?_⟩
    have hH' : va_at G.1 CL (ad 96 0 0, enck G.2.2.1 ad 96 0 0 (σ 96 0 0)) H := hH
    have b0 := m2 0 (by decide)
    have b1 := (m1 (1, 31, 0, 0) (by decide)).2
    have b2 := (m1 (2, 32, 0, 0) (by decide)).2
    have b3 := (m1 (3, 33, 0, 0) (by decide)).2
    have b4 := (m1 (4, 34, 0, 0) (by decide)).2
    have b5 := (m1 (5, 35, 0, 0) (by decide)).2
    have b6 := m2 6 (by decide)
    have b7 := (m1 (7, 36, 0, 0) (by decide)).2
    have b8 := (m1 (8, 37, 0, 0) (by decide)).2
    have b9 := (m1 (9, 38, 0, 0) (by decide)).2
    have b10 := (m1 (10, 39, 0, 0) (by decide)).2
    have b11 := (m1 (11, 82, 4000, 0) (by decide)).2
    have b12 := (m1 (12, 82, 4200, 0) (by decide)).2
    have b13 := (m1 (13, 82, 4400, 0) (by decide)).2
    have b14 := (m1 (14, 82, 4600, 0) (by decide)).2
    have b15 := (m1 (15, 49, 0, 0) (by decide)).2
    have b16 := (m1 (16, 50, 0, 0) (by decide)).2
    have b17 := (m1 (17, 51, 0, 0) (by decide)).2
    have b18 := (m1 (18, 52, 0, 0) (by decide)).2
    have b19 := (m1 (19, 53, 0, 0) (by decide)).2
    have b20 := m2 20 (by decide)
    have b21 := m2 21 (by decide)
    have b22 := m2 22 (by decide)
    have b23 := m2 23 (by decide)
    have b24 := m2 24 (by decide)
    have b25 := (m1 (25, 97, 0, 0) (by decide)).2
    rw [s96] at hH'
    simp only [] at b0 b1 b2 b3 b4 b5 b6 b7 b8 b9 b10 b11 b12 b13 b14 b15 b16 b17 b18 b19 b20 b21 b22 b23 b24 b25
    simp only [enck, b0, b1, b2, b3, b4, b5, b6, b7, b8, b9, b10, b11, b12, b13, b14, b15, b16, b17, b18, b19, b20, b21, b22, b23, b24, b25] at hH'
    exact hH'
  · have q2 : i = 0 ∧ j = 0 := by simpa [okm] using q
    obtain ⟨rfl, rfl⟩ := q2
    refine ⟨(m1 (1, 31, 0, 0) (by decide)).1, rfl, fun H hH => ?_⟩
    have ez : Z2 (G.2.2.2 0) 31 0 0 = σ 31 0 0 := by
      rw [s1 31 0 0 (by omega), m5 31 0 0 (by decide)]
      funext x
      unfold Z2
      rw [if_neg (by omega), if_neg (by omega)]
    show va_at G.1 CL (ad 31 0 0, enck G.2.2.1 _ 31 0 0 (Z2 (G.2.2.2 0) 31 0 0)) H
    rw [ez, enck_lf (ad := ad) 31 rfl]
    exact hH
  · have q2 : i = 0 ∧ j = 0 := by simpa [okm] using q
    obtain ⟨rfl, rfl⟩ := q2
    refine ⟨(m1 (2, 32, 0, 0) (by decide)).1, rfl, fun H hH => ?_⟩
    have ez : Z2 (G.2.2.2 0) 32 0 0 = σ 32 0 0 := by
      rw [s1 32 0 0 (by omega), m5 32 0 0 (by decide)]
      funext x
      unfold Z2
      rw [if_neg (by omega), if_neg (by omega)]
    show va_at G.1 CL (ad 32 0 0, enck G.2.2.1 _ 32 0 0 (Z2 (G.2.2.2 0) 32 0 0)) H
    rw [ez, enck_lf (ad := ad) 32 rfl]
    exact hH
  · have q2 : i = 0 ∧ j = 0 := by simpa [okm] using q
    obtain ⟨rfl, rfl⟩ := q2
    refine ⟨(m1 (3, 33, 0, 0) (by decide)).1, rfl, fun H hH => ?_⟩
    have ez : Z2 (G.2.2.2 0) 33 0 0 = σ 33 0 0 := by
      rw [s1 33 0 0 (by omega), m5 33 0 0 (by decide)]
      funext x
      unfold Z2
      rw [if_neg (by omega), if_neg (by omega)]
    show va_at G.1 CL (ad 33 0 0, enck G.2.2.1 _ 33 0 0 (Z2 (G.2.2.2 0) 33 0 0)) H
    rw [ez, enck_lf (ad := ad) 33 rfl]
    exact hH
  · have q2 : i = 0 ∧ j = 0 := by simpa [okm] using q
    obtain ⟨rfl, rfl⟩ := q2
    refine ⟨(m1 (4, 34, 0, 0) (by decide)).1, rfl, fun H hH => ?_⟩
    have ez : Z2 (G.2.2.2 0) 34 0 0 = σ 34 0 0 := by
      rw [s1 34 0 0 (by omega), m5 34 0 0 (by decide)]
      funext x
      unfold Z2
      rw [if_neg (by omega), if_neg (by omega)]
    show va_at G.1 CL (ad 34 0 0, enck G.2.2.1 _ 34 0 0 (Z2 (G.2.2.2 0) 34 0 0)) H
    rw [ez, enck_lf (ad := ad) 34 rfl]
    exact hH
  · have q2 : i = 0 ∧ j = 0 := by simpa [okm] using q
    obtain ⟨rfl, rfl⟩ := q2
    refine ⟨(m1 (5, 35, 0, 0) (by decide)).1, rfl, fun H hH => ?_⟩
    have ez : Z2 (G.2.2.2 0) 35 0 0 = σ 35 0 0 := by
      rw [s1 35 0 0 (by omega), m5 35 0 0 (by decide)]
      funext x
      unfold Z2
      rw [if_neg (by omega), if_neg (by omega)]
    show va_at G.1 CL (ad 35 0 0, enck G.2.2.1 _ 35 0 0 (Z2 (G.2.2.2 0) 35 0 0)) H
    rw [ez, enck_lf (ad := ad) 35 rfl]
    exact hH
  · have q2 : i = 0 ∧ j = 0 := by simpa [okm] using q
    obtain ⟨rfl, rfl⟩ := q2
    refine ⟨(m1 (7, 36, 0, 0) (by decide)).1, rfl, fun H hH => ?_⟩
    have ez : Z2 (G.2.2.2 0) 36 0 0 = σ 36 0 0 := by
      rw [s1 36 0 0 (by omega), m5 36 0 0 (by decide)]
      funext x
      unfold Z2
      rw [if_neg (by omega), if_neg (by omega)]
    show va_at G.1 CL (ad 36 0 0, enck G.2.2.1 _ 36 0 0 (Z2 (G.2.2.2 0) 36 0 0)) H
    rw [ez, enck_lf (ad := ad) 36 rfl]
    exact hH
  · have q2 : i = 0 ∧ j = 0 := by simpa [okm] using q
    obtain ⟨rfl, rfl⟩ := q2
    refine ⟨(m1 (8, 37, 0, 0) (by decide)).1, rfl, fun H hH => ?_⟩
    have ez : Z2 (G.2.2.2 0) 37 0 0 = σ 37 0 0 := by
      rw [s2]
      funext x
      unfold Z2
      by_cases hx : x < 4
      · rw [if_pos ⟨rfl, rfl, rfl, hx⟩, if_pos hx]
      · rw [if_neg (by omega), if_neg (by omega), if_neg hx]
        rfl
    show va_at G.1 CL (ad 37 0 0, enck G.2.2.1 _ 37 0 0 (Z2 (G.2.2.2 0) 37 0 0)) H
    rw [ez, enck_lf (ad := ad) 37 rfl]
    exact hH
  · have q2 : i = 0 ∧ j = 0 := by simpa [okm] using q
    obtain ⟨rfl, rfl⟩ := q2
    refine ⟨(m1 (9, 38, 0, 0) (by decide)).1, rfl, fun H hH => ?_⟩
    have ez : Z2 (G.2.2.2 0) 38 0 0 = σ 38 0 0 := by
      rw [s1 38 0 0 (by omega), m5 38 0 0 (by decide)]
      funext x
      unfold Z2
      rw [if_neg (by omega), if_neg (by omega)]
    show va_at G.1 CL (ad 38 0 0, enck G.2.2.1 _ 38 0 0 (Z2 (G.2.2.2 0) 38 0 0)) H
    rw [ez, enck_lf (ad := ad) 38 rfl]
    exact hH
  · have q2 : i = 0 ∧ j = 0 := by simpa [okm] using q
    obtain ⟨rfl, rfl⟩ := q2
    refine ⟨(m1 (10, 39, 0, 0) (by decide)).1, rfl, fun H hH => ?_⟩
    have ez : Z2 (G.2.2.2 0) 39 0 0 = σ 39 0 0 := by
      rw [s1 39 0 0 (by omega), m5 39 0 0 (by decide)]
      funext x
      unfold Z2
      rw [if_neg (by omega), if_neg (by omega)]
    show va_at G.1 CL (ad 39 0 0, enck G.2.2.1 _ 39 0 0 (Z2 (G.2.2.2 0) 39 0 0)) H
    rw [ez, enck_lf (ad := ad) 39 rfl]
    exact hH
  · have q2 : i = 0 ∧ j = 0 := by simpa [okm] using q
    obtain ⟨rfl, rfl⟩ := q2
    refine ⟨(m1 (11, 82, 4000, 0) (by decide)).1, rfl, fun H hH => ?_⟩
    have hH' : va_at G.1 CL (ad 82 4000 0, enck G.2.2.1 ad 82 4000 0 (σ 82 4000 0)) H := hH
    obtain ⟨b0, b1, b2⟩ := m3 (4000, 8, 41, 0) (by decide)
    simp only [] at b0 b1
    rw [s82] at hH'
    simp only [enck, b0, b1] at hH'
    exact at_arr (fun x hx => by rw [(b2 x hx).2]; rfl) hH'
  · have q2 : i < 16 ∧ j = 0 := by simpa [okm] using q
    obtain ⟨hi, rfl⟩ := q2
    refine ⟨((m3 (4000, 8, 41, 0) (by decide)).2.2 i hi).1, rfl, fun H hH => ?_⟩
    have ez : Z2 (G.2.2.2 0) 41 i 0 = σ 41 i 0 := by
      rw [s1 41 i 0 (by omega), m5 41 i 0 (by decide)]
      funext x
      unfold Z2
      rw [if_neg (by omega), if_neg (by omega)]
    show va_at G.1 CL (ad 41 i 0, enck G.2.2.1 _ 41 i 0 (Z2 (G.2.2.2 0) 41 i 0)) H
    rw [ez, enck_lf (ad := ad) 41 rfl]
    exact hH
  · have q2 : i = 0 ∧ j = 0 := by simpa [okm] using q
    obtain ⟨rfl, rfl⟩ := q2
    refine ⟨(m1 (12, 82, 4200, 0) (by decide)).1, rfl, fun H hH => ?_⟩
    have hH' : va_at G.1 CL (ad 82 4200 0, enck G.2.2.1 ad 82 4200 0 (σ 82 4200 0)) H := hH
    obtain ⟨b0, b1, b2⟩ := m3 (4200, 9, 43, 0) (by decide)
    simp only [] at b0 b1
    rw [s82] at hH'
    simp only [enck, b0, b1] at hH'
    exact at_arr (fun x hx => by rw [(b2 x hx).2]; rfl) hH'
  · have q2 : i < 16 ∧ j = 0 := by simpa [okm] using q
    obtain ⟨hi, rfl⟩ := q2
    refine ⟨((m3 (4200, 9, 43, 0) (by decide)).2.2 i hi).1, rfl, fun H hH => ?_⟩
    have ez : Z2 (G.2.2.2 0) 43 i 0 = σ 43 i 0 := by
      rw [s1 43 i 0 (by omega), m5 43 i 0 (by decide)]
      funext x
      unfold Z2
      rw [if_neg (by omega), if_neg (by omega)]
    show va_at G.1 CL (ad 43 i 0, enck G.2.2.1 _ 43 i 0 (Z2 (G.2.2.2 0) 43 i 0)) H
    rw [ez, enck_lf (ad := ad) 43 rfl]
    exact hH
  · have q2 : i = 0 ∧ j = 0 := by simpa [okm] using q
    obtain ⟨rfl, rfl⟩ := q2
    refine ⟨(m1 (13, 82, 4400, 0) (by decide)).1, rfl, fun H hH => ?_⟩
    have hH' : va_at G.1 CL (ad 82 4400 0, enck G.2.2.1 ad 82 4400 0 (σ 82 4400 0)) H := hH
    obtain ⟨b0, b1, b2⟩ := m3 (4400, 10, 45, 0) (by decide)
    simp only [] at b0 b1
    rw [s82] at hH'
    simp only [enck, b0, b1] at hH'
    exact at_arr (fun x hx => by rw [(b2 x hx).2]; rfl) hH'
  · have q2 : i < 16 ∧ j = 0 := by simpa [okm] using q
    obtain ⟨hi, rfl⟩ := q2
    refine ⟨((m3 (4400, 10, 45, 0) (by decide)).2.2 i hi).1, rfl, fun H hH => ?_⟩
    have ez : Z2 (G.2.2.2 0) 45 i 0 = σ 45 i 0 := by
      rw [s1 45 i 0 (by omega), m5 45 i 0 (by decide)]
      funext x
      unfold Z2
      rw [if_neg (by omega), if_neg (by omega)]
    show va_at G.1 CL (ad 45 i 0, enck G.2.2.1 _ 45 i 0 (Z2 (G.2.2.2 0) 45 i 0)) H
    rw [ez, enck_lf (ad := ad) 45 rfl]
    exact hH
  · have q2 : i = 0 ∧ j = 0 := by simpa [okm] using q
    obtain ⟨rfl, rfl⟩ := q2
    refine ⟨(m1 (14, 82, 4600, 0) (by decide)).1, rfl, fun H hH => ?_⟩
    have hH' : va_at G.1 CL (ad 82 4600 0, enck G.2.2.1 ad 82 4600 0 (σ 82 4600 0)) H := hH
    obtain ⟨b0, b1, b2, -⟩ := m4 rfl
    rw [s82] at hH'
    simp only [enck, b0, b1] at hH'
    exact at_arr (fun x hx => by rw [(b2 x hx).2]; rfl) hH'
  · have q2 : i < 16 ∧ j = 0 := by simpa [okm] using q
    obtain ⟨hi, rfl⟩ := q2
    obtain ⟨-, -, c2, c3⟩ := m4 rfl
    refine ⟨(c2 i hi).1, rfl, fun H hH => ?_⟩
    have hH' : va_at G.1 CL (ad 82 (4700 + i) 0, enck G.2.2.1 ad 82 (4700 + i) 0 (σ 82 (4700 + i) 0)) H := hH
    obtain ⟨b0, b1, b2⟩ := c3 i hi
    rw [s82] at hH'
    simp only [enck, b0, b1] at hH'
    exact at_arr (fun x hx => by rw [(b2 x hx).2]; rfl) hH'
  · have q2 : i < 16 ∧ j < 6 := by simpa [okm] using q
    refine ⟨((m4 rfl).2.2.2 i q2.1).2.2 j q2.2 |>.1, rfl, fun H hH => ?_⟩
    have ez : Z2 (G.2.2.2 0) 48 i j = σ 48 i j := by
      rw [s1 48 i j (by omega), m5 48 i j (by decide)]
      funext x
      unfold Z2
      rw [if_neg (by omega), if_neg (by omega)]
    show va_at G.1 CL (ad 48 i j, enck G.2.2.1 _ 48 i j (Z2 (G.2.2.2 0) 48 i j)) H
    rw [ez, enck_lf (ad := ad) 48 rfl]
    exact hH
  · have q2 : i = 0 ∧ j = 0 := by simpa [okm] using q
    obtain ⟨rfl, rfl⟩ := q2
    refine ⟨(m1 (15, 49, 0, 0) (by decide)).1, rfl, fun H hH => ?_⟩
    have ez : Z2 (G.2.2.2 0) 49 0 0 = σ 49 0 0 := by
      rw [s1 49 0 0 (by omega), m5 49 0 0 (by decide)]
      funext x
      unfold Z2
      rw [if_neg (by omega), if_neg (by omega)]
    show va_at G.1 CL (ad 49 0 0, enck G.2.2.1 _ 49 0 0 (Z2 (G.2.2.2 0) 49 0 0)) H
    rw [ez, enck_lf (ad := ad) 49 rfl]
    exact hH
  · have q2 : i = 0 ∧ j = 0 := by simpa [okm] using q
    obtain ⟨rfl, rfl⟩ := q2
    refine ⟨(m1 (16, 50, 0, 0) (by decide)).1, rfl, fun H hH => ?_⟩
    have ez : Z2 (G.2.2.2 0) 50 0 0 = σ 50 0 0 := by
      rw [s1 50 0 0 (by omega), m5 50 0 0 (by decide)]
      funext x
      unfold Z2
      rw [if_neg (by omega), if_neg (by omega)]
    show va_at G.1 CL (ad 50 0 0, enck G.2.2.1 _ 50 0 0 (Z2 (G.2.2.2 0) 50 0 0)) H
    rw [ez, enck_lf (ad := ad) 50 rfl]
    exact hH
  · have q2 : i = 0 ∧ j = 0 := by simpa [okm] using q
    obtain ⟨rfl, rfl⟩ := q2
    refine ⟨(m1 (17, 51, 0, 0) (by decide)).1, rfl, fun H hH => ?_⟩
    have ez : Z2 (G.2.2.2 0) 51 0 0 = σ 51 0 0 := by
      rw [s1 51 0 0 (by omega), m5 51 0 0 (by decide)]
      funext x
      unfold Z2
      rw [if_neg (by omega), if_neg (by omega)]
    show va_at G.1 CL (ad 51 0 0, enck G.2.2.1 _ 51 0 0 (Z2 (G.2.2.2 0) 51 0 0)) H
    rw [ez, enck_lf (ad := ad) 51 rfl]
    exact hH
  · have q2 : i = 0 ∧ j = 0 := by simpa [okm] using q
    obtain ⟨rfl, rfl⟩ := q2
    refine ⟨(m1 (18, 52, 0, 0) (by decide)).1, rfl, fun H hH => ?_⟩
    have ez : Z2 (G.2.2.2 0) 52 0 0 = σ 52 0 0 := by
      rw [s1 52 0 0 (by omega), m5 52 0 0 (by decide)]
      funext x
      unfold Z2
      rw [if_neg (by omega), if_neg (by omega)]
    show va_at G.1 CL (ad 52 0 0, enck G.2.2.1 _ 52 0 0 (Z2 (G.2.2.2 0) 52 0 0)) H
    rw [ez, enck_lf (ad := ad) 52 rfl]
    exact hH
  · have q2 : i = 0 ∧ j = 0 := by simpa [okm] using q
    obtain ⟨rfl, rfl⟩ := q2
    refine ⟨(m1 (19, 53, 0, 0) (by decide)).1, rfl, fun H hH => ?_⟩
    have ez : Z2 (G.2.2.2 0) 53 0 0 = σ 53 0 0 := by
      rw [s1 53 0 0 (by omega), m5 53 0 0 (by decide)]
      funext x
      unfold Z2
      rw [if_neg (by omega), if_neg (by omega)]
    show va_at G.1 CL (ad 53 0 0, enck G.2.2.1 _ 53 0 0 (Z2 (G.2.2.2 0) 53 0 0)) H
    rw [ez, enck_lf (ad := ad) 53 rfl]
    exact hH
  · have q2 : i = 0 ∧ j = 0 := by simpa [okm] using q
    obtain ⟨rfl, rfl⟩ := q2
    refine ⟨(m1 (25, 97, 0, 0) (by decide)).1, rfl, fun H hH => ?_⟩
    have hH' : va_at G.1 CL (ad 97 0 0, enck G.2.2.1 ad 97 0 0 (σ 97 0 0)) H := hH
    simp only [enck, s3, s4, s5] at hH'
    exact hH'
set_option maxHeartbeats 4000000 in
set_option maxRecDepth 100000 in
theorem c_X6_init {l : Launch} (hl0 : l.stackTraces = false) {G : GT} {ad : AD} (hk : K6 96 0 0) : Ct l G 3 yX6_init cX6_init 2 (none) [.ref (ad 96 0 0)] K6 ad Z1 (fun v μ => v = none ∧ ∃ ad1, μ = (KM6, ad1, Z2 (G.2.2.2 0)) ∧ ad1 30 0 0 = ad 96 0 0 ∧ ∀ k i j, KC k i j → ad1 k i j = ad k i j) NX 179 8661 := by
  refine Ct.mk (by decide +kernel) hl0 (Nat.le_of_ble_eq_true rfl) (fun X hX hC hM => ?_)
  subst hX
  obtain ⟨A, hA⟩ : ∃ A, A = ad 96 0 0 := ⟨_, rfl⟩
  have hA0 := hA
  obtain ⟨adc, hadc⟩ : ∃ adc, adc = ad := ⟨_, rfl⟩
  have h0 : M6 [] [] [(96, 0)] false A adc K6 ad Z1 := ⟨⟨fun q hq => (by cases hq), fun x _ => rfl⟩, fun q hq => (by cases hq), fun h => (by cases h), ⟨fun _ _ _ _ => rfl, fun k i j q => ⟨.inl q, by rw [hadc]⟩, hk, hA.symm⟩, fun k i j q => by
    rcases q with q | ⟨rfl, rfl, rfl⟩
    · exact .inl q
    · exact .inr ⟨rfl, by show (96, 0) ∈ _; decide⟩⟩
  refine v_sub (l1 := [(0, .ref A)]) (by rw [hA]; rfl) ?_
  refine v_aload_n hC dX6_init_0 rfl ?_
  refine v_objInit hC dX6_init_1 oi_X6 (Nat.le_of_ble_eq_true rfl) ?_
  refine v_aload_n hC dX6_init_4 rfl ?_
  refine v_bipush (v := nI 64) hC dX6_init_5 (by decide) ?_
  refine st6_arr (N := 64) (ty := .int) (a0 := (64, .inl fun _ => nI 0)) (pc2 := 12) 0 31 1 hC h0 dX6_init_7 rfl ar_I rfl rfl (by decide) (by decide) (by omega) (by omega) (by decide) rfl (by decide) (by decide) rfl rfl (fun ho kk => pr_X6_17 (i := 0) (j := 0) hC hM.2.1 dX6_init_9 ho kk) (fun ok ad σ h1 => ?_)
  refine v_aload_n hC dX6_init_12 rfl ?_
  refine v_bipush (v := nI 12) hC dX6_init_13 (by decide) ?_
  refine st6_arr (N := 12) (ty := .int) (a0 := (12, .inl fun _ => nI 0)) (pc2 := 20) 0 32 2 hC h1 dX6_init_15 rfl ar_I rfl rfl (by decide) (by decide) (by omega) (by omega) (by decide) rfl (by decide) (by decide) rfl rfl (fun ho kk => pr_X6_21 (i := 0) (j := 0) hC hM.2.1 dX6_init_17 ho kk) (fun ok ad σ h2 => ?_)
  refine v_aload_n hC dX6_init_20 rfl ?_
  refine v_bipush (v := nI 12) hC dX6_init_21 (by decide) ?_
  refine st6_arr (N := 12) (ty := .int) (a0 := (12, .inl fun _ => nI 0)) (pc2 := 28) 0 33 3 hC h2 dX6_init_23 rfl ar_I rfl rfl (by decide) (by decide) (by omega) (by omega) (by decide) rfl (by decide) (by decide) rfl rfl (fun ho kk => pr_X6_24 (i := 0) (j := 0) hC hM.2.1 dX6_init_25 ho kk) (fun ok ad σ h3 => ?_)
  refine v_aload_n hC dX6_init_28 rfl ?_
  refine v_bipush (v := nI 12) hC dX6_init_29 (by decide) ?_
  refine st6_arr (N := 12) (ty := .int) (a0 := (12, .inl fun _ => nI 0)) (pc2 := 36) 0 34 4 hC h3 dX6_init_31 rfl ar_I rfl rfl (by decide) (by decide) (by omega) (by omega) (by decide) rfl (by decide) (by decide) rfl rfl (fun ho kk => pr_X6_27 (i := 0) (j := 0) hC hM.2.1 dX6_init_33 ho kk) (fun ok ad σ h4 => ?_)
  refine v_aload_n hC dX6_init_36 rfl ?_
  refine v_bipush (v := nI 12) hC dX6_init_37 (by decide) ?_
  refine st6_arr (N := 12) (ty := .boolean) (a0 := (12, .inl fun _ => nI 0)) (pc2 := 44) 1 35 5 hC h4 dX6_init_39 rfl ar_Z rfl rfl (by decide) (by decide) (by omega) (by omega) (by decide) rfl (by decide) (by decide) rfl rfl (fun ho kk => pr_X6_30 (i := 0) (j := 0) hC hM.2.1 dX6_init_41 ho kk) (fun ok ad σ h5 => ?_)
  refine v_aload_n hC dX6_init_44 rfl ?_
  refine v_iconst (v := nI 4) hC dX6_init_45 (by decide) ?_
  refine st6_arr (N := 4) (ty := .int) (a0 := (4, .inl fun _ => nI 0)) (pc2 := 51) 0 36 7 hC h5 dX6_init_46 rfl ar_I rfl rfl (by decide) (by decide) (by omega) (by omega) (by decide) rfl (by decide) (by decide) rfl rfl (fun ho kk => pr_X6_34 (i := 0) (j := 0) hC hM.2.1 dX6_init_48 ho kk) (fun ok ad σ h6 => ?_)
  refine v_aload_n hC dX6_init_51 rfl ?_
  refine v_iconst (v := nI 4) hC dX6_init_52 (by decide) ?_
  refine st6_arr (N := 4) (ty := .int) (a0 := (4, .inl fun _ => nI 0)) (pc2 := 58) 0 37 8 hC h6 dX6_init_53 rfl ar_I rfl rfl (by decide) (by decide) (by omega) (by omega) (by decide) rfl (by decide) (by decide) rfl rfl (fun ho kk => pr_X6_37 (i := 0) (j := 0) hC hM.2.1 dX6_init_55 ho kk) (fun ok ad σ h7 => ?_)
  refine v_aload_n hC dX6_init_58 rfl ?_
  refine v_iconst (v := nI 4) hC dX6_init_59 (by decide) ?_
  refine st6_arr (N := 4) (ty := .boolean) (a0 := (4, .inl fun _ => nI 0)) (pc2 := 65) 1 38 9 hC h7 dX6_init_60 rfl ar_Z rfl rfl (by decide) (by decide) (by omega) (by omega) (by decide) rfl (by decide) (by decide) rfl rfl (fun ho kk => pr_X6_40 (i := 0) (j := 0) hC hM.2.1 dX6_init_62 ho kk) (fun ok ad σ h8 => ?_)
  refine v_aload_n hC dX6_init_65 rfl ?_
  refine v_bipush (v := nI 6) hC dX6_init_66 (by decide) ?_
  refine st6_arr (N := 6) (ty := .boolean) (a0 := (6, .inl fun _ => nI 0)) (pc2 := 73) 1 39 10 hC h8 dX6_init_68 rfl ar_Z rfl rfl (by decide) (by decide) (by omega) (by omega) (by decide) rfl (by decide) (by decide) rfl rfl (fun ho kk => pr_X6_43 (i := 0) (j := 0) hC hM.2.1 dX6_init_70 ho kk) (fun ok ad σ h9 => ?_)
  refine v_aload_n hC dX6_init_73 rfl ?_
  refine v_bipush (v := nI 16) hC dX6_init_74 (by decide) ?_
  refine v_bipush (v := nI 64) hC dX6_init_76 (by decide) ?_
  refine st6_m2 (M := 64) (ty := .int) (ki := 41) (ai := (64, .inl fun _ => dm 1)) (pc2 := 85) 8 0 4000 11 hC h9 dX6_init_78 cw_X6_46 ao_II ar_I rfl rfl rfl (by decide) (by decide) rfl rfl (by omega) (by omega) (by decide) rfl (by decide) (by decide) (by decide) rfl (by decide) (by decide) (fun y hy => rfl) rfl (fun ho kk => pr_X6_48 (i := 0) (j := 0) hC hM.2.1 dX6_init_82 ho kk) (fun ok ad σ h10 => ?_)
  refine v_aload_n hC dX6_init_85 rfl ?_
  refine v_bipush (v := nI 16) hC dX6_init_86 (by decide) ?_
  refine v_bipush (v := nI 64) hC dX6_init_88 (by decide) ?_
  refine st6_m2 (M := 64) (ty := .boolean) (ki := 43) (ai := (64, .inl fun _ => nI 0)) (pc2 := 97) 9 1 4200 12 hC h10 dX6_init_90 cw_X6_51 ao_ZZ ar_Z rfl rfl rfl (by decide) (by decide) rfl rfl (by omega) (by omega) (by decide) rfl (by decide) (by decide) (by decide) rfl (by decide) (by decide) (fun y hy => rfl) rfl (fun ho kk => pr_X6_53 (i := 0) (j := 0) hC hM.2.1 dX6_init_94 ho kk) (fun ok ad σ h11 => ?_)
  refine v_aload_n hC dX6_init_97 rfl ?_
  refine v_bipush (v := nI 16) hC dX6_init_98 (by decide) ?_
  refine v_bipush (v := nI 6) hC dX6_init_100 (by decide) ?_
  refine st6_m2 (M := 6) (ty := .char) (ki := 45) (ai := (6, .inl fun _ => nI 0)) (pc2 := 109) 10 2 4400 13 hC h11 dX6_init_102 cw_X6_56 ao_CC ar_C rfl rfl rfl (by decide) (by decide) rfl rfl (by omega) (by omega) (by decide) rfl (by decide) (by decide) (by decide) rfl (by decide) (by decide) (fun y hy => rfl) rfl (fun ho kk => pr_X6_58 (i := 0) (j := 0) hC hM.2.1 dX6_init_106 ho kk) (fun ok ad σ h12 => ?_)
  refine v_aload_n hC dX6_init_109 rfl ?_
  refine v_bipush (v := nI 16) hC dX6_init_110 (by decide) ?_
  refine v_bipush (v := nI 6) hC dX6_init_112 (by decide) ?_
  refine v_bipush (v := nI 64) hC dX6_init_114 (by decide) ?_
  refine st6_m3 (pc2 := 123) hC h12 dX6_init_116 cw_X6_61 (by omega) (by omega) (by decide) (by decide) (by decide) (by decide) (by decide) (fun ho kk => pr_X6_63 (i := 0) (j := 0) hC hM.2.1 dX6_init_120 ho kk) (fun ok ad σ h13 => ?_)
  refine v_aload_n hC dX6_init_123 rfl ?_
  refine v_bipush (v := nI 16) hC dX6_init_124 (by decide) ?_
  refine st6_arr (N := 16) (ty := .int) (a0 := (16, .inl fun _ => nI 0)) (pc2 := 131) 0 49 15 hC h13 dX6_init_126 rfl ar_I rfl rfl (by decide) (by decide) (by omega) (by omega) (by decide) rfl (by decide) (by decide) rfl rfl (fun ho kk => pr_X6_66 (i := 0) (j := 0) hC hM.2.1 dX6_init_128 ho kk) (fun ok ad σ h14 => ?_)
  refine v_aload_n hC dX6_init_131 rfl ?_
  refine v_bipush (v := nI 16) hC dX6_init_132 (by decide) ?_
  refine st6_arr (N := 16) (ty := .int) (a0 := (16, .inl fun _ => nI 0)) (pc2 := 139) 0 50 16 hC h14 dX6_init_134 rfl ar_I rfl rfl (by decide) (by decide) (by omega) (by omega) (by decide) rfl (by decide) (by decide) rfl rfl (fun ho kk => pr_X6_69 (i := 0) (j := 0) hC hM.2.1 dX6_init_136 ho kk) (fun ok ad σ h15 => ?_)
  refine v_aload_n hC dX6_init_139 rfl ?_
  refine v_bipush (v := nI 16) hC dX6_init_140 (by decide) ?_
  refine st6_arr (N := 16) (ty := .int) (a0 := (16, .inl fun _ => nI 0)) (pc2 := 147) 0 51 17 hC h15 dX6_init_142 rfl ar_I rfl rfl (by decide) (by decide) (by omega) (by omega) (by decide) rfl (by decide) (by decide) rfl rfl (fun ho kk => pr_X6_72 (i := 0) (j := 0) hC hM.2.1 dX6_init_144 ho kk) (fun ok ad σ h16 => ?_)
  refine v_aload_n hC dX6_init_147 rfl ?_
  refine v_bipush (v := nI 16) hC dX6_init_148 (by decide) ?_
  refine st6_arr (N := 16) (ty := .char) (a0 := (16, .inl fun _ => nI 0)) (pc2 := 155) 2 52 18 hC h16 dX6_init_150 rfl ar_C rfl rfl (by decide) (by decide) (by omega) (by omega) (by decide) rfl (by decide) (by decide) rfl rfl (fun ho kk => pr_X6_75 (i := 0) (j := 0) hC hM.2.1 dX6_init_152 ho kk) (fun ok ad σ h17 => ?_)
  refine v_aload_n hC dX6_init_155 rfl ?_
  refine v_bipush (v := nI 16) hC dX6_init_156 (by decide) ?_
  refine st6_arr (N := 16) (ty := .boolean) (a0 := (16, .inl fun _ => nI 0)) (pc2 := 163) 1 53 19 hC h17 dX6_init_158 rfl ar_Z rfl rfl (by decide) (by decide) (by omega) (by omega) (by decide) rfl (by decide) (by decide) rfl rfl (fun ho kk => pr_X6_79 (i := 0) (j := 0) hC hM.2.1 dX6_init_160 ho kk) (fun ok ad σ h18 => ?_)
  refine v_aload_n hC dX6_init_163 rfl ?_
  have hn97 : ¬ ok 97 0 0 := h18.fresh (by decide) (by decide)
  have o96 := h18.2.2.2.1.2.2.1
  refine nw_X6_82 (i0 := 0) (j0 := 0) hC dX6_init_164 hn97 (by omega) (by omega) (fun a => ?_)
  refine v_dup hC dX6_init_167 rfl ?_
  refine v_callI_v0 hC lk_X6_84 dX6_init_168 (c_Jx4a65c_init_da8c8 (ad := adA ad 97 0 0 a) hl0 (.inr ⟨rfl, rfl, rfl⟩)) (by decide) (by decide) rfl rfl (Nat.le_of_ble_eq_true rfl) (by omega) (by omega) ?_
  have e96 : adA ad 97 0 0 a 96 0 0 = A := (adA_off _ _ (by omega)).trans h18.2.2.2.1.2.2.2
  refine v_stk (st' := [va_rf (rf (a + 1)), .ref (adA ad 97 0 0 a 96 0 0)]) (by rw [e96]; rfl) ?_
  refine pr_X6_85 (v := a + 1) (i := 0) (j := 0) hC hM.2.1 dX6_init_171 (.inl o96) ?_
  obtain ⟨σ3, hσ3⟩ : ∃ σ3, σ3 = up (up (upr σ 97 0 0 (fun _ => 0)) 97 0 0 0 0) 97 0 0 1 (G.2.2.2 0 + 1) := ⟨_, rfl⟩
  have h97 : σ3 97 0 0 0 = 0 ∧ σ3 97 0 0 1 = G.2.2.2 0 + 1 ∧ σ3 97 0 0 2 = 0 := by
    rw [hσ3]
    simp [up, upr]
  have o97 : ∀ k i j, ¬ (k = 97 ∧ i = 0 ∧ j = 0) → σ3 k i j = σ k i j := fun k i j h => by
    rw [hσ3, up_off _ _ _ h, up_off _ _ _ h, upr_off _ _ h]
  rw [← hσ3]
  have hF := h18.step (ok1 := okA ok 97 0 0) (ad1 := adA ad 97 0 0 a) (σ1 := σ3) (ks := [(97, 0)]) (D' := []) (x := 25) (v := a + 1) (key := (97, 0, 0)) (b' := true) (fun k i j q => .inl q) (fun k i j q => by
      rcases q with q | ⟨rfl, rfl, rfl⟩
      · exact .inl q
      · exact .inr ⟨rfl, List.mem_singleton.mpr rfl⟩) (fun k i j q => adA_off _ _ (fun e => hn97 (by obtain ⟨rfl, rfl, rfl⟩ := e; exact q))) (o97 _ _ _ (by omega)) (fun k i j h => o97 _ _ _ (by omega)) (fun q _ => o97 _ _ _ (by omega)) (fun _ => ⟨o97 _ _ _ (by omega), fun _ _ => o97 _ _ _ (by omega)⟩) (by decide) rfl (.inr ⟨rfl, rfl, rfl⟩) (fun q hq => by cases hq) (fun h => .inl h)
  obtain ⟨ok4, hok4⟩ : ∃ ok4, ok4 = okA ok 97 0 0 := ⟨_, rfl⟩
  obtain ⟨ad4, had4⟩ : ∃ ad4, ad4 = adA ad 97 0 0 a := ⟨_, rfl⟩
  obtain ⟨σ4, hσ4⟩ : ∃ σ4, σ4 = up σ3 96 0 0 25 (a + 1) := ⟨_, rfl⟩
  have g97 : σ4 97 0 0 = σ3 97 0 0 := by rw [hσ4]; exact up_off _ _ _ (by omega)
  rw [← g97] at h97
  rw [← hok4, ← had4, ← hσ4] at hF ⊢
  clear hok4 had4 hσ4 g97 o97 hσ3
  refine v_iconst (v := nI 0) hC dX6_init_174 (by decide) ?_
  refine v_istore_n hC dX6_init_175 (by decide) ?_
  have hA : ad4 96 0 0 = A := hF.2.2.2.1.2.2.2
  have ho : ok4 96 0 0 := hF.2.2.2.1.2.2.1
  have h37 := hF.1.1 (8, 37, 0, 0) (by decide)
  have uo : ∀ t k i j, ¬ (k = 37 ∧ i = 0 ∧ j = 0) → upr σ4 37 0 0 (fun x => if x < t then 1 else 0) k i j = σ4 k i j := fun t k i j h => upr_off _ _ h
  have key : ∀ t, t ≤ 4 → V X G 179 8661 ok4 ad4 (upr σ4 37 0 0 (fun x => if x < t then 1 else 0)) [(0, .ref A), (1, iv t)] 176 [] := by
    refine down 4 ?_ ?_
    · refine v_iload_n hC dX6_init_176 rfl ?_
      refine v_iconst (v := nI 4) hC dX6_init_177 (by decide) ?_
      refine v_icmp_geN (tgt := 194) hC dX6_init_178 (by decide) (by decide) (by decide) (fun c_1 => ?_) (fun c_1 => absurd c_1 (by decide))
      have hE : E6 (G.2.2.2 0) A adc ok4 ad4 (upr σ4 37 0 0 (fun x => if x < 4 then 1 else 0)) := ⟨_, σ4, hF, uo 4, upr_row _ _ _ _ _, by rw [uo 4 _ _ _ (by omega)]; exact h97.1, by rw [uo 4 _ _ _ (by omega)]; exact h97.2.1, by rw [uo 4 _ _ _ (by omega)]; exact h97.2.2⟩
      refine v_rekey2 (ok' := KM6) (ad' := fun k i j => ad4 (fM k i j).1 (fM k i j).2.1 (fM k i j).2.2) (σ' := Z2 (G.2.2.2 0)) fM hE.key (fun k i j k' i' j' q q' e => ?_) ?_
      · have e2 := congrArg gJ e
        rw [gJ_fM q, gJ_fM q'] at e2
        injection e2 with e3 e4
        injection e4 with e5 e6
        exact ⟨e3, e5, e6⟩
      · refine v_vret hC hM dX6_init_194 (by omega) (by omega) ⟨rfl, _, rfl, hA.trans hA0, fun k i j q => ?_⟩
        show ad4 (fM k i j).1 (fM k i j).2.1 (fM k i j).2.2 = _
        rw [fM_c (okc_lt q)]
        exact ((hF.2.2.2.1.2.1 k i j q).2).trans (by rw [hadc])
    · intro t ht ih
      refine v_iload_n hC dX6_init_176 rfl ?_
      refine v_iconst (v := nI 4) hC dX6_init_177 (by decide) ?_
      refine v_icmp_geN (tgt := 194) hC dX6_init_178 (by decide) (by omega) (by decide) (fun c_1 => absurd c_1 (by omega)) (fun c_1 => ?_)
      refine v_aload_n hC dX6_init_181 rfl ?_
      refine v_stk (st' := [.ref (ad4 96 0 0)]) (by rw [hA]) ?_
      refine gr_X6_37 (ad := ad4) hC dX6_init_182 ho ?_
      refine v_stk (st' := [.ref (ad4 37 0 0)]) (by rw [uo t _ _ _ (by omega), h37.2]; rfl) ?_
      refine v_iload_n hC dX6_init_185 rfl ?_
      refine v_iconst (v := nI 1) hC dX6_init_186 (by decide) ?_
      refine s_i (K := 37) (N := 4) hC dX6_init_187 h37.1 (fun _ => rfl) ht (by decide) ?_
      refine v_iincN hC dX6_init_188 rfl (by decide) ?_
      refine v_goto (tgt := 176) hC dX6_init_191 (by decide) ?_
      have e : up (upr σ4 37 0 0 (fun x => if x < t then 1 else 0)) 37 0 0 t 1 = upr σ4 37 0 0 (fun x => if x < t + 1 then 1 else 0) := by
        rw [upr_up]
        congr 1
        funext x
        by_cases hx : x = t
        · rw [if_pos hx, if_pos (by omega)]
        · rw [if_neg hx]
          by_cases h3 : x < t
          · rw [if_pos h3, if_pos (by omega)]
          · rw [if_neg h3, if_neg (by omega)]
      rw [e]
      exact v_sub rfl ih
  have e0 : upr σ4 37 0 0 (fun x => if x < 0 then 1 else 0) = σ4 := upr_sm ((hF.2.2.2.1.1 37 0 0 (by decide)).trans rfl)
  have k0 := key 0 (by decide)
  rw [e0] at k0
  exact v_sub rfl k0
