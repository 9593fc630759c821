theorem st_i {H1 : Heap} {a : Addr} {c : ClassId} {n i : Nat} {x : Int32} {f f1 : Nat → Int32} (e : H1[a]? = some ((vp_cell c (n, .inl f)).setSlot i (.int x))) (h : ∀ j, f1 j = if j = i then x else f j) : H1[a]? = some (vp_cell c (n, .inl f1)) := by
  rw [e, vp_cell_i, vp_cell_i, arrV_store]
  congr 2
  funext q
  rw [h q]
  by_cases hq : q = i <;> simp [updV, hq]
theorem st_l {H1 : Heap} {a : Addr} {c : ClassId} {n i : Nat} {x : Int64} {f f1 : Nat → Int64} (e : H1[a]? = some ((vp_cell c (n, .inr (.inl f))).setSlot i (.long x))) (h : ∀ j, f1 j = if j = i then x else f j) : H1[a]? = some (vp_cell c (n, .inr (.inl f1))) := by
  rw [e, vp_cell_l, vp_cell_l, arrV_store]
  congr 2
  funext q
  rw [h q]
  by_cases hq : q = i <;> simp [updV, hq]
theorem st_d {H1 : Heap} {a : Addr} {c : ClassId} {n i : Nat} {x : UInt64} {f f1 : Nat → UInt64} (e : H1[a]? = some ((vp_cell c (n, .inr (.inr (.inr (.inl f))))).setSlot i (.double x))) (h : ∀ j, f1 j = if j = i then x else f j) : H1[a]? = some (vp_cell c (n, .inr (.inr (.inr (.inl f1))))) := by
  rw [e, vp_cell_d, vp_cell_d, arrV_store]
  congr 2
  funext q
  rw [h q]
  by_cases hq : q = i <;> simp [updV, hq]
theorem st_q {H1 : Heap} {a : Addr} {c : ClassId} {n i : Nat} {x : Option Nat} {f f1 : Nat → Option Nat} (e : H1[a]? = some ((vp_cell c (n, .inr (.inr (.inr (.inr f))))).setSlot i (va_rf x))) (h : ∀ j, f1 j = if j = i then x else f j) : H1[a]? = some (vp_cell c (n, .inr (.inr (.inr (.inr f1))))) := by
  rw [e, vp_cell_q, vp_cell_q, arrV_store]
  congr 2
  funext q
  rw [h q]
  by_cases hq : q = i <;> simp [updV, hq]
theorem nar_z {v : Nat} (h : v < 2) : narrow .boolean (.int (nI v)) = .int (nI v) := by
  rcases (show v = 0 ∨ v = 1 by omega) with rfl | rfl <;> rfl
theorem nar_c {v : Nat} (h : v < 65536) : narrow .char (.int (nI v)) = .int (nI v) := (pk_charN h).1
section HEAP
variable {X : XT} {G : GT} {own : String} {cc : ByteArray} {nL n mc ms : Nat} {kc ks : Nat} {ok : KF} {ad : AD} {σ σ1 : SG} {l : List (Nat × Value)} {pc : Nat} {st : List Value} {k i j : Nat}
/-! fields -/
theorem v_get {ref C : String} {T : u_T} {N ci ix : Nat} {fs : List Value} {v : Value} (hC : Cx X G own cc nL n mc ms) (d : decode cc pc = .ok (.getfield ix, 3)) (hk : ok k i j) (he : enck G.2.2.1 ad k i j (σ k i j) = .inr (ci, fs)) (hc : CL[ci]? = some (C, T, N)) (hin : ∀ w ∈ u_ws C T N, w ∈ lw_good) (f : Nat) (hf : f < N)
    (hlink : (Cond.fieldLink own ix ref (T f).2.1 (T f).2.2.1).before (xa X) (xs X) = true) (hsame : ∀ x, (xs X).fieldFound? (T f).1 (T f).2.1 (T f).2.2.1 = some x → (xs X).fieldFound? ref (T f).2.1 (T f).2.2.1 = some x) (hv : fs[f]? = some v) (kk : V X G kc ks ok ad σ l (pc + 3) (v :: st)) : V X G kc ks ok ad σ l pc (.ref (ad k i j) :: st) := fun H locs ls hR hS hl =>
  va_get hC.x hC.b hC.ts hin hC.ow hC.K (hR.one hk he) 0 rfl hc f hf hlink hsame hv d (kk H locs ls hR hS hl)
theorem v_getN {ref C host : String} {T : u_T} {N ci ix : Nat} {fs : List Value} {v : Value} (hC : Cx X G own cc nL n mc ms) (d : decode cc pc = .ok (.getfield ix, 3)) (hk : ok k i j) (he : enck G.2.2.1 ad k i j (σ k i j) = .inr (ci, fs)) (hc : CL[ci]? = some (C, T, N)) (hin : ∀ w ∈ u_ws C T N, w ∈ lw_good) (f : Nat) (hf : f < N)
    (hlink : (Cond.fieldLinkNest own ix ref (T f).2.1 (T f).2.2.1 host).before (xa X) (xs X) = true) (hsame : ∀ x, (xs X).fieldFound? (T f).1 (T f).2.1 (T f).2.2.1 = some x → (xs X).fieldFound? ref (T f).2.1 (T f).2.2.1 = some x) (hv : fs[f]? = some v) (kk : V X G kc ks ok ad σ l (pc + 3) (v :: st)) : V X G kc ks ok ad σ l pc (.ref (ad k i j) :: st) := fun H locs ls hR hS hl =>
  va_getN hC.x hC.b hC.ts hin hC.ow hC.K (hR.one hk he) 0 rfl hc f hf hlink hsame hv d (kk H locs ls hR hS hl)
theorem v_put {ref C : String} {T : u_T} {N ci ix : Nat} {fs : List Value} {v : Value} {ty : FieldType} (hC : Cx X G own cc nL n mc ms) (d : decode cc pc = .ok (.putfield ix, 3)) (hk : ok k i j) (he : enck G.2.2.1 ad k i j (σ k i j) = .inr (ci, fs)) (hc : CL[ci]? = some (C, T, N)) (hin : ∀ w ∈ u_ws C T N, w ∈ lw_good) (ty0 : Nat → FieldType) (hty : ∀ k, k < N → parseFieldDescriptor (T k).2.2.1 = some (ty0 k)) (hnm : ∀ a, a < N → ∀ b, b < N → a ≠ b → (T a).2.1 ≠ (T b).2.1) (f : Nat) (hf : f < N)
    (hlink : (Cond.fieldLink own ix ref (T f).2.1 (T f).2.2.1).before (xa X) (xs X) = true) (hsame : ∀ x, (xs X).fieldFound? (T f).1 (T f).2.1 (T f).2.2.1 = some x → (xs X).fieldFound? ref (T f).2.1 (T f).2.2.1 = some x) (hfin : (T f).2.2.2 = false) (hd : parseFieldDescriptor (T f).2.2.1 = some ty) (hn : narrow ty v = v) (hfit : fits ty v = true) (hl : f < fs.length)
    (ho : ∀ k' i' j', ¬ (k' = k ∧ i' = i ∧ j' = j) → σ1 k' i' j' = σ k' i' j') (he1 : enck G.2.2.1 ad k i j (σ1 k i j) = .inr (ci, fs.set f v)) (kk : V X G kc ks ok ad σ1 l (pc + 3) st) : V X G kc ks ok ad σ l pc (v :: .ref (ad k i j) :: st) := fun H locs ls hR hS hls => by
  have hap := va_apart (own := own) hC.ts hin ty0 hty hnm hC.K hc
  obtain ⟨r, h1, cell, q1, q2, q3, q4⟩ := hR.one hk he 0 _ rfl
  have hr : r = (C, T, N) := Option.some.inj (h1.symm.trans hc)
  subst hr
  obtain ⟨hSl, hfc, kC, hkC, hkind⟩ := hC.K.1 ci _ hc
  obtain ⟨cf, kf, fi, fd, hi, hsl⟩ := hSl f hf
  have hlay := hC.ts _ (hin _ (u_in_lay hf))
  unfold u_lay at hlay
  rw [if_neg (by rw [hfin]; decide)] at hlay
  have hst := (u_facts hfc hkC (u_lays hC.ts hin hf) hi).1
  have h6 := u_store hfc hkC hkind hlay hi hd hn hfit
  refine W.putK hC.x hC.b (f := fd) ⟨hC.ow, hlink, ⟨_, _, _, hsame _ hi⟩, hst⟩ (by rw [q2]; exact h6) q1 q3 (by rw [hsl]; exact k2_hasslot (q4 f hf)) rfl rfl d fun H' e1 e2 e3 => ?_
  rw [hsl] at e1 ⊢
  refine kk H' _ ls (hR.set hk ?_ e3 ho) (hS.put e2 e3 (hR.ge hk)) hls
  rw [he1]
  exact ⟨_, hc, t_OB.to (V := updV (vp_V fs) f v) ⟨_, e1, q2, q3, t_set q4 hap hf v⟩ (fun j _ => vp_updV_set hl v j)⟩
theorem v_putN {ref C host : String} {T : u_T} {N ci ix : Nat} {fs : List Value} {v : Value} {ty : FieldType} (hC : Cx X G own cc nL n mc ms) (d : decode cc pc = .ok (.putfield ix, 3)) (hk : ok k i j) (he : enck G.2.2.1 ad k i j (σ k i j) = .inr (ci, fs)) (hc : CL[ci]? = some (C, T, N)) (hin : ∀ w ∈ u_ws C T N, w ∈ lw_good) (ty0 : Nat → FieldType) (hty : ∀ k, k < N → parseFieldDescriptor (T k).2.2.1 = some (ty0 k)) (hnm : ∀ a, a < N → ∀ b, b < N → a ≠ b → (T a).2.1 ≠ (T b).2.1) (f : Nat) (hf : f < N)
    (hlink : (Cond.fieldLinkNest own ix ref (T f).2.1 (T f).2.2.1 host).before (xa X) (xs X) = true) (hsame : ∀ x, (xs X).fieldFound? (T f).1 (T f).2.1 (T f).2.2.1 = some x → (xs X).fieldFound? ref (T f).2.1 (T f).2.2.1 = some x) (hfin : (T f).2.2.2 = false) (hd : parseFieldDescriptor (T f).2.2.1 = some ty) (hn : narrow ty v = v) (hfit : fits ty v = true) (hl : f < fs.length)
    (ho : ∀ k' i' j', ¬ (k' = k ∧ i' = i ∧ j' = j) → σ1 k' i' j' = σ k' i' j') (he1 : enck G.2.2.1 ad k i j (σ1 k i j) = .inr (ci, fs.set f v)) (kk : V X G kc ks ok ad σ1 l (pc + 3) st) : V X G kc ks ok ad σ l pc (v :: .ref (ad k i j) :: st) := fun H locs ls hR hS hls => by
  have hap := va_apart (own := own) hC.ts hin ty0 hty hnm hC.K hc
  obtain ⟨r, h1, cell, q1, q2, q3, q4⟩ := hR.one hk he 0 _ rfl
  have hr : r = (C, T, N) := Option.some.inj (h1.symm.trans hc)
  subst hr
  obtain ⟨hSl, hfc, kC, hkC, hkind⟩ := hC.K.1 ci _ hc
  obtain ⟨cf, kf, fi, fd, hi, hsl⟩ := hSl f hf
  have hlay := hC.ts _ (hin _ (u_in_lay hf))
  unfold u_lay at hlay
  rw [if_neg (by rw [hfin]; decide)] at hlay
  have hst := (u_facts hfc hkC (u_lays hC.ts hin hf) hi).1
  have h6 := u_store hfc hkC hkind hlay hi hd hn hfit
  refine va_WputK hC.x hC.b (f := fd) hC.ow hlink (hsame _ hi) hst (by rw [q2]; exact h6) q1 q3 (by rw [hsl]; exact k2_hasslot (q4 f hf)) rfl rfl d fun H' e1 e2 e3 => ?_
  rw [hsl] at e1 ⊢
  refine kk H' _ ls (hR.set hk ?_ e3 ho) (hS.put e2 e3 (hR.ge hk)) hls
  rw [he1]
  exact ⟨_, hc, t_OB.to (V := updV (vp_V fs) f v) ⟨_, e1, q2, q3, t_set q4 hap hf v⟩ (fun j _ => vp_updV_set hl v j)⟩
/-- a final field, in its class's constructor -/
theorem v_putF {ref C : String} {T : u_T} {N ci ix : Nat} {fs : List Value} {v : Value} {ty : FieldType} (hC : Cx X G own cc nL n mc ms) (hin2 : (xk X).name = "<init>") (d : decode cc pc = .ok (.putfield ix, 3)) (hk : ok k i j) (he : enck G.2.2.1 ad k i j (σ k i j) = .inr (ci, fs)) (hc : CL[ci]? = some (C, T, N)) (hin : ∀ w ∈ u_ws C T N, w ∈ lw_good) (ty0 : Nat → FieldType) (hty : ∀ k, k < N → parseFieldDescriptor (T k).2.2.1 = some (ty0 k)) (hnm : ∀ a, a < N → ∀ b, b < N → a ≠ b → (T a).2.1 ≠ (T b).2.1) (f : Nat) (hf : f < N)
    (hlink : (Cond.fieldLink own ix ref (T f).2.1 (T f).2.2.1).before (xa X) (xs X) = true) (hsame : ∀ x, (xs X).fieldFound? (T f).1 (T f).2.1 (T f).2.2.1 = some x → (xs X).fieldFound? ref (T f).2.1 (T f).2.2.1 = some x) (hfin : (T f).2.2.2 = true) (hdecl : (T f).1 = own) (hd : parseFieldDescriptor (T f).2.2.1 = some ty) (hn : narrow ty v = v) (hfit : fits ty v = true) (hl : f < fs.length)
    (ho : ∀ k' i' j', ¬ (k' = k ∧ i' = i ∧ j' = j) → σ1 k' i' j' = σ k' i' j') (he1 : enck G.2.2.1 ad k i j (σ1 k i j) = .inr (ci, fs.set f v)) (kk : V X G kc ks ok ad σ1 l (pc + 3) st) : V X G kc ks ok ad σ l pc (v :: .ref (ad k i j) :: st) := fun H locs ls hR hS hls => by
  have hap := va_apart (own := own) hC.ts hin ty0 hty hnm hC.K hc
  obtain ⟨r, h1, cell, q1, q2, q3, q4⟩ := hR.one hk he 0 _ rfl
  have hr : r = (C, T, N) := Option.some.inj (h1.symm.trans hc)
  subst hr
  obtain ⟨hSl, hfc, kC, hkC, hkind⟩ := hC.K.1 ci _ hc
  obtain ⟨cf, kf, fi, fd, hi, hsl⟩ := hSl f hf
  have hlay := hC.ts _ (hin _ (u_in_lay hf))
  unfold u_lay at hlay
  rw [if_pos hfin] at hlay
  have hst := (u_facts hfc hkC (u_lays hC.ts hin hf) hi).1
  have hcf : (xm X).cls = cf := by
    obtain ⟨_, _, c', _, _, _, -, -, hf', -, -, -, hown2, -⟩ := Cond.laysFinal_spec hlay
    have e1 : c' = cf := by have := hi.symm.trans hf'; simp at this; exact this.1.symm
    rw [hdecl] at hown2
    rw [← e1]; exact Option.some.inj (hC.ow.symm.trans hown2)
  have h6 := u_fits hfc hkC hkind (Or.inr hlay) hi hd hn hfit
  refine W.putFinK hC.x hC.b hC.ow hlink (hsame _ hi) hst hcf hin2 (by rw [q2]; exact h6) q1 q3 (by rw [hsl]; exact k2_hasslot (q4 f hf)) rfl rfl d fun H' e1 e2 e3 => ?_
  rw [hsl] at e1 ⊢
  refine kk H' _ ls (hR.set hk ?_ e3 ho) (hS.put e2 e3 (hR.ge hk)) hls
  rw [he1]
  exact ⟨_, hc, t_OB.to (V := updV (vp_V fs) f v) ⟨_, e1, q2, q3, t_set q4 hap hf v⟩ (fun j _ => vp_updV_set hl v j)⟩
/-! arrays: reads -/
variable {N x : Nat} {c : ClassId}
theorem v_iald {f : Nat → Int32} (hC : Cx X G own cc nL n mc ms) (d : decode cc pc = .ok (.iaload, 1)) (hk : ok k i j) (he : enck G.2.2.1 ad k i j (σ k i j) = .inl (G.2.2.1 0, N, .inl f)) (hx : x < N) (hN : N < 2 ^ 31) (kk : V X G kc ks ok ad σ l (pc + 1) (.int (f x) :: st)) : V X G kc ks ok ad σ l pc (iv x :: .ref (ad k i j) :: st) := fun H locs ls hR hS hl =>
  va_iald hC.x hC.b hC.K (hR.one hk he) 0 0 rfl rfl (vp_in_nI hx hN) d (by rw [nI_clamp (Nat.lt_trans hx hN)]; exact kk H locs ls hR hS hl)
theorem v_zald {f : Nat → Int32} (hC : Cx X G own cc nL n mc ms) (d : decode cc pc = .ok (.baload, 1)) (hk : ok k i j) (he : enck G.2.2.1 ad k i j (σ k i j) = .inl (G.2.2.1 1, N, .inl f)) (hx : x < N) (hN : N < 2 ^ 31) (kk : V X G kc ks ok ad σ l (pc + 1) (.int (f x) :: st)) : V X G kc ks ok ad σ l pc (iv x :: .ref (ad k i j) :: st) := fun H locs ls hR hS hl =>
  va_zald hC.x hC.b hC.K (hR.one hk he) 0 1 rfl rfl (vp_in_nI hx hN) d (by rw [nI_clamp (Nat.lt_trans hx hN)]; exact kk H locs ls hR hS hl)
theorem v_cald {f : Nat → Int32} (hC : Cx X G own cc nL n mc ms) (d : decode cc pc = .ok (.caload, 1)) (hk : ok k i j) (he : enck G.2.2.1 ad k i j (σ k i j) = .inl (G.2.2.1 2, N, .inl f)) (hx : x < N) (hN : N < 2 ^ 31) (kk : V X G kc ks ok ad σ l (pc + 1) (.int (f x) :: st)) : V X G kc ks ok ad σ l pc (iv x :: .ref (ad k i j) :: st) := fun H locs ls hR hS hl =>
  va_cald hC.x hC.b hC.K (hR.one hk he) 0 2 rfl rfl (vp_in_nI hx hN) d (by rw [nI_clamp (Nat.lt_trans hx hN)]; exact kk H locs ls hR hS hl)
theorem v_lald {f : Nat → Int64} (hC : Cx X G own cc nL n mc ms) (d : decode cc pc = .ok (.laload, 1)) (hk : ok k i j) (he : enck G.2.2.1 ad k i j (σ k i j) = .inl (G.2.2.1 3, N, .inr (.inl f))) (hx : x < N) (hN : N < 2 ^ 31) (kk : V X G kc ks ok ad σ l (pc + 1) (.long (f x) :: st)) : V X G kc ks ok ad σ l pc (iv x :: .ref (ad k i j) :: st) := fun H locs ls hR hS hl =>
  va_lald hC.x hC.b hC.K (hR.one hk he) 0 3 rfl rfl (vp_in_nI hx hN) d (by rw [nI_clamp (Nat.lt_trans hx hN)]; exact kk H locs ls hR hS hl)
theorem v_dald {f : Nat → UInt64} (hC : Cx X G own cc nL n mc ms) (d : decode cc pc = .ok (.daload, 1)) (hk : ok k i j) (he : enck G.2.2.1 ad k i j (σ k i j) = .inl (G.2.2.1 4, N, .inr (.inr (.inr (.inl f))))) (hx : x < N) (hN : N < 2 ^ 31) (kk : V X G kc ks ok ad σ l (pc + 1) (.double (f x) :: st)) : V X G kc ks ok ad σ l pc (iv x :: .ref (ad k i j) :: st) := fun H locs ls hR hS hl =>
  va_dald hC.x hC.b hC.K (hR.one hk he) 0 4 rfl rfl (vp_in_nI hx hN) d (by rw [nI_clamp (Nat.lt_trans hx hN)]; exact kk H locs ls hR hS hl)
theorem v_aald {f : Nat → Option Nat} (t0 : Nat) {ty : FieldType} (ht : (TYS G.2.2.1)[t0]? = some (c, ty)) (hty : ty.isReference = true) (hC : Cx X G own cc nL n mc ms) (d : decode cc pc = .ok (.aaload, 1)) (hk : ok k i j) (he : enck G.2.2.1 ad k i j (σ k i j) = .inl (c, N, .inr (.inr (.inr (.inr f))))) (hx : x < N) (hN : N < 2 ^ 31) (kk : V X G kc ks ok ad σ l (pc + 1) (va_rf (f x) :: st)) : V X G kc ks ok ad σ l pc (iv x :: .ref (ad k i j) :: st) := fun H locs ls hR hS hl => by
  have hc : (nI x).toNatClampNeg = x := nI_clamp (Nat.lt_trans hx hN)
  exact W.aald (v := va_rf (f x)) (ty := ty) hC.x hC.b (hR.one hk he 0 _ rfl) ((hC.K.2 t0 _ ht).1 N (fun j => va_rf (f j))) hty (fun q => by cases q) (by show ¬ (nI x < 0 ∨ (arrV _ _ _).slots.size ≤ _); rw [arrV_size]; exact vp_in_nI hx hN) (by show (arrV _ _ _).slots[_]? = _; rw [hc, arrV_read _ _ hx]) rfl rfl d (kk H locs ls hR hS hl)
theorem v_alen {a : vp_A} (t0 : Nat) {ty : FieldType} (ht : (TYS G.2.2.1)[t0]? = some (c, ty)) (hC : Cx X G own cc nL n mc ms) (d : decode cc pc = .ok (.arraylength, 1)) (hk : ok k i j) (he : enck G.2.2.1 ad k i j (σ k i j) = .inl (c, a)) (kk : V X G kc ks ok ad σ l (pc + 1) (iv a.1 :: st)) : V X G kc ks ok ad σ l pc (.ref (ad k i j) :: st) := fun H locs ls hR hS hl =>
  va_alen hC.x hC.b hC.K (hR.one hk he) 0 t0 rfl ht rfl d (kk H locs ls hR hS hl)
/-! arrays: stores -/
theorem v_iast {f f1 : Nat → Int32} {y : Int32} (hC : Cx X G own cc nL n mc ms) (d : decode cc pc = .ok (.iastore, 1)) (hk : ok k i j) (he : enck G.2.2.1 ad k i j (σ k i j) = .inl (G.2.2.1 0, N, .inl f)) (hx : x < N) (hN : N < 2 ^ 31)
    (ho : ∀ k' i' j', ¬ (k' = k ∧ i' = i ∧ j' = j) → σ1 k' i' j' = σ k' i' j') (he1 : enck G.2.2.1 ad k i j (σ1 k i j) = .inl (G.2.2.1 0, N, .inl f1)) (hf : ∀ a, f1 a = if a = x then y else f a) (kk : V X G kc ks ok ad σ1 l (pc + 1) st) : V X G kc ks ok ad σ l pc (.int y :: iv x :: .ref (ad k i j) :: st) := fun H locs ls hR hS hl => by
  have hc : (nI x).toNatClampNeg = x := nI_clamp (Nat.lt_trans hx hN)
  refine W.iast hC.x hC.b (hR.one hk he 0 _ rfl) ((hC.K.2 0 _ rfl).1 N (fun j => .int (f j))) (fun q => by cases q) (by show ¬ (nI x < 0 ∨ (arrV _ _ _).slots.size ≤ _); rw [arrV_size]; exact vp_in_nI hx hN) rfl rfl d fun H1 e z oq => ?_
  rw [hc] at e
  exact kk H1 _ ls (hR.set hk (by rw [he1]; exact st_i e hf) oq ho) (hS.put z oq (hR.ge hk)) hl
theorem v_zast {f f1 : Nat → Int32} {y : Int32} (hC : Cx X G own cc nL n mc ms) (d : decode cc pc = .ok (.bastore, 1)) (hk : ok k i j) (he : enck G.2.2.1 ad k i j (σ k i j) = .inl (G.2.2.1 1, N, .inl f)) (hx : x < N) (hN : N < 2 ^ 31) (hy : narrow .boolean (.int y) = .int y)
    (ho : ∀ k' i' j', ¬ (k' = k ∧ i' = i ∧ j' = j) → σ1 k' i' j' = σ k' i' j') (he1 : enck G.2.2.1 ad k i j (σ1 k i j) = .inl (G.2.2.1 1, N, .inl f1)) (hf : ∀ a, f1 a = if a = x then y else f a) (kk : V X G kc ks ok ad σ1 l (pc + 1) st) : V X G kc ks ok ad σ l pc (.int y :: iv x :: .ref (ad k i j) :: st) := fun H locs ls hR hS hl => by
  have hc : (nI x).toNatClampNeg = x := nI_clamp (Nat.lt_trans hx hN)
  refine W.zast hC.x hC.b (hR.one hk he 0 _ rfl) ((hC.K.2 1 _ rfl).1 N (fun j => .int (f j))) (fun q => by cases q) (by show ¬ (nI x < 0 ∨ (arrV _ _ _).slots.size ≤ _); rw [arrV_size]; exact vp_in_nI hx hN) rfl rfl d fun H1 e z oq => ?_
  rw [hc, hy] at e
  exact kk H1 _ ls (hR.set hk (by rw [he1]; exact st_i e hf) oq ho) (hS.put z oq (hR.ge hk)) hl
theorem v_cast {f f1 : Nat → Int32} {y : Int32} (hC : Cx X G own cc nL n mc ms) (d : decode cc pc = .ok (.castore, 1)) (hk : ok k i j) (he : enck G.2.2.1 ad k i j (σ k i j) = .inl (G.2.2.1 2, N, .inl f)) (hx : x < N) (hN : N < 2 ^ 31) (hy : narrow .char (.int y) = .int y)
    (ho : ∀ k' i' j', ¬ (k' = k ∧ i' = i ∧ j' = j) → σ1 k' i' j' = σ k' i' j') (he1 : enck G.2.2.1 ad k i j (σ1 k i j) = .inl (G.2.2.1 2, N, .inl f1)) (hf : ∀ a, f1 a = if a = x then y else f a) (kk : V X G kc ks ok ad σ1 l (pc + 1) st) : V X G kc ks ok ad σ l pc (.int y :: iv x :: .ref (ad k i j) :: st) := fun H locs ls hR hS hl => by
  have hc : (nI x).toNatClampNeg = x := nI_clamp (Nat.lt_trans hx hN)
  refine W.cast hC.x hC.b (hR.one hk he 0 _ rfl) ((hC.K.2 2 _ rfl).1 N (fun j => .int (f j))) (fun q => by cases q) (by show ¬ (nI x < 0 ∨ (arrV _ _ _).slots.size ≤ _); rw [arrV_size]; exact vp_in_nI hx hN) rfl rfl d fun H1 e z oq => ?_
  rw [hc, hy] at e
  exact kk H1 _ ls (hR.set hk (by rw [he1]; exact st_i e hf) oq ho) (hS.put z oq (hR.ge hk)) hl
theorem v_last {f f1 : Nat → Int64} {y : Int64} (hC : Cx X G own cc nL n mc ms) (d : decode cc pc = .ok (.lastore, 1)) (hk : ok k i j) (he : enck G.2.2.1 ad k i j (σ k i j) = .inl (G.2.2.1 3, N, .inr (.inl f))) (hx : x < N) (hN : N < 2 ^ 31)
    (ho : ∀ k' i' j', ¬ (k' = k ∧ i' = i ∧ j' = j) → σ1 k' i' j' = σ k' i' j') (he1 : enck G.2.2.1 ad k i j (σ1 k i j) = .inl (G.2.2.1 3, N, .inr (.inl f1))) (hf : ∀ a, f1 a = if a = x then y else f a) (kk : V X G kc ks ok ad σ1 l (pc + 1) st) : V X G kc ks ok ad σ l pc (.long y :: iv x :: .ref (ad k i j) :: st) := fun H locs ls hR hS hl => by
  have hc : (nI x).toNatClampNeg = x := nI_clamp (Nat.lt_trans hx hN)
  refine W.last hC.x hC.b (hR.one hk he 0 _ rfl) ((hC.K.2 3 _ rfl).1 N (fun j => .long (f j))) (fun q => by cases q) (by show ¬ (nI x < 0 ∨ (arrV _ _ _).slots.size ≤ _); rw [arrV_size]; exact vp_in_nI hx hN) rfl rfl d fun H1 e z oq => ?_
  rw [hc] at e
  exact kk H1 _ ls (hR.set hk (by rw [he1]; exact st_l e hf) oq ho) (hS.put z oq (hR.ge hk)) hl
theorem v_dast {f f1 : Nat → UInt64} {y : UInt64} (hC : Cx X G own cc nL n mc ms) (d : decode cc pc = .ok (.dastore, 1)) (hk : ok k i j) (he : enck G.2.2.1 ad k i j (σ k i j) = .inl (G.2.2.1 4, N, .inr (.inr (.inr (.inl f))))) (hx : x < N) (hN : N < 2 ^ 31)
    (ho : ∀ k' i' j', ¬ (k' = k ∧ i' = i ∧ j' = j) → σ1 k' i' j' = σ k' i' j') (he1 : enck G.2.2.1 ad k i j (σ1 k i j) = .inl (G.2.2.1 4, N, .inr (.inr (.inr (.inl f1))))) (hf : ∀ a, f1 a = if a = x then y else f a) (kk : V X G kc ks ok ad σ1 l (pc + 1) st) : V X G kc ks ok ad σ l pc (.double y :: iv x :: .ref (ad k i j) :: st) := fun H locs ls hR hS hl => by
  have hc : (nI x).toNatClampNeg = x := nI_clamp (Nat.lt_trans hx hN)
  refine W.dast hC.x hC.b (hR.one hk he 0 _ rfl) ((hC.K.2 4 _ rfl).1 N (fun j => .double (f j))) (fun q => by cases q) (by show ¬ (nI x < 0 ∨ (arrV _ _ _).slots.size ≤ _); rw [arrV_size]; exact vp_in_nI hx hN) rfl rfl d fun H1 e z oq => ?_
  rw [hc] at e
  exact kk H1 _ ls (hR.set hk (by rw [he1]; exact st_d e hf) oq ho) (hS.put z oq (hR.ge hk)) hl
/-- null into a row of objects -/
theorem v_aastN {f f1 : Nat → Option Nat} (t0 : Nat) {E : String} (ht : (TYS G.2.2.1)[t0]? = some (c, .object E)) (hC : Cx X G own cc nL n mc ms) (d : decode cc pc = .ok (.aastore, 1)) (hk : ok k i j) (he : enck G.2.2.1 ad k i j (σ k i j) = .inl (c, N, .inr (.inr (.inr (.inr f))))) (hx : x < N) (hN : N < 2 ^ 31)
    (ho : ∀ k' i' j', ¬ (k' = k ∧ i' = i ∧ j' = j) → σ1 k' i' j' = σ k' i' j') (he1 : enck G.2.2.1 ad k i j (σ1 k i j) = .inl (c, N, .inr (.inr (.inr (.inr f1))))) (hf : ∀ a, f1 a = if a = x then none else f a) (kk : V X G kc ks ok ad σ1 l (pc + 1) st) : V X G kc ks ok ad σ l pc (.null :: iv x :: .ref (ad k i j) :: st) := fun H locs ls hR hS hl => by
  have hc : (nI x).toNatClampNeg = x := nI_clamp (Nat.lt_trans hx hN)
  refine va_WaastN (C := E) hC.x hC.b (hR.one hk he 0 _ rfl) ((hC.K.2 t0 _ ht).1 N (fun j => va_rf (f j))) (fun q => by cases q) (by show ¬ (nI x < 0 ∨ (arrV _ _ _).slots.size ≤ _); rw [arrV_size]; exact vp_in_nI hx hN) rfl rfl d fun H1 e z oq => ?_
  rw [hc] at e
  exact kk H1 _ ls (hR.set hk (by rw [he1]; exact st_q (x := none) e hf) oq ho) (hS.put z oq (hR.ge hk)) hl
/-- an object or an array that may lie in a row of E -/
theorem v_aast {f f1 : Nat → Option Nat} (t0 : Nat) {E : String} {v : Nat} (ht : (TYS G.2.2.1)[t0]? = some (c, .object E)) (hC : Cx X G own cc nL n mc ms) (d : decode cc pc = .ok (.aastore, 1)) (hk : ok k i j) (he : enck G.2.2.1 ad k i j (σ k i j) = .inl (c, N, .inr (.inr (.inr (.inr f))))) (hx : x < N) (hN : N < 2 ^ 31)
    (hr : ∀ H : Heap, Rep G ok ad σ H → va_Any E (xs X) H v)
    (ho : ∀ k' i' j', ¬ (k' = k ∧ i' = i ∧ j' = j) → σ1 k' i' j' = σ k' i' j') (he1 : enck G.2.2.1 ad k i j (σ1 k i j) = .inl (c, N, .inr (.inr (.inr (.inr f1))))) (hf : ∀ a, f1 a = if a = x then some v else f a) (kk : V X G kc ks ok ad σ1 l (pc + 1) st) : V X G kc ks ok ad σ l pc (.ref v :: iv x :: .ref (ad k i j) :: st) := fun H locs ls hR hS hl => by
  have hc : (nI x).toNatClampNeg = x := nI_clamp (Nat.lt_trans hx hN)
  obtain ⟨cellV, g1, g3, ⟨kC, hkC⟩, hasg⟩ := hr H hR
  obtain ⟨kA, comp, k1, k2, k3, -⟩ := (hC.K.2 t0 _ ht).2
  obtain ⟨kE, hkE, -⟩ := Vm.findClass_spec k3
  refine W.aast hC.x hC.b (hR.one hk he 0 _ rfl) (fun q h => by cases h) (fun h => by cases h) k1 k2 rfl hkE ⟨nI_pos (Nat.lt_trans hx hN), by show _ < (arrV _ _ _).slots.size; rw [arrV_size, hc]; exact hx⟩ g1 (fun q h => by rw [h] at g3; cases g3) hkC (hasg _ k3) rfl rfl d fun H1 e z oq => ?_
  rw [hc] at e
  exact kk H1 _ ls (hR.set hk (by rw [he1]; exact st_q (x := some v) e hf) oq ho) (hS.put z oq (hR.ge hk)) hl
/-- objects of E itself -/
theorem any_own {ci v : Nat} {fs : List Value} {r : vw_C} (hC : Cx X G own cc nL n mc ms) (hc : CL[ci]? = some r) (hk : ok k i j) (he : enck G.2.2.1 ad k i j (σ k i j) = .inr (ci, fs)) (hv : v = ad k i j) : ∀ H : Heap, Rep G ok ad σ H → va_Any r.1 (xs X) H v := fun H hR => by
  subst hv
  exact va_rAny hC.K (hR.one hk he) (q0 := 0) (ci := ci) (fs := fs) rfl hc (fun comp c0 h1 h2 => by
    have e1 := Option.some.inj (h1.symm.trans (hC.K.1 ci r hc).2.1)
    have e2 := Option.some.inj (h2.symm.trans (hC.K.1 ci r hc).2.1)
    rw [e1, e2]
    exact va_assign (hC.K.1 ci r hc).2)
end HEAP
