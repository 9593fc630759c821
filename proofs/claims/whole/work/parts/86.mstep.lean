theorem c_X6_tries {l : Launch} (hl0 : l.stackTraces = false) {G : GT} {s : SG} (hBs : BD s) : ∀ f, f ≤ 2 → TrM l G s f
  | 0, hf => c_X6_try hl0 hBs hf (fun _ h => by cases h)
  | f + 1, hf => c_X6_try hl0 hBs hf (fun f' h => by
    have e : f = f' := Nat.succ.inj h
    subst e
    exact @c_X6_tries l hl0 G s hBs f (by omega))
/-! ===== a step of the model ===== -/
def dyB (k x : Nat) : Bool := (k == 57 || k == 58 || k == 59 || k == 62) || (k == 30 && x == 0)
def DY (τ τ' : SG) : Prop := ∀ k i j x, dyB k x = false → τ' k i j x = τ k i j x
def nwB (k x : Nat) : Bool := mwB k x || dyB k x
/-- what a step or a revert of the model may change -/
def NW (τ τ' : SG) : Prop := ∀ k i j x, nwB k x = false → τ' k i j x = τ k i j x
theorem NW.refl (τ : SG) : NW τ τ := fun _ _ _ _ _ => rfl
theorem NW.trans {a b c : SG} (h : NW a b) (h2 : NW b c) : NW a c := fun k i j x q => (h2 k i j x q).trans (h k i j x q)
theorem MW.nw {a b : SG} (h : MW a b) : NW a b := fun k i j x q => h k i j x (Bool.or_eq_false_iff.mp q).1
theorem DY.nw {a b : SG} (h : DY a b) : NW a b := fun k i j x q => h k i j x (Bool.or_eq_false_iff.mp q).2
theorem DY.refl (τ : SG) : DY τ τ := fun _ _ _ _ _ => rfl
theorem DY.trans {a b c : SG} (h : DY a b) (h2 : DY b c) : DY a c := fun k i j x q => (h2 k i j x q).trans (h k i j x q)
theorem DY.Up {τ τ' : SG} {k i j x v : Nat} (h : DY τ τ') (hk : dyB k x = true) : DY τ (up τ' k i j x v) := fun k' i' j' x' q => by
  rw [← h k' i' j' x' q]
  show (if _ then _ else _) = _
  rw [if_neg]
  rintro ⟨rfl, -, -, rfl⟩
  rw [hk] at q
  cases q
theorem DY.Upr {τ τ' : SG} {k i j : Nat} {r : Nat → Nat} (h : DY τ τ') (hk : (k == 57 || k == 58 || k == 59 || k == 62) = true) : DY τ (upr τ' k i j r) := fun k' i' j' x' q => by
  rw [← h k' i' j' x' q]
  refine upr_k ?_
  rintro rfl
  rw [dyB, hk] at q
  cases q
theorem RM.mf {s τ τ' : SG} {A : AS} (h : RM s τ A) (hf : ∀ k i j x, mfB k x = true → τ' k i j x = τ k i j x) : RM s τ' A := by
  obtain ⟨h1, h2, h3, h4, h5, h6⟩ := h
  refine ⟨fun c hc => (hf 52 0 0 c rfl).trans (h1 c hc), fun c hc => (hf 53 0 0 c rfl).trans (h2 c hc), fun c hc x hx => (hf 43 c 0 x rfl).trans (h3 c hc x hx), ?_, ?_, fun x hx => (hf 31 0 0 x rfl).trans (h6 x hx)⟩
  · rw [← h4]
    exact lsM_eq (hf 30 0 0 3 rfl) (fun x _ => hf 50 0 0 x rfl)
  · rw [← h5]
    exact lsM_eq (hf 30 0 0 4 rfl) (fun x _ => hf 51 0 0 x rfl)
theorem dy_mf {k x : Nat} (h : mfB k x = true) : dyB k x = false := by
  simp only [mfB, Bool.or_eq_true, Bool.and_eq_true, beq_iff_eq] at h
  rcases h with (((((rfl | rfl) | rfl) | rfl) | rfl) | rfl) | ⟨rfl, rfl | rfl⟩ <;> rfl
theorem TM.dy {G : GT} {ok : KF} {ad : AD} {s τ τ' : SG} {A : AS} {e : Nat} (h : TM G ok ad s τ A e) (hB : BD τ') (hf : DY τ τ') : TM G ok ad s τ' A e := by
  obtain ⟨-, h2, h3, h4, h5, h6, h7⟩ := h
  refine ⟨hB, h2.of (fun k i j x q => hf k i j x ?_), h3.mf (fun k i j x q => hf k i j x (dy_mf q)), h4.of (by funext i j x; exact hf 54 i j x rfl) (by funext i j x; exact hf 55 i j x rfl) (by funext i j x; exact hf 56 i j x rfl), by rw [hf 30 0 0 5 rfl]; exact h5, h6, h7⟩
  simp only [smB, Bool.or_eq_true, Bool.and_eq_true, beq_iff_eq] at q
  rcases q with ((((rfl | rfl) | rfl) | rfl) | rfl) | ⟨rfl, rfl | rfl⟩ <;> rfl
theorem TM.addk {G : GT} {ok : KF} {ad : AD} {s τ : SG} {A : AS} {e k0 i0 j0 a : Nat} (h : TM G ok ad s τ A e) (h1 : dM k0 = false := by rfl) (h2 : (Nat.blt k0 80 && !(k0 == 59)) = true := by rfl) : TM G (okA ok k0 i0 j0) (adA ad k0 i0 j0 a) s τ A e :=
  ⟨h.1, h.2.1, h.2.2.1, Arr.addk (fun _ _ _ => rfl) (fun _ _ _ => rfl) (fun _ _ _ => rfl) h.2.2.2.1 h1, h.2.2.2.2.1.addk h1 h2, h.2.2.2.2.2.1, h.2.2.2.2.2.2⟩
theorem TM.delk {G : GT} {ok nk : KF} {ad na : AD} {s τ : SG} {A : AS} {e k0 i0 j0 a : Nat} (h : TM G (mxK (okA ok k0 i0 j0) nk) (mxA (adA ad k0 i0 j0 a) na) s τ A e) : TM G (mxK ok nk) (mxA ad na) s τ A e :=
  ⟨h.1, h.2.1, h.2.2.1, h.2.2.2.1, h.2.2.2.2.1.weak (fun _ _ _ q => mxK_sub q), h.2.2.2.2.2.1, h.2.2.2.2.2.2⟩
def cdR (E : String) : Nat := if E = eNSE then 1 else if E = eISE then 2 else 3
def MRes (G : GT) (ok : KF) (ad : AD) (s τ : SG) (A : AS) (e : Nat) (r : RO) (B : Nat) : Option Value → MT → Prop := fun v μ => ∃ nk na τ', μ = (mxK ok nk, mxA ad na, τ') ∧ TM G (mxK ok nk) (mxA ad na) s τ' r.2.1 (capN ((aK r.2.1).length - (aK A).length) (aK A).length e) ∧ NW τ τ' ∧ CTm τ τ' (aK A) (aK r.2.1) r.2.2 B ∧ ((∃ E, r.1 = .inl E ∧ v = some (iv 0) ∧ τ' 30 0 0 0 = cdR E) ∨ ∃ n, r.1 = .inr n ∧ v = some (iv n) ∧ τ' 30 0 0 0 = 0)
theorem pka_full {s : SG} : ∀ (q : List Nat) {b : List Nat}, 4 ≤ b.length → q.foldl (pka s) b = b
  | [], _, _ => rfl
  | c :: q, b, h => by
    rw [List.foldl_cons, show pka s b c = b from if_neg (fun z => absurd z.1 (by omega))]
    exact pka_full q h
theorem bt_lk0 (L : Nat → Nat) (n : Nat) : bt (lk L) 0 (n - 0) = (List.range n).map L := by
  unfold bt lk
  rw [Nat.sub_zero]
  exact List.map_congr_left (fun x _ => by rw [Nat.zero_add])
theorem b2n_and1 (a : Bool) : b2n a &&& 1 = b2n a := by cases a <;> rfl
theorem TM_th {G : GT} {ok : KF} {ad : AD} {s τ : SG} {A : AS} {e k : Nat} (h : TM G ok ad s τ A e) (hk : k < 5) : TM G ok ad s (th τ k) A e := h.dy (th_BD h.1 hk) ((DY.refl τ).Up rfl)
