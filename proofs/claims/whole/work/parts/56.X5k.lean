/-- what the counts of the works say behind some builds -/
def CT (σ σ' : SG) (K K' : List (List Nat)) (t B : Nat) : Prop := K.length ≤ K'.length ∧ K'.length ≤ K.length + B ∧ σ' 16 0 0 1 = σ 16 0 0 1 + (K'.length - K.length) ∧ σ' 16 0 0 2 = σ 16 0 0 2 + (K'.length - K.length) ∧ σ' 16 0 0 3 = σ 16 0 0 3 + t ∧ t ≤ B
theorem CT.trans {a b c : SG} {K K' K2 : List (List Nat)} {t t' B B' : Nat} (h : CT a b K K' t B) (h2 : CT b c K' K2 t' B') : CT a c K K2 (t + t') (B + B') := by
  obtain ⟨a1, a2, a3, a4, a5, a6⟩ := h
  obtain ⟨b1, b2, b3, b4, b5, b6⟩ := h2
  refine ⟨by omega, by omega, by omega, by omega, by omega, by omega⟩
theorem CT.wide {a b : SG} {K K' : List (List Nat)} {t B B' : Nat} (h : CT a b K K' t B) (hB : B ≤ B') : CT a b K K' t B' := by
  obtain ⟨a1, a2, a3, a4, a5, a6⟩ := h
  exact ⟨a1, by omega, a3, a4, a5, by omega⟩
theorem CT.rfl' {a b : SG} {K : List (List Nat)} {B : Nat} (h : ∀ x, b 16 0 0 x = a 16 0 0 x) : CT a b K K 0 B := ⟨Nat.le_refl _, by omega, by rw [h]; omega, by rw [h]; omega, h 3, Nat.zero_le _⟩
def TP (ok : KF) (ad : AD) (σ0 σ : SG) (A : AS) (r : Nat × AS × Nat) (B : Nat) : Option Value → MT → Prop := fun v μ => ∃ nk na σ', v = some (iv r.1) ∧ μ = (mixK ok nk, mixA ad na, σ') ∧ TS (mixK ok nk) (mixA ad na) σ0 σ' r.2.1 ∧ σ' 14 = σ 14 ∧ CT σ σ' (aK A) (aK r.2.1) r.2.2 B
theorem bt_14 {σ σ' : SG} (h : σ' 14 = σ 14) (a n : Nat) : bt σ' a n = bt σ a n := by
  unfold bt
  rw [h]
theorem bt_mem {σ : SG} {a n k : Nat} (h : k < n) : σ 14 0 0 (a + k) ∈ bt σ a n := List.mem_map.mpr ⟨k, List.mem_range.mpr h, rfl⟩
/-- the merges of a batch, one after another -/
def mgf (σ : SG) (a : Nat) : Nat → SG
  | 0 => σ
  | m + 1 => mgS (mgf σ a m) (σ 14 0 0 (a + m))
theorem mgf_14 (σ : SG) (a : Nat) : ∀ m, mgf σ a m 14 = σ 14
  | 0 => rfl
  | m + 1 => by
    funext i j x
    exact (mgS_k (by decide) (by decide) (by omega) (by decide)).trans (by rw [mgf_14 σ a m])
theorem mgf_16 (σ : SG) (a : Nat) : ∀ m x, mgf σ a m 16 0 0 x = σ 16 0 0 x
  | 0, _ => rfl
  | m + 1, x => (mgS_k (by decide) (by decide) (by omega) (by decide)).trans (mgf_16 σ a m x)
theorem fold_aK {σ : SG} : ∀ (b : List Nat) (A : AS), aK (b.foldl (mrgA σ) A) = aK A
  | [], _ => rfl
  | i :: b, A => fold_aK b (mrgA σ A i)
theorem TS_mgf {ok : KF} {ad : AD} {σ0 σ : SG} {A : AS} {a n : Nat} (hB0 : BD σ0) (h : TS ok ad σ0 σ A) (hb : BI σ0 A (bt σ a n)) : ∀ m, m ≤ n → TS ok ad σ0 (mgf σ a m) ((bt σ a m).foldl (mrgA σ0) A) := fun m => by
  induction m with
  | zero => exact fun _ => h
  | succ m ih =>
    intro hm
    have h1 := ih (by omega)
    rw [bt_s, List.foldl_append]
    refine TS_mg hB0 h1 ?_
    have hsub : BI σ0 A (bt σ a m) := hb.sub (by rw [← bt_take σ a (show m ≤ n by omega)]; exact List.take_sublist _ _)
    have hmem : σ 14 0 0 (a + m) ∈ bt σ a n := bt_mem (by omega)
    have hnm : σ 14 0 0 (a + m) ∉ bt σ a m := fun q => by
      have h3 := hb.1
      rw [show n = (m + 1) + (n - (m + 1)) by omega, bt_app, bt_s] at h3
      have h4 := (List.nodup_append.mp (List.nodup_append.mp h3).1).2.2
      exact h4 _ q _ (List.mem_singleton.mpr rfl) rfl
    exact (fold_inv h.2.2.2.2.2 hsub).2 _ (hb.2.1 _ hmem) hnm (fun x hx => hb.2.2 _ hmem x (by
      rw [← bt_take σ a (show m ≤ n by omega)] at hx
      exact (List.take_sublist _ _).subset hx) (fun q => hnm (by rw [q]; exact hx)))

