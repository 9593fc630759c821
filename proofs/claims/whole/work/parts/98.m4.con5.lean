/-! ===== Branchyard's constructor ===== -/
theorem ar_C : Cond.arrayClass FieldType.char ∈ lw_good := gd_at 963 (by decide +kernel) (by decide +kernel)
def K90 : KF := fun k i j => k = 90 ∧ i = 0 ∧ j = 0
theorem K90.lf : LEAF K90 := fun k i j h => by
  obtain ⟨rfl, -, -⟩ := h
  rfl
/-- the memory before: zeros; after Branchyard's constructor -/
def ZS : SG := fun k _ _ _ => if k = 41 ∨ k = 48 then 1 else 0
def Z1 : SG := fun k i j x => if k = 2 ∧ i = 0 ∧ j = 0 ∧ x < 4 then 1 else if k = 6 ∧ x = 1 then 111 else ZS k i j x
def KC : KF := fun k i j => okc k i j = true
def K5b : KF := fun k i j => (okA (okA (okA (okA (okA (okA (okA (okA (okA (okA (okA (okA (okA K90 1 0 0) 2 0 0) 3 0 0) 4 0 0) 82 500 0) 92 0 0) 13 0 0) 92 1 0) 13 1 0) 14 0 0) 15 0 0) 15 1 0) 94 0 0) k i j ∨ SX4 12 k i j
def K5 (t : Nat) : KF := fun k i j => K5b k i j ∨ ∃ c, c < t ∧ ((k = 91 ∧ i = c ∧ j = 0) ∨ SX1 c k i j)
theorem K5b.lf : LEAF K5b := fun k i j h => by
  rcases h with h | ⟨-, -, rfl | rfl⟩ | ⟨rfl, -⟩ | ⟨rfl, -⟩
  · exact (((((((((((((K90.lf.add rfl).add rfl).add rfl).add rfl).add rfl).add rfl).add rfl).add rfl).add rfl).add rfl).add rfl).add rfl).add rfl) k i j h
  · rfl
  · rfl
  · rfl
  · rfl
theorem K5.lf {t : Nat} : LEAF (K5 t) := fun k i j h => by
  rcases h with h | ⟨c, -, ⟨rfl, -⟩ | ⟨-, -, rfl | rfl | rfl⟩ | ⟨rfl, -⟩ | ⟨rfl, -⟩⟩
  · exact K5b.lf k i j h
  · rfl
  · rfl
  · rfl
  · rfl
  · rfl
  · rfl
def B90 (ad : AD) (σ : SG) : Prop := σ 90 0 0 0 = ad 1 0 0 + 1 ∧ σ 90 0 0 1 = ad 2 0 0 + 1 ∧ σ 90 0 0 2 = ad 3 0 0 + 1 ∧ σ 90 0 0 3 = ad 4 0 0 + 1 ∧ σ 90 0 0 4 = ad 82 500 0 + 1 ∧ σ 90 0 0 5 = 0 ∧ σ 90 0 0 6 = ad 92 0 0 + 1 ∧ σ 90 0 0 7 = ad 92 1 0 + 1 ∧ σ 90 0 0 8 = ad 14 0 0 + 1 ∧ σ 90 0 0 9 = ad 15 0 0 + 1 ∧ σ 90 0 0 10 = ad 15 1 0 + 1 ∧ σ 90 0 0 11 = ad 94 0 0 + 1
def B92 (i : Nat) (ad : AD) (σ : SG) : Prop := σ 92 i 0 0 = ad 13 i 0 + 1 ∧ σ 92 i 0 1 = 0
theorem B90.mono {ok : KF} {ad ad1 : AD} {σ σ1 : SG} (h : B90 ad σ) (hk : ∀ k i j, K5b k i j → ok k i j) (ha : ∀ k i j, ok k i j → ad1 k i j = ad k i j) (hs : σ1 90 0 0 = σ 90 0 0) : B90 ad1 σ1 := by
  unfold B90 at h ⊢
  rw [hs, ha 1 0 0 (hk _ _ _ (.inl (.inl (.inl (.inl (.inl (.inl (.inl (.inl (.inl (.inl (.inl (.inl (.inl (.inr ⟨rfl, rfl, rfl⟩))))))))))))))), ha 2 0 0 (hk _ _ _ (.inl (.inl (.inl (.inl (.inl (.inl (.inl (.inl (.inl (.inl (.inl (.inl (.inr ⟨rfl, rfl, rfl⟩)))))))))))))), ha 3 0 0 (hk _ _ _ (.inl (.inl (.inl (.inl (.inl (.inl (.inl (.inl (.inl (.inl (.inl (.inr ⟨rfl, rfl, rfl⟩))))))))))))), ha 4 0 0 (hk _ _ _ (.inl (.inl (.inl (.inl (.inl (.inl (.inl (.inl (.inl (.inl (.inr ⟨rfl, rfl, rfl⟩)))))))))))), ha 82 500 0 (hk _ _ _ (.inl (.inl (.inl (.inl (.inl (.inl (.inl (.inl (.inl (.inr ⟨rfl, rfl, rfl⟩))))))))))), ha 92 0 0 (hk _ _ _ (.inl (.inl (.inl (.inl (.inl (.inl (.inl (.inl (.inr ⟨rfl, rfl, rfl⟩)))))))))), ha 92 1 0 (hk _ _ _ (.inl (.inl (.inl (.inl (.inl (.inl (.inr ⟨rfl, rfl, rfl⟩)))))))), ha 14 0 0 (hk _ _ _ (.inl (.inl (.inl (.inl (.inr ⟨rfl, rfl, rfl⟩)))))), ha 15 0 0 (hk _ _ _ (.inl (.inl (.inl (.inr ⟨rfl, rfl, rfl⟩))))), ha 15 1 0 (hk _ _ _ (.inl (.inl (.inr ⟨rfl, rfl, rfl⟩)))), ha 94 0 0 (hk _ _ _ (.inl (.inr ⟨rfl, rfl, rfl⟩)))]
  exact h
theorem B92.mono {i : Nat} {ad ad1 : AD} {σ σ1 : SG} (h : B92 i ad σ) (ha : ad1 13 i 0 = ad 13 i 0) (hs : σ1 92 i 0 = σ 92 i 0) : B92 i ad1 σ1 := by
  unfold B92 at h ⊢
  rw [hs, ha]
  exact h
theorem WRK.mono {t : Nat} {ad ad1 : AD} {σ σ1 : SG} (h : WRK t ad σ) (ha : ad1 82 1700 0 = ad 82 1700 0 ∧ ad1 19 0 0 = ad 19 0 0 ∧ ad1 20 0 0 = ad 20 0 0 ∧ ∀ x, x < t → ad1 18 x 0 = ad 18 x 0) (hs : σ1 94 0 0 = σ 94 0 0) (hs2 : σ1 82 1700 0 = σ 82 1700 0) : WRK t ad1 σ1 := by
  unfold WRK at h ⊢
  rw [hs, hs2, ha.1, ha.2.1, ha.2.2.1]
  exact ⟨h.1, h.2.1, h.2.2.1, fun x hx => by rw [ha.2.2.2 x hx]; exact h.2.2.2 x hx⟩
theorem CHG.mono {c : Nat} {ad ad1 : AD} {σ σ1 : SG} (h : CHG c ad σ) (ha : ad1 7 c 0 = ad 7 c 0 ∧ ad1 8 c 0 = ad 8 c 0 ∧ ad1 9 c 0 = ad 9 c 0 ∧ ad1 82 (1000 + c) 0 = ad 82 (1000 + c) 0 ∧ ∀ x, x < 6 → ad1 11 c x = ad 11 c x) (hs : σ1 91 c 0 = σ 91 c 0) (hs2 : σ1 82 (1000 + c) 0 = σ 82 (1000 + c) 0) : CHG c ad1 σ1 := by
  unfold CHG at h ⊢
  rw [hs, hs2, ha.1, ha.2.1, ha.2.2.1, ha.2.2.2.1]
  exact ⟨h.1, h.2.1, h.2.2.1, h.2.2.2.1, fun x hx => by rw [ha.2.2.2.2 x hx]; exact h.2.2.2.2 x hx⟩
/-- t changes have been made -/
def I5 (t : Nat) (ok : KF) (ad : AD) (σ : SG) : Prop := (∀ k i j, ok k i j ↔ K5 t k i j) ∧ (∀ k i j, k < 80 → k ≠ 6 → σ k i j = Z1 k i j) ∧ B90 ad σ ∧ B92 0 ad σ ∧ B92 1 ad σ ∧ WRK 12 ad σ ∧ (σ 82 500 0 9000 = 16 ∧ σ 82 500 0 9001 = 5 ∧ ∀ x, x < t → σ 82 500 0 x = ad 91 x 0 + 1) ∧ ∀ x, x < t → CHG x ad σ
/-- final keys and raw ones -/
def fK : Nat → Nat → Nat → Nat × Nat × Nat
  | 0, i, j => (90, i, j)
  | 5, _, _ => (82, 500, 0)
  | 6, i, j => (91, i, j)
  | 10, i, _ => (82, 1000 + i, 0)
  | 12, i, j => (92, i, j)
  | 16, i, j => (94, i, j)
  | 17, _, _ => (82, 1700, 0)
  | k, i, j => (k, i, j)
def gK (q : Nat × Nat × Nat) : Nat × Nat × Nat := if q.1 = 90 then (0, q.2.1, q.2.2) else if q.1 = 91 then (6, q.2.1, q.2.2) else if q.1 = 92 then (12, q.2.1, q.2.2) else if q.1 = 94 then (16, q.2.1, q.2.2) else if q.1 = 82 then (if q.2.1 = 500 then (5, 0, 0) else if q.2.1 = 1700 then (17, 0, 0) else (10, q.2.1 - 1000, 0)) else q

theorem okc_lt {k i j : Nat} (h : okc k i j = true) : k < 21 := by
  by_cases c : k < 21
  · exact c
  · exfalso
    have : okc k i j = false := by
      unfold okc
      split <;> first | omega | rfl
    rw [this] at h
    cases h
theorem gK82 (o : Nat) (h1 : o ≠ 500) (h2 : o ≠ 1700) : gK (82, o, 0) = (10, o - 1000, 0) := by
  unfold gK
  simp [h1, h2]
theorem gK_fK {k i j : Nat} (h : okc k i j = true) : gK (fK k i j) = (k, i, j) := by
  have hk := okc_lt h
  rcases (show k = 0 ∨ k = 1 ∨ k = 2 ∨ k = 3 ∨ k = 4 ∨ k = 5 ∨ k = 6 ∨ k = 7 ∨ k = 8 ∨ k = 9 ∨ k = 10 ∨ k = 11 ∨ k = 12 ∨ k = 13 ∨ k = 14 ∨ k = 15 ∨ k = 16 ∨ k = 17 ∨ k = 18 ∨ k = 19 ∨ k = 20 by omega) with rfl | rfl | rfl | rfl | rfl | rfl | rfl | rfl | rfl | rfl | rfl | rfl | rfl | rfl | rfl | rfl | rfl | rfl | rfl | rfl | rfl
  · rfl
  · rfl
  · rfl
  · rfl
  · rfl
  · simp [okc] at h
    obtain ⟨rfl, rfl⟩ := h
    rfl
  · rfl
  · rfl
  · rfl
  · rfl
  · simp [okc] at h
    obtain ⟨h1, rfl⟩ := h
    exact (gK82 (1000 + i) (by omega) (by omega)).trans (by rw [Nat.add_sub_cancel_left])
  · rfl
  · rfl
  · rfl
  · rfl
  · rfl
  · rfl
  · simp [okc] at h
    obtain ⟨rfl, rfl⟩ := h
    rfl
  · rfl
  · rfl
  · rfl
theorem I5.key {t : Nat} {G : GT} {ok : KF} {ad : AD} {σ : SG} (h : I5 16 ok ad σ) : ∀ k i j, KC k i j → ok (fK k i j).1 (fK k i j).2.1 (fK k i j).2.2 ∧ (fun k i j => ad (fK k i j).1 (fK k i j).2.1 (fK k i j).2.2) k i j = ad (fK k i j).1 (fK k i j).2.1 (fK k i j).2.2 ∧
    ∀ H, va_at G.1 CL (ad (fK k i j).1 (fK k i j).2.1 (fK k i j).2.2, enck G.2.2.1 ad (fK k i j).1 (fK k i j).2.1 (fK k i j).2.2 (σ (fK k i j).1 (fK k i j).2.1 (fK k i j).2.2)) H → va_at G.1 CL (ad (fK k i j).1 (fK k i j).2.1 (fK k i j).2.2, enck G.2.2.1 (fun k i j => ad (fK k i j).1 (fK k i j).2.1 (fK k i j).2.2) k i j (Z1 k i j)) H := by
  obtain ⟨h1, h2, h3, h4, h5, h6, h7, h8⟩ := h
  intro k i j q
  have hk := okc_lt q
  rcases (show k = 0 ∨ k = 1 ∨ k = 2 ∨ k = 3 ∨ k = 4 ∨ k = 5 ∨ k = 6 ∨ k = 7 ∨ k = 8 ∨ k = 9 ∨ k = 10 ∨ k = 11 ∨ k = 12 ∨ k = 13 ∨ k = 14 ∨ k = 15 ∨ k = 16 ∨ k = 17 ∨ k = 18 ∨ k = 19 ∨ k = 20 by omega) with rfl | rfl | rfl | rfl | rfl | rfl | rfl | rfl | rfl | rfl | rfl | rfl | rfl | rfl | rfl | rfl | rfl | rfl | rfl | rfl | rfl
  · have q2 : i = 0 ∧ j = 0 := by simpa [KC, okc] using q
    obtain ⟨rfl, rfl⟩ := q2
    refine ⟨(h1 _ _ _).mpr (show K5 16 90 0 0 from (.inl (.inl (.inl (.inl (.inl (.inl (.inl (.inl (.inl (.inl (.inl (.inl (.inl (.inl (.inl ⟨rfl, rfl, rfl⟩)))))))))))))))), rfl, fun H hH => ?_⟩
    have hH' : va_at G.1 CL (ad 90 0 0, enck G.2.2.1 ad 90 0 0 (σ 90 0 0)) H := hH
    obtain ⟨b0, b1, b2, b3, b4, b5, b6, b7, b8, b9, b10, b11⟩ := h3
    simp only [enck, b0, b1, b2, b3, b4, b5, b6, b7, b8, b9, b10, b11] at hH'
    exact hH'
  · have q2 : i = 0 ∧ j = 0 := by simpa [KC, okc] using q
    refine ⟨(h1 _ _ _).mpr (show K5 16 1 i j from by obtain ⟨rfl, rfl⟩ := q2; exact (.inl (.inl (.inl (.inl (.inl (.inl (.inl (.inl (.inl (.inl (.inl (.inl (.inl (.inl (.inr ⟨rfl, rfl, rfl⟩)))))))))))))))), rfl, fun H hH => ?_⟩
    show va_at G.1 CL (ad 1 i j, enck G.2.2.1 _ 1 i j (Z1 1 i j)) H
    rw [← h2 1 i j (by decide) (by decide), enck_lf (ad := ad) 1 rfl]
    exact hH
  · have q2 : i = 0 ∧ j = 0 := by simpa [KC, okc] using q
    refine ⟨(h1 _ _ _).mpr (show K5 16 2 i j from by obtain ⟨rfl, rfl⟩ := q2; exact (.inl (.inl (.inl (.inl (.inl (.inl (.inl (.inl (.inl (.inl (.inl (.inl (.inl (.inr ⟨rfl, rfl, rfl⟩))))))))))))))), rfl, fun H hH => ?_⟩
    show va_at G.1 CL (ad 2 i j, enck G.2.2.1 _ 2 i j (Z1 2 i j)) H
    rw [← h2 2 i j (by decide) (by decide), enck_lf (ad := ad) 2 rfl]
    exact hH
  · have q2 : i = 0 ∧ j = 0 := by simpa [KC, okc] using q
    refine ⟨(h1 _ _ _).mpr (show K5 16 3 i j from by obtain ⟨rfl, rfl⟩ := q2; exact (.inl (.inl (.inl (.inl (.inl (.inl (.inl (.inl (.inl (.inl (.inl (.inl (.inr ⟨rfl, rfl, rfl⟩)))))))))))))), rfl, fun H hH => ?_⟩
    show va_at G.1 CL (ad 3 i j, enck G.2.2.1 _ 3 i j (Z1 3 i j)) H
    rw [← h2 3 i j (by decide) (by decide), enck_lf (ad := ad) 3 rfl]
    exact hH
  · have q2 : i = 0 ∧ j = 0 := by simpa [KC, okc] using q
    refine ⟨(h1 _ _ _).mpr (show K5 16 4 i j from by obtain ⟨rfl, rfl⟩ := q2; exact (.inl (.inl (.inl (.inl (.inl (.inl (.inl (.inl (.inl (.inl (.inl (.inr ⟨rfl, rfl, rfl⟩))))))))))))), rfl, fun H hH => ?_⟩
    show va_at G.1 CL (ad 4 i j, enck G.2.2.1 _ 4 i j (Z1 4 i j)) H
    rw [← h2 4 i j (by decide) (by decide), enck_lf (ad := ad) 4 rfl]
    exact hH
  · have q2 : i = 0 ∧ j = 0 := by simpa [KC, okc] using q
    obtain ⟨rfl, rfl⟩ := q2
    refine ⟨(h1 _ _ _).mpr (show K5 16 82 500 0 from (.inl (.inl (.inl (.inl (.inl (.inl (.inl (.inl (.inl (.inl (.inr ⟨rfl, rfl, rfl⟩)))))))))))), rfl, fun H hH => ?_⟩
    have hH' : va_at G.1 CL (ad 82 500 0, enck G.2.2.1 ad 82 500 0 (σ 82 500 0)) H := hH
    simp only [enck, h7.1, h7.2.1] at hH'
    exact at_arr (fun x hx => by rw [h7.2.2 x hx]; rfl) hH'
  · have q2 : i < 16 ∧ j = 0 := by simpa [KC, okc] using q
    obtain ⟨hi, rfl⟩ := q2
    refine ⟨(h1 _ _ _).mpr (show K5 16 91 i 0 from (.inr ⟨i, hi, .inl ⟨rfl, rfl, rfl⟩⟩)), rfl, fun H hH => ?_⟩
    have hH' : va_at G.1 CL (ad 91 i 0, enck G.2.2.1 ad 91 i 0 (σ 91 i 0)) H := hH
    obtain ⟨⟨b0, b1, b2, b3, b4⟩, ⟨b5, b6, b7, b8⟩, -⟩ := h8 i hi
    simp only [enck, b0, b1, b2, b3, b4, b5, b6, b7, b8] at hH'
    exact hH'
  · have q2 : i < 16 ∧ j = 0 := by simpa [KC, okc] using q
    refine ⟨(h1 _ _ _).mpr (show K5 16 7 i j from by obtain ⟨hi, rfl⟩ := q2; exact (.inr ⟨i, hi, .inr (.inl ⟨rfl, rfl, .inl rfl⟩)⟩)), rfl, fun H hH => ?_⟩
    show va_at G.1 CL (ad 7 i j, enck G.2.2.1 _ 7 i j (Z1 7 i j)) H
    rw [← h2 7 i j (by decide) (by decide), enck_lf (ad := ad) 7 rfl]
    exact hH
  · have q2 : i < 16 ∧ j = 0 := by simpa [KC, okc] using q
    refine ⟨(h1 _ _ _).mpr (show K5 16 8 i j from by obtain ⟨hi, rfl⟩ := q2; exact (.inr ⟨i, hi, .inr (.inl ⟨rfl, rfl, .inr (.inl rfl)⟩)⟩)), rfl, fun H hH => ?_⟩
    show va_at G.1 CL (ad 8 i j, enck G.2.2.1 _ 8 i j (Z1 8 i j)) H
    rw [← h2 8 i j (by decide) (by decide), enck_lf (ad := ad) 8 rfl]
    exact hH
  · have q2 : i < 16 ∧ j = 0 := by simpa [KC, okc] using q
    refine ⟨(h1 _ _ _).mpr (show K5 16 9 i j from by obtain ⟨hi, rfl⟩ := q2; exact (.inr ⟨i, hi, .inr (.inl ⟨rfl, rfl, .inr (.inr rfl)⟩)⟩)), rfl, fun H hH => ?_⟩
    show va_at G.1 CL (ad 9 i j, enck G.2.2.1 _ 9 i j (Z1 9 i j)) H
    rw [← h2 9 i j (by decide) (by decide), enck_lf (ad := ad) 9 rfl]
    exact hH
  · have q2 : i < 16 ∧ j = 0 := by simpa [KC, okc] using q
    obtain ⟨hi, rfl⟩ := q2
    refine ⟨(h1 _ _ _).mpr (show K5 16 82 (1000 + i) 0 from (.inr ⟨i, hi, .inr (.inr (.inr ⟨rfl, rfl, rfl⟩))⟩)), rfl, fun H hH => ?_⟩
    have hH' : va_at G.1 CL (ad 82 (1000 + i) 0, enck G.2.2.1 ad 82 (1000 + i) 0 (σ 82 (1000 + i) 0)) H := hH
    obtain ⟨-, -, b0, b1, b2⟩ := h8 i hi
    simp only [enck, b0, b1] at hH'
    exact at_arr (fun x hx => by rw [b2 x hx]; rfl) hH'
  · have q2 : i < 16 ∧ j < 6 := by simpa [KC, okc] using q
    refine ⟨(h1 _ _ _).mpr (show K5 16 11 i j from (.inr ⟨i, q2.1, .inr (.inr (.inl ⟨rfl, rfl, q2.2⟩))⟩)), rfl, fun H hH => ?_⟩
    show va_at G.1 CL (ad 11 i j, enck G.2.2.1 _ 11 i j (Z1 11 i j)) H
    rw [← h2 11 i j (by decide) (by decide), enck_lf (ad := ad) 11 rfl]
    exact hH
  · have q2 : i < 2 ∧ j = 0 := by simpa [KC, okc] using q
    obtain ⟨hi, rfl⟩ := q2
    refine ⟨(h1 _ _ _).mpr (show K5 16 92 i 0 by rcases (show i = 0 ∨ i = 1 by omega) with rfl | rfl; exact (.inl (.inl (.inl (.inl (.inl (.inl (.inl (.inl (.inl (.inr ⟨rfl, rfl, rfl⟩)))))))))); exact (.inl (.inl (.inl (.inl (.inl (.inl (.inl (.inr ⟨rfl, rfl, rfl⟩))))))))), rfl, fun H hH => ?_⟩
    have hH' : va_at G.1 CL (ad 92 i 0, enck G.2.2.1 ad 92 i 0 (σ 92 i 0)) H := hH
    have hb : B92 i ad σ := by
      rcases (show i = 0 ∨ i = 1 by omega) with rfl | rfl
      · exact h4
      · exact h5
    simp only [enck, hb.1, hb.2] at hH'
    exact hH'
  · have q2 : i < 2 ∧ j = 0 := by simpa [KC, okc] using q
    refine ⟨(h1 _ _ _).mpr (show K5 16 13 i j from by obtain ⟨hi, rfl⟩ := q2; rcases (show i = 0 ∨ i = 1 by omega) with rfl | rfl; exact (.inl (.inl (.inl (.inl (.inl (.inl (.inl (.inl (.inr ⟨rfl, rfl, rfl⟩))))))))); exact (.inl (.inl (.inl (.inl (.inl (.inl (.inr ⟨rfl, rfl, rfl⟩)))))))), rfl, fun H hH => ?_⟩
    show va_at G.1 CL (ad 13 i j, enck G.2.2.1 _ 13 i j (Z1 13 i j)) H
    rw [← h2 13 i j (by decide) (by decide), enck_lf (ad := ad) 13 rfl]
    exact hH
  · have q2 : i = 0 ∧ j = 0 := by simpa [KC, okc] using q
    refine ⟨(h1 _ _ _).mpr (show K5 16 14 i j from by obtain ⟨rfl, rfl⟩ := q2; exact (.inl (.inl (.inl (.inl (.inl (.inr ⟨rfl, rfl, rfl⟩))))))), rfl, fun H hH => ?_⟩
    show va_at G.1 CL (ad 14 i j, enck G.2.2.1 _ 14 i j (Z1 14 i j)) H
    rw [← h2 14 i j (by decide) (by decide), enck_lf (ad := ad) 14 rfl]
    exact hH
  · have q2 : i < 2 ∧ j = 0 := by simpa [KC, okc] using q
    refine ⟨(h1 _ _ _).mpr (show K5 16 15 i j from by obtain ⟨hi, rfl⟩ := q2; rcases (show i = 0 ∨ i = 1 by omega) with rfl | rfl; exact (.inl (.inl (.inl (.inl (.inr ⟨rfl, rfl, rfl⟩))))); exact (.inl (.inl (.inl (.inr ⟨rfl, rfl, rfl⟩))))), rfl, fun H hH => ?_⟩
    show va_at G.1 CL (ad 15 i j, enck G.2.2.1 _ 15 i j (Z1 15 i j)) H
    rw [← h2 15 i j (by decide) (by decide), enck_lf (ad := ad) 15 rfl]
    exact hH
  · have q2 : i = 0 ∧ j = 0 := by simpa [KC, okc] using q
    obtain ⟨rfl, rfl⟩ := q2
    refine ⟨(h1 _ _ _).mpr (show K5 16 94 0 0 from (.inl (.inl (.inr ⟨rfl, rfl, rfl⟩)))), rfl, fun H hH => ?_⟩
    have hH' : va_at G.1 CL (ad 94 0 0, enck G.2.2.1 ad 94 0 0 (σ 94 0 0)) H := hH
    obtain ⟨⟨b0, b1, b2, b3, b4, b5, b6⟩, -⟩ := h6
    simp only [enck, b0, b1, b2, b3, b4, b5, b6] at hH'
    exact hH'
  · have q2 : i = 0 ∧ j = 0 := by simpa [KC, okc] using q
    obtain ⟨rfl, rfl⟩ := q2
    refine ⟨(h1 _ _ _).mpr (show K5 16 82 1700 0 from (.inl (.inr (.inr (.inl ⟨rfl, rfl, rfl⟩))))), rfl, fun H hH => ?_⟩
    have hH' : va_at G.1 CL (ad 82 1700 0, enck G.2.2.1 ad 82 1700 0 (σ 82 1700 0)) H := hH
    obtain ⟨-, b0, b1, b2⟩ := h6
    simp only [enck, b0, b1] at hH'
    exact at_arr (fun x hx => by rw [b2 x hx]; rfl) hH'
  · have q2 : i < 12 ∧ j = 0 := by simpa [KC, okc] using q
    refine ⟨(h1 _ _ _).mpr (show K5 16 18 i j from by obtain ⟨hi, rfl⟩ := q2; exact (.inl (.inr (.inr (.inr ⟨rfl, hi, rfl⟩))))), rfl, fun H hH => ?_⟩
    show va_at G.1 CL (ad 18 i j, enck G.2.2.1 _ 18 i j (Z1 18 i j)) H
    rw [← h2 18 i j (by decide) (by decide), enck_lf (ad := ad) 18 rfl]
    exact hH
  · have q2 : i = 0 ∧ j = 0 := by simpa [KC, okc] using q
    refine ⟨(h1 _ _ _).mpr (show K5 16 19 i j from by obtain ⟨rfl, rfl⟩ := q2; exact (.inl (.inr (.inl ⟨rfl, rfl, .inl rfl⟩)))), rfl, fun H hH => ?_⟩
    show va_at G.1 CL (ad 19 i j, enck G.2.2.1 _ 19 i j (Z1 19 i j)) H
    rw [← h2 19 i j (by decide) (by decide), enck_lf (ad := ad) 19 rfl]
    exact hH
  · have q2 : i = 0 ∧ j = 0 := by simpa [KC, okc] using q
    refine ⟨(h1 _ _ _).mpr (show K5 16 20 i j from by obtain ⟨rfl, rfl⟩ := q2; exact (.inl (.inr (.inl ⟨rfl, rfl, .inr rfl⟩)))), rfl, fun H hH => ?_⟩
    show va_at G.1 CL (ad 20 i j, enck G.2.2.1 _ 20 i j (Z1 20 i j)) H
    rw [← h2 20 i j (by decide) (by decide), enck_lf (ad := ad) 20 rfl]
    exact hH
set_option maxHeartbeats 4000000 in
set_option maxRecDepth 100000 in
theorem c_X5_init {l : Launch} (hl0 : l.stackTraces = false) {G : GT} {ad : AD} (hk : K90 90 0 0) : Ct l G 2 yX5_init cX5_init 2 (none) [.ref (ad 90 0 0)] K90 ad ZS (fun v μ => v = none ∧ ∃ ad1, μ = (KC, ad1, Z1) ∧ ad1 0 0 0 = ad 90 0 0) NX 204 7897 := by
  refine Ct.mk (by decide +kernel) hl0 (Nat.le_of_ble_eq_true rfl) (fun X hX hC hM => ?_)
  subst hX
  refine v_aload_n hC dX5_init_0 rfl ?_
  refine v_objInit hC dX5_init_1 oi_X5 (Nat.le_of_ble_eq_true rfl) ?_
  refine v_aload_n hC dX5_init_4 rfl ?_
  refine v_iconst (v := nI 4) hC dX5_init_5 (by decide) ?_
  refine n_a (N := 4) (a0 := (4, .inl fun _ => nI 0)) 0 1 0 0 hC dX5_init_6 rfl ar_I rfl rfl (by decide) (by decide) (by omega) (by omega) (by simp [okA, K90]) (K90.lf.ino 1) rfl rfl rfl (fun a0 => ?_)
  refine pr_X5_9 (ad := (adA ad 1 0 0 a0)) (v := a0 + 1) (i := 0) (j := 0) hC hM.2.1 dX5_init_8 (.inl (hk)) ?_
  refine v_aload_n hC dX5_init_11 rfl ?_
  refine v_iconst (v := nI 4) hC dX5_init_12 (by decide) ?_
  refine n_a (N := 4) (a0 := (4, .inl fun _ => nI 0)) 0 2 0 0 hC dX5_init_13 rfl ar_I rfl rfl (by decide) (by decide) (by omega) (by omega) (by simp [okA, K90]) ((K90.lf.add rfl).ino 2) rfl rfl rfl (fun a1 => ?_)
  refine pr_X5_13 (ad := (adA (adA ad 1 0 0 a0) 2 0 0 a1)) (v := a1 + 1) (i := 0) (j := 0) hC hM.2.1 dX5_init_15 (.inl (.inl (hk))) ?_
  refine v_aload_n hC dX5_init_18 rfl ?_
  refine v_iconst (v := nI 4) hC dX5_init_19 (by decide) ?_
  refine n_a (N := 4) (a0 := (4, .inl fun _ => nI 0)) 1 3 0 0 hC dX5_init_20 rfl ar_Z rfl rfl (by decide) (by decide) (by omega) (by omega) (by simp [okA, K90]) (((K90.lf.add rfl).add rfl).ino 3) rfl rfl rfl (fun a2 => ?_)
  refine pr_X5_16 (ad := (adA (adA (adA ad 1 0 0 a0) 2 0 0 a1) 3 0 0 a2)) (v := a2 + 1) (i := 0) (j := 0) hC hM.2.1 dX5_init_22 (.inl (.inl (.inl (hk)))) ?_
  refine v_aload_n hC dX5_init_25 rfl ?_
  refine v_bipush (v := nI 6) hC dX5_init_26 (by decide) ?_
  refine n_a (N := 6) (a0 := (6, .inl fun _ => nI 0)) 1 4 0 0 hC dX5_init_28 rfl ar_Z rfl rfl (by decide) (by decide) (by omega) (by omega) (by simp [okA, K90]) ((((K90.lf.add rfl).add rfl).add rfl).ino 4) rfl rfl rfl (fun a3 => ?_)
  refine pr_X5_20 (ad := (adA (adA (adA (adA ad 1 0 0 a0) 2 0 0 a1) 3 0 0 a2) 4 0 0 a3)) (v := a3 + 1) (i := 0) (j := 0) hC hM.2.1 dX5_init_30 (.inl (.inl (.inl (.inl (hk))))) ?_
  refine v_aload_n hC dX5_init_33 rfl ?_
  refine v_bipush (v := nI 16) hC dX5_init_34 (by decide) ?_
  refine n_q (N := 16) 5 500 hC dX5_init_36 cw_X5_23 ao_X1 rfl (by decide) (by omega) (by omega) (by simp [okA, K90]) (fun a4 => ?_)
  refine pr_X5_25 (ad := (adA (adA (adA (adA (adA ad 1 0 0 a0) 2 0 0 a1) 3 0 0 a2) 4 0 0 a3) 82 500 0 a4)) (v := a4 + 1) (i := 0) (j := 0) hC hM.2.1 dX5_init_39 (.inl (.inl (.inl (.inl (.inl (hk)))))) ?_
  refine v_aload_n hC dX5_init_42 rfl ?_
  refine nw_X5_29 (i0 := 0) (j0 := 0) hC dX5_init_43 (by simp [okA, K90]) (by omega) (by omega) (fun a5 => ?_)
  refine v_dup hC dX5_init_46 rfl ?_
  refine v_callIN (b := a5) hC lk_X5_31 dX5_init_47 (c_X2_init (ad := (adA (adA (adA (adA (adA (adA ad 1 0 0 a0) 2 0 0 a1) 3 0 0 a2) 4 0 0 a3) 82 500 0 a4) 92 0 0 a5)) (i := 0) hl0 (.inr ⟨rfl, rfl, rfl⟩) (by simp [okA, K90]) (((((((K90.lf.add rfl).add rfl).add rfl).add rfl).add rfl).add rfl).ino 13) rfl) (by decide) (by decide) rfl rfl (Nat.le_of_ble_eq_true rfl) (by omega) (by omega) (fun v μ h => ?_) (fun _ _ h => h.elim)
  obtain ⟨rfl, a6, rfl⟩ := h
  refine v_stk (st' := [.ref a5, .ref (ad 90 0 0)]) rfl ?_
  refine pr_X5_32 (ad := (adA (adA (adA (adA (adA (adA (adA ad 1 0 0 a0) 2 0 0 a1) 3 0 0 a2) 4 0 0 a3) 82 500 0 a4) 92 0 0 a5) 13 0 0 a6)) (v := a5 + 1) (i := 0) (j := 0) hC hM.2.1 dX5_init_50 (.inl (.inl (.inl (.inl (.inl (.inl (.inl (hk)))))))) ?_
  refine v_aload_n hC dX5_init_53 rfl ?_
  refine nw_X5_29 (i0 := 1) (j0 := 0) hC dX5_init_54 (by simp [okA, K90]) (by omega) (by omega) (fun a7 => ?_)
  refine v_dup hC dX5_init_57 rfl ?_
  refine v_callIN (b := a7) hC lk_X5_31 dX5_init_58 (c_X2_init (ad := (adA (adA (adA (adA (adA (adA (adA (adA ad 1 0 0 a0) 2 0 0 a1) 3 0 0 a2) 4 0 0 a3) 82 500 0 a4) 92 0 0 a5) 13 0 0 a6) 92 1 0 a7)) (i := 1) hl0 (.inr ⟨rfl, rfl, rfl⟩) (by simp [okA, K90]) (((((((((K90.lf.add rfl).add rfl).add rfl).add rfl).add rfl).add rfl).add rfl).add rfl).ino 13) rfl) (by decide) (by decide) rfl rfl (Nat.le_of_ble_eq_true rfl) (by omega) (by omega) (fun v μ h => ?_) (fun _ _ h => h.elim)
  obtain ⟨rfl, a8, rfl⟩ := h
  refine v_stk (st' := [.ref a7, .ref (ad 90 0 0)]) rfl ?_
  refine pr_X5_36 (ad := (adA (adA (adA (adA (adA (adA (adA (adA (adA ad 1 0 0 a0) 2 0 0 a1) 3 0 0 a2) 4 0 0 a3) 82 500 0 a4) 92 0 0 a5) 13 0 0 a6) 92 1 0 a7) 13 1 0 a8)) (v := a7 + 1) (i := 0) (j := 0) hC hM.2.1 dX5_init_61 (.inl (.inl (.inl (.inl (.inl (.inl (.inl (.inl (.inl (hk)))))))))) ?_
  refine v_aload_n hC dX5_init_64 rfl ?_
  refine v_iconst (v := nI 4) hC dX5_init_65 (by decide) ?_
  refine n_a (N := 4) (a0 := (4, .inl fun _ => nI 0)) 0 14 0 0 hC dX5_init_66 rfl ar_I rfl rfl (by decide) (by decide) (by omega) (by omega) (by simp [okA, K90]) ((((((((((K90.lf.add rfl).add rfl).add rfl).add rfl).add rfl).add rfl).add rfl).add rfl).add rfl).ino 14) rfl rfl rfl (fun a9 => ?_)
  refine pr_X5_39 (ad := (adA (adA (adA (adA (adA (adA (adA (adA (adA (adA ad 1 0 0 a0) 2 0 0 a1) 3 0 0 a2) 4 0 0 a3) 82 500 0 a4) 92 0 0 a5) 13 0 0 a6) 92 1 0 a7) 13 1 0 a8) 14 0 0 a9)) (v := a9 + 1) (i := 0) (j := 0) hC hM.2.1 dX5_init_68 (.inl (.inl (.inl (.inl (.inl (.inl (.inl (.inl (.inl (.inl (hk))))))))))) ?_
  refine v_aload_n hC dX5_init_71 rfl ?_
  refine v_bipush (v := nI 64) hC dX5_init_72 (by decide) ?_
  refine n_a (N := 64) (a0 := (64, .inl fun _ => nI 0)) 0 15 0 0 hC dX5_init_74 rfl ar_I rfl rfl (by decide) (by decide) (by omega) (by omega) (by simp [okA, K90]) (((((((((((K90.lf.add rfl).add rfl).add rfl).add rfl).add rfl).add rfl).add rfl).add rfl).add rfl).add rfl).ino 15) rfl rfl rfl (fun a10 => ?_)
  refine pr_X5_42 (ad := (adA (adA (adA (adA (adA (adA (adA (adA (adA (adA (adA ad 1 0 0 a0) 2 0 0 a1) 3 0 0 a2) 4 0 0 a3) 82 500 0 a4) 92 0 0 a5) 13 0 0 a6) 92 1 0 a7) 13 1 0 a8) 14 0 0 a9) 15 0 0 a10)) (v := a10 + 1) (i := 0) (j := 0) hC hM.2.1 dX5_init_76 (.inl (.inl (.inl (.inl (.inl (.inl (.inl (.inl (.inl (.inl (.inl (hk)))))))))))) ?_
  refine v_aload_n hC dX5_init_79 rfl ?_
  refine v_bipush (v := nI 64) hC dX5_init_80 (by decide) ?_
  refine n_a (N := 64) (a0 := (64, .inl fun _ => nI 0)) 0 15 1 0 hC dX5_init_82 rfl ar_I rfl rfl (by decide) (by decide) (by omega) (by omega) (by simp [okA, K90]) ((((((((((((K90.lf.add rfl).add rfl).add rfl).add rfl).add rfl).add rfl).add rfl).add rfl).add rfl).add rfl).add rfl).ino 15) rfl rfl rfl (fun a11 => ?_)
  refine pr_X5_45 (ad := (adA (adA (adA (adA (adA (adA (adA (adA (adA (adA (adA (adA ad 1 0 0 a0) 2 0 0 a1) 3 0 0 a2) 4 0 0 a3) 82 500 0 a4) 92 0 0 a5) 13 0 0 a6) 92 1 0 a7) 13 1 0 a8) 14 0 0 a9) 15 0 0 a10) 15 1 0 a11)) (v := a11 + 1) (i := 0) (j := 0) hC hM.2.1 dX5_init_84 (.inl (.inl (.inl (.inl (.inl (.inl (.inl (.inl (.inl (.inl (.inl (.inl (hk))))))))))))) ?_
  refine v_aload_n hC dX5_init_87 rfl ?_
  refine nw_X5_48 (i0 := 0) (j0 := 0) hC dX5_init_88 (by simp [okA, K90]) (by omega) (by omega) (fun a12 => ?_)
  refine v_dup hC dX5_init_91 rfl ?_
  refine v_callIN (b := a12) hC lk_X5_50 dX5_init_92 (c_X4_init (ad := (adA (adA (adA (adA (adA (adA (adA (adA (adA (adA (adA (adA (adA ad 1 0 0 a0) 2 0 0 a1) 3 0 0 a2) 4 0 0 a3) 82 500 0 a4) 92 0 0 a5) 13 0 0 a6) 92 1 0 a7) 13 1 0 a8) 14 0 0 a9) 15 0 0 a10) 15 1 0 a11) 94 0 0 a12)) hl0 (.inr ⟨rfl, rfl, rfl⟩) (((((((((((((K90.lf.add rfl).add rfl).add rfl).add rfl).add rfl).add rfl).add rfl).add rfl).add rfl).add rfl).add rfl).add rfl).add rfl) (fun k i j hs q => by simp only [okA, K90] at q; simp only [SX4] at hs; omega) rfl rfl rfl (fun x hx => rfl)) (by decide) (by decide) rfl rfl (Nat.le_of_ble_eq_true rfl) (by omega) (by omega) (fun v μ h => ?_) (fun _ _ h => h.elim)
  obtain ⟨rfl, hF, hW⟩ := h
  obtain ⟨ok1, ad1, σ1⟩ := μ
  obtain ⟨f1, f2, f3, f4⟩ := hF
  have e90 : ad1 90 0 0 = ad 90 0 0 := f2 90 0 0 (.inl (.inl (.inl (.inl (.inl (.inl (.inl (.inl (.inl (.inl (.inl (.inl (.inl (hk))))))))))))))
  have ea : ad1 94 0 0 = a12 := f2 94 0 0 (.inr ⟨rfl, rfl, rfl⟩)
  have hk1 : ok1 90 0 0 := (f1 90 0 0).mpr (.inl (.inl (.inl (.inl (.inl (.inl (.inl (.inl (.inl (.inl (.inl (.inl (.inl (.inl (hk)))))))))))))))
  refine v_stk (st' := [va_rf (rf (ad1 94 0 0 + 1)), .ref (ad1 90 0 0)]) (by rw [e90, ea]; rfl) ?_
  refine pr_X5_51 (ad := ad1) (v := ad1 94 0 0 + 1) (i := 0) (j := 0) hC hM.2.1 dX5_init_95 hk1 ?_
  have s90 : ∀ x, x < 11 → up σ1 90 0 0 11 (ad1 94 0 0 + 1) 90 0 0 x = _ := fun x hx => (congrFun (up_row σ1 90 0 0 11 (ad1 94 0 0 + 1)) x).trans ((if_neg (by omega)).trans (congrFun (f3 90 0 0 (fun q => by simp only [SX4] at q; omega) (by omega)) x))
  have b90 : B90 ad1 (up σ1 90 0 0 11 (ad1 94 0 0 + 1)) := by
    refine ⟨(s90 0 (by decide)).trans (congrArg (· + 1) (f2 1 0 0 (.inl (.inl (.inl (.inl (.inl (.inl (.inl (.inl (.inl (.inl (.inl (.inl (.inr ⟨rfl, rfl, rfl⟩)))))))))))))).symm), (s90 1 (by decide)).trans (congrArg (· + 1) (f2 2 0 0 (.inl (.inl (.inl (.inl (.inl (.inl (.inl (.inl (.inl (.inl (.inl (.inr ⟨rfl, rfl, rfl⟩))))))))))))).symm), (s90 2 (by decide)).trans (congrArg (· + 1) (f2 3 0 0 (.inl (.inl (.inl (.inl (.inl (.inl (.inl (.inl (.inl (.inl (.inr ⟨rfl, rfl, rfl⟩)))))))))))).symm), (s90 3 (by decide)).trans (congrArg (· + 1) (f2 4 0 0 (.inl (.inl (.inl (.inl (.inl (.inl (.inl (.inl (.inl (.inr ⟨rfl, rfl, rfl⟩))))))))))).symm), (s90 4 (by decide)).trans (congrArg (· + 1) (f2 82 500 0 (.inl (.inl (.inl (.inl (.inl (.inl (.inl (.inl (.inr ⟨rfl, rfl, rfl⟩)))))))))).symm), (s90 5 (by decide)).trans rfl, (s90 6 (by decide)).trans (congrArg (· + 1) (f2 92 0 0 (.inl (.inl (.inl (.inl (.inl (.inl (.inl (.inr ⟨rfl, rfl, rfl⟩))))))))).symm), (s90 7 (by decide)).trans (congrArg (· + 1) (f2 92 1 0 (.inl (.inl (.inl (.inl (.inl (.inr ⟨rfl, rfl, rfl⟩))))))).symm), (s90 8 (by decide)).trans (congrArg (· + 1) (f2 14 0 0 (.inl (.inl (.inl (.inr ⟨rfl, rfl, rfl⟩))))).symm), (s90 9 (by decide)).trans (congrArg (· + 1) (f2 15 0 0 (.inl (.inl (.inr ⟨rfl, rfl, rfl⟩)))).symm), (s90 10 (by decide)).trans (congrArg (· + 1) (f2 15 1 0 (.inl (.inr ⟨rfl, rfl, rfl⟩))).symm), ?_⟩
    show (if _ then _ else _) = _
    rw [if_pos ⟨rfl, rfl, rfl, rfl⟩]
  have b92 : ∀ i, i < 2 → B92 i ad1 (up σ1 90 0 0 11 (ad1 94 0 0 + 1)) := fun i hi => by
    have e : up σ1 90 0 0 11 (ad1 94 0 0 + 1) 92 i 0 = _ := (up_off σ1 11 _ (fun e => absurd e.1 (by decide))).trans (f3 92 i 0 (fun q => by simp only [SX4] at q; omega) (by omega))
    rcases (show i = 0 ∨ i = 1 by omega) with rfl | rfl
    · exact ⟨(congrFun e 0).trans (congrArg (· + 1) (f2 13 0 0 (.inl (.inl (.inl (.inl (.inl (.inl (.inr ⟨rfl, rfl, rfl⟩)))))))).symm), (congrFun e 1).trans rfl⟩
    · exact ⟨(congrFun e 0).trans (congrArg (· + 1) (f2 13 1 0 (.inl (.inl (.inl (.inl (.inr ⟨rfl, rfl, rfl⟩)))))).symm), (congrFun e 1).trans rfl⟩
  have hI : (∀ k i j, ok1 k i j ↔ K5 0 k i j) := fun k i j => by
    refine (f1 k i j).trans ?_
    constructor
    · intro h
      exact .inl h
    · rintro (h | ⟨c, hc, -⟩)
      · exact h
      · exact absurd hc (by omega)
  have e82 : up σ1 90 0 0 11 (ad1 94 0 0 + 1) 82 500 0 = _ := (up_off σ1 11 _ (fun e => absurd e.1 (by decide))).trans (f3 82 500 0 (fun q => by simp only [SX4] at q; omega) (by omega))
  have hz : ∀ k i j, k < 80 → up σ1 90 0 0 11 (ad1 94 0 0 + 1) k i j = ZS k i j := fun k i j h => by
    rw [up_k80 (by decide) k i j h]
    refine (f4 k i j h).trans ?_
    dsimp only
    repeat first | rw [up_k80 (by decide) k i j h] | rw [upr_k80 (by decide) k i j h]
  have w12 : WRK 12 ad1 (up σ1 90 0 0 11 (ad1 94 0 0 + 1)) := hW.mono ⟨rfl, rfl, rfl, fun _ _ => rfl⟩ (up_off σ1 11 _ (fun e => absurd e.1 (by decide))) (up_off σ1 11 _ (fun e => absurd e.1 (by decide)))
  obtain ⟨σ2, hσ2⟩ : ∃ σ2, σ2 = up σ1 90 0 0 11 (ad1 94 0 0 + 1) := ⟨_, rfl⟩
  have q500 : σ2 82 500 0 9000 = 16 ∧ σ2 82 500 0 9001 = 5 := by
    rw [hσ2, e82]
    exact ⟨rfl, rfl⟩
  rw [← hσ2] at b90 b92 hz w12 ⊢
  refine v_iconst (v := nI 0) hC dX5_init_98 (by decide) ?_
  refine v_istore_n hC dX5_init_99 (by decide) ?_
  refine v_sub (l1 := [(0, .ref (ad1 90 0 0)), (1, iv 0)]) (by rw [e90]; rfl) ?_

  have fin : ∀ (ok : KF) (ad : AD) (σ : SG), I5 16 ok ad σ → ad 90 0 0 = ad1 90 0 0 → V X G 204 7897 ok ad σ [(0, .ref (ad1 90 0 0)), (1, iv 16)] 145 [] := fun ok ad σ hI ea => by
    refine v_rekey2 (ok' := KC) (ad' := fun k i j => ad (fK k i j).1 (fK k i j).2.1 (fK k i j).2.2) (σ' := Z1) fK (hI.key (t := 0)) (fun k i j k' i' j' q q' e => ?_) ?_
    · have e2 := congrArg gK e
      rw [gK_fK q, gK_fK q'] at e2
      injection e2 with e3 e4
      injection e4 with e5 e6
      exact ⟨e3, e5, e6⟩
    · exact v_vret hC hM dX5_init_145 (by omega) (by omega) ⟨rfl, _, rfl, ea.trans e90⟩
  have key2 : ∀ t, t ≤ 16 → ∀ (ok : KF) (ad : AD) (σ : SG), I5 t ok ad σ → ad 90 0 0 = ad1 90 0 0 → V X G (28 + t * 11) (297 + t * 475) ok ad σ [(0, .ref (ad1 90 0 0)), (1, iv t)] 120 [] := by
    refine down 16 ?_ ?_
    · intro ok ad σ hI ea
      refine v_iload_n hC dX5_init_120 rfl ?_
      refine v_bipush (v := nI 16) hC dX5_init_121 (by decide) ?_
      refine v_icmp_geN (tgt := 145) hC dX5_init_123 (by decide) (by decide) (by decide) (fun c_1 => ?_) (fun c_1 => absurd c_1 (by decide))
      exact fin ok ad σ hI ea
    · intro t ht ih ok ad σ hI ea
      obtain ⟨h1, h2, h3, h4, h5, h6, h7, h8⟩ := hI
      have hkB : ok 90 0 0 := (h1 _ _ _).mpr (.inl (.inl (.inl (.inl (.inl (.inl (.inl (.inl (.inl (.inl (.inl (.inl (.inl (.inl (.inl ⟨rfl, rfl, rfl⟩)))))))))))))))
      have hkQ : ok 82 500 0 := (h1 _ _ _).mpr (.inl (.inl (.inl (.inl (.inl (.inl (.inl (.inl (.inl (.inl (.inr ⟨rfl, rfl, rfl⟩)))))))))))
      have hn91 : ¬ ok 91 t 0 := fun q => by
        rcases (h1 _ _ _).mp q with q | ⟨c, hc, q | q⟩
        · simp only [K5b, okA, K90, SX4] at q
          omega
        · omega
        · simp only [SX1] at q
          omega
      refine v_iload_n hC dX5_init_120 rfl ?_
      refine v_bipush (v := nI 16) hC dX5_init_121 (by decide) ?_
      refine v_icmp_geN (tgt := 145) hC dX5_init_123 (by decide) (by omega) (by decide) (fun c_1 => absurd c_1 (by omega)) (fun c_1 => ?_)
      refine v_aload_n hC dX5_init_126 rfl ?_
      refine v_stk (st' := [.ref (ad 90 0 0)]) (by rw [ea]) ?_
      refine gr_X5_25 hC dX5_init_127 hkB ?_
      refine v_stk (st' := [.ref (ad 82 500 0)]) (by rw [h3.2.2.2.2.1]; rfl) ?_
      refine v_iload_n hC dX5_init_130 rfl ?_
      refine nw_X5_23 (i0 := t) (j0 := 0) hC dX5_init_131 hn91 (by omega) (by omega) (fun a => ?_)
      obtain ⟨ad2, had2⟩ : ∃ ad2, ad2 = adA ad 91 t 0 a := ⟨_, rfl⟩
      have e91 : ad2 91 t 0 = a := by rw [had2]; exact adA_self _ _ _ _ _
      have eo : ∀ k i j, ok k i j → ad2 k i j = ad k i j := fun k i j q => by
        rw [had2]
        exact adA_off _ _ (fun e => hn91 (by obtain ⟨rfl, rfl, rfl⟩ := e; exact q))
      rw [← had2]
      refine v_stk (st' := [.ref (ad2 91 t 0), iv t, .ref (ad 82 500 0)]) (by rw [e91]) ?_
      refine v_dup hC dX5_init_134 rfl ?_
      have hl2 : LEAF (okA ok 91 t 0) := LEAF.add (fun k i j q => K5.lf k i j ((h1 k i j).mp q)) rfl
      have z6 : ∀ k i j, k < 80 → k ≠ 6 → k ≠ 2 → k ≠ 41 → k ≠ 48 → upr σ 91 t 0 (fun _ => 0) k i j = fun _ => 0 := fun k i j g1 g2 g3 g4 g5 => by
        rw [upr_k80 (by decide) k i j g1, h2 k i j g1 g2]
        funext x
        unfold Z1 ZS
        rw [if_neg (by omega), if_neg (by omega), if_neg (by omega)]
      refine v_callIN hC lk_X5_55 dX5_init_135 (c_X1_init (ad := ad2) (c := t) hl0 (.inr ⟨rfl, rfl, rfl⟩) hl2 (fun k i j hs q => ?_) (upr_row _ _ _ _ _) (z6 _ _ _ (by decide) (by decide) (by decide) (by decide) (by decide)) (z6 _ _ _ (by decide) (by decide) (by decide) (by decide) (by decide)) (z6 _ _ _ (by decide) (by decide) (by decide) (by decide) (by decide)) (fun x hx => z6 _ _ _ (by decide) (by decide) (by decide) (by decide) (by decide))) (by decide) (by decide) rfl rfl (Nat.le_of_ble_eq_true rfl) (by omega) (by omega) (fun v μ h => ?_) (fun _ _ h => h.elim)
      · rcases q with q | q
        · rcases (h1 _ _ _).mp q with q | ⟨c, hc, q | q⟩
          · simp only [K5b, okA, K90, SX4] at q
            simp only [SX1] at hs
            omega
          · simp only [SX1] at hs
            omega
          · simp only [SX1] at hs q
            omega
        · simp only [SX1] at hs
          omega
      obtain ⟨rfl, hF, hCH⟩ := h
      obtain ⟨ok3, ad3, σ3⟩ := μ
      obtain ⟨g1, g2, g3, g4⟩ := hF
      have o3 : ∀ k i j, ok k i j → ad3 k i j = ad k i j := fun k i j q => (g2 k i j (.inl q)).trans (eo k i j q)
      have e91' : ad3 91 t 0 = ad2 91 t 0 := g2 91 t 0 (.inr ⟨rfl, rfl, rfl⟩)
      have kept : ∀ k i j, ¬ SX1 t k i j → ¬ (k = 91 ∧ i = t ∧ j = 0) → σ3 k i j = σ k i j := fun k i j q1 q2 => (g3 k i j q1 q2).trans (upr_off _ _ q2)
      refine v_stk (st' := [.ref (ad3 91 t 0), iv t, .ref (ad3 82 500 0)]) (by rw [e91', o3 _ _ _ hkQ]; rfl) ?_
      have k82 : σ3 82 500 0 = σ 82 500 0 := kept _ _ _ (fun q => by simp only [SX1] at q; omega) (by omega)
      refine s_q (E := "Branchyard$Change") (N := 16) (t := 5) (ci := 1) (r := (RX1, TX1, 9)) rfl hC dX5_init_138 ((g1 _ _ _).mpr (.inl (.inl hkQ))) (by show σ3 82 500 0 9000 = 16; rw [k82]; exact h7.1) (by show σ3 82 500 0 9001 = 5; rw [k82]; exact h7.2.1) ht (by decide) rfl rfl ((g1 _ _ _).mpr (.inl (.inr ⟨rfl, rfl, rfl⟩))) rfl ?_
      refine v_iincN hC dX5_init_139 rfl (by decide) ?_
      refine v_goto (tgt := 120) hC dX5_init_142 (by decide) ?_
      have ku : ∀ k i j, ¬ SX1 t k i j → ¬ (k = 91 ∧ i = t ∧ j = 0) → ¬ (k = 82 ∧ i = 500 ∧ j = 0) → up σ3 82 500 0 t (ad3 91 t 0 + 1) k i j = σ k i j := fun k i j q1 q2 q3 => (up_off _ _ _ q3).trans (kept k i j q1 q2)
      refine v_rm (by omega) (by omega) (v_sub rfl (ih ok3 ad3 (up σ3 82 500 0 t (ad3 91 t 0 + 1)) ⟨fun k i j => ?_, fun k i j q1 q2 => ?_, ?_, ?_, ?_, ?_, ⟨?_, ?_, fun x hx => ?_⟩, fun x hx => ?_⟩ ((o3 _ _ _ hkB).trans ea)))
      · refine (g1 k i j).trans ?_
        constructor
        · rintro ((q | ⟨rfl, rfl, rfl⟩) | q)
          · rcases (h1 _ _ _).mp q with q | ⟨c, hc, q⟩
            · exact .inl q
            · exact .inr ⟨c, by omega, q⟩
          · exact .inr ⟨_, Nat.lt_succ_self _, .inl ⟨rfl, rfl, rfl⟩⟩
          · exact .inr ⟨t, by omega, .inr q⟩
        · rintro (q | ⟨c, hc, q⟩)
          · exact .inl (.inl ((h1 _ _ _).mpr (.inl q)))
          · by_cases e : c = t
            · subst e
              rcases q with ⟨rfl, rfl, rfl⟩ | q
              · exact .inl (.inr ⟨rfl, rfl, rfl⟩)
              · exact .inr q
            · exact .inl (.inl ((h1 _ _ _).mpr (.inr ⟨c, by omega, q⟩)))
      · exact (up_k80 (by decide) k i j q1).trans ((g4 k i j q1).trans ((upr_k80 (by decide) k i j q1).trans (h2 k i j q1 q2)))
      · exact h3.mono (ok := ok) (fun k i j q => (h1 k i j).mpr (.inl q)) o3 (ku _ _ _ (fun q => by simp only [SX1] at q; omega) (by omega) (by omega))
      · exact h4.mono (o3 _ _ _ ((h1 _ _ _).mpr (.inl (.inl (.inl (.inl (.inl (.inl (.inl (.inl (.inr ⟨rfl, rfl, rfl⟩))))))))))) (ku _ _ _ (fun q => by simp only [SX1] at q; omega) (by omega) (by omega))
      · exact h5.mono (o3 _ _ _ ((h1 _ _ _).mpr (.inl (.inl (.inl (.inl (.inl (.inl (.inr ⟨rfl, rfl, rfl⟩))))))))) (ku _ _ _ (fun q => by simp only [SX1] at q; omega) (by omega) (by omega))
      · exact h6.mono ⟨o3 _ _ _ ((h1 _ _ _).mpr (.inl (.inr (.inr (.inl ⟨rfl, rfl, rfl⟩))))), o3 _ _ _ ((h1 _ _ _).mpr (.inl (.inr (.inl ⟨rfl, rfl, .inl rfl⟩)))), o3 _ _ _ ((h1 _ _ _).mpr (.inl (.inr (.inl ⟨rfl, rfl, .inr rfl⟩)))), fun x hx => o3 _ _ _ ((h1 _ _ _).mpr (.inl (.inr (.inr (.inr ⟨rfl, hx, rfl⟩)))))⟩ (ku _ _ _ (fun q => by simp only [SX1] at q; omega) (by omega) (by omega)) (ku _ _ _ (fun q => by simp only [SX1] at q; omega) (by omega) (by omega))
      · show (if _ then _ else _) = _
        rw [if_neg (by omega), k82]
        exact h7.1
      · show (if _ then _ else _) = _
        rw [if_neg (by omega), k82]
        exact h7.2.1
      · show (if _ then _ else _) = _
        by_cases e : x = t
        · subst e
          rw [if_pos ⟨rfl, rfl, rfl, rfl⟩]
        · rw [if_neg (fun q => e q.2.2.2), k82, h7.2.2 x (by omega), o3 91 x 0 ((h1 _ _ _).mpr (.inr ⟨x, (by omega), .inl ⟨rfl, rfl, rfl⟩⟩))]
      · by_cases e : x = t
        · subst e
          exact hCH.mono ⟨rfl, rfl, rfl, rfl, fun _ _ => rfl⟩ (up_off _ _ _ (by omega)) (up_off _ _ _ (by omega))
        · exact (h8 x (by omega)).mono ⟨o3 _ _ _ ((h1 _ _ _).mpr (.inr ⟨x, (by omega), .inr (.inl ⟨rfl, rfl, .inl rfl⟩)⟩)), o3 _ _ _ ((h1 _ _ _).mpr (.inr ⟨x, (by omega), .inr (.inl ⟨rfl, rfl, .inr (.inl rfl)⟩)⟩)), o3 _ _ _ ((h1 _ _ _).mpr (.inr ⟨x, (by omega), .inr (.inl ⟨rfl, rfl, .inr (.inr rfl)⟩)⟩)), o3 _ _ _ ((h1 _ _ _).mpr (.inr ⟨x, (by omega), .inr (.inr (.inr ⟨rfl, rfl, rfl⟩))⟩)), fun y hy => o3 _ _ _ ((h1 _ _ _).mpr (.inr ⟨x, (by omega), .inr (.inr (.inl ⟨rfl, rfl, hy⟩))⟩))⟩ (ku _ _ _ (fun q => by simp only [SX1] at q; omega) (by omega) (by omega)) (ku _ _ _ (fun q => by simp only [SX1] at q; omega) (by omega) (by omega))
  have key : ∀ t, t ≤ 4 → V X G 28 297 ok1 ad1 (upr σ2 2 0 0 (fun x => if x < t then 1 else 0)) [(0, .ref (ad1 90 0 0)), (1, iv t)] 100 [] := by
    refine down 4 ?_ ?_
    · refine v_iload_n hC dX5_init_100 rfl ?_
      refine v_iconst (v := nI 4) hC dX5_init_101 (by decide) ?_
      refine v_icmp_geN (tgt := 118) hC dX5_init_102 (by decide) (by decide) (by decide) (fun c_1 => ?_) (fun c_1 => absurd c_1 (by decide))
      refine v_iconst (v := nI 0) hC dX5_init_118 (by decide) ?_
      refine v_istore_n hC dX5_init_119 (by decide) ?_
      have uo : ∀ k i j, ¬ (k = 2 ∧ i = 0 ∧ j = 0) → upr σ2 2 0 0 (fun x => if x < 4 then 1 else 0) k i j = σ2 k i j := fun k i j h => upr_off _ _ h
      refine v_sub rfl (key2 0 (by decide) ok1 ad1 _ ⟨hI, fun k i j q1 q2 => ?_, b90.mono (fun _ _ _ q => q) (fun _ _ _ _ => rfl) (uo _ _ _ (by omega)), (b92 0 (by decide)).mono rfl (uo _ _ _ (by omega)), (b92 1 (by decide)).mono rfl (uo _ _ _ (by omega)), w12.mono ⟨rfl, rfl, rfl, fun _ _ => rfl⟩ (uo _ _ _ (by omega)) (uo _ _ _ (by omega)), ⟨?_, ?_, fun x hx => absurd hx (by omega)⟩, fun x hx => absurd hx (by omega)⟩ rfl)
      · by_cases c : k = 2 ∧ i = 0 ∧ j = 0
        · obtain ⟨rfl, rfl, rfl⟩ := c
          rw [upr_row]
          funext x
          show _ = (if 2 = 2 ∧ 0 = 0 ∧ 0 = 0 ∧ x < 4 then 1 else if 2 = 6 ∧ x = 1 then 111 else 0)
          by_cases hx : x < 4
          · rw [if_pos hx, if_pos ⟨rfl, rfl, rfl, hx⟩]
          · rw [if_neg hx, if_neg (fun q => hx q.2.2.2), if_neg (fun q => absurd q.1 (by decide))]
        · rw [uo _ _ _ c, hz k i j q1]
          funext x
          unfold Z1
          rw [if_neg (fun q => c ⟨q.1, q.2.1, q.2.2.1⟩), if_neg (fun q => q2 q.1)]
      · rw [uo _ _ _ (by omega)]; exact q500.1
      · rw [uo _ _ _ (by omega)]; exact q500.2
    · intro t ht ih
      refine v_iload_n hC dX5_init_100 rfl ?_
      refine v_iconst (v := nI 4) hC dX5_init_101 (by decide) ?_
      refine v_icmp_geN (tgt := 118) hC dX5_init_102 (by decide) (by omega) (by decide) (fun c_1 => absurd c_1 (by omega)) (fun c_1 => ?_)
      refine v_aload_n hC dX5_init_105 rfl ?_
      refine gr_X5_13 (ad := ad1) hC dX5_init_106 hk1 ?_
      refine v_stk (st' := [.ref (ad1 2 0 0)]) (by
        have e : upr σ2 2 0 0 (fun x => if x < t then 1 else 0) 90 0 0 = σ2 90 0 0 := upr_off _ _ (by omega)
        rw [e, b90.2.1]; rfl) ?_
      refine v_iload_n hC dX5_init_109 rfl ?_
      refine v_iconst (v := nI 1) hC dX5_init_110 (by decide) ?_
      refine s_i (K := 2) (N := 4) hC dX5_init_111 ((hI _ _ _).mpr (.inl (.inl (.inl (.inl (.inl (.inl (.inl (.inl (.inl (.inl (.inl (.inl (.inl (.inr ⟨rfl, rfl, rfl⟩))))))))))))))) (fun _ => rfl) ht (by decide) ?_
      refine v_iincN hC dX5_init_112 rfl (by decide) ?_
      refine v_goto (tgt := 100) hC dX5_init_115 (by decide) ?_
      have e : up (upr σ2 2 0 0 (fun x => if x < t then 1 else 0)) 2 0 0 t 1 = upr σ2 2 0 0 (fun x => if x < t + 1 then 1 else 0) := by
        rw [upr_up]
        congr 1
        funext x
        by_cases hx : x = t
        · rw [if_pos hx, if_pos (by omega)]
        · rw [if_neg hx]
          by_cases h3 : x < t
          · rw [if_pos h3, if_pos (by omega)]
          · rw [if_neg h3, if_neg (by omega)]
      rw [e]
      exact v_sub rfl ih
  have e0 : upr σ2 2 0 0 (fun x => if x < 0 then 1 else 0) = σ2 := upr_sm ((hz 2 0 0 (by decide)).trans rfl)
  have k0 := key 0 (by decide)
  rw [e0] at k0
  exact k0
