/-! ===== new ===== -/
section NEWS
variable {X : XT} {G : GT} {cc : ByteArray} {nL n mc ms : Nat} {kc ks : Nat} {ok : KF} {ad : AD} {σ : SG} {l : List (Nat × Value)} {pc : Nat} {st : List Value}
theorem nw_Jx4a65c_267 {i0 j0 : Nat} (hC : Cx X G "java/util/ArrayList" cc nL n mc ms) (d : decode cc pc = .ok (.new 267, 3)) (hn : ¬ ok 98 i0 j0)  (h1 : kc + 1 ≤ mc) (h2 : ks + 4 ≤ ms) (kk : ∀ a, V X G (kc + 1) (ks + 4) (okA ok 98 i0 j0) (adA ad 98 i0 j0 a) (upr σ 98 i0 j0 (fun _ => 0)) l (pc + 3) (.ref a :: st)) : V X G kc ks ok ad σ l pc st :=
  v_new (C := RJx35411) (T := TJx35411) (N := 4) (ci := 8) (fs := [iv 0, iv 0, iv 0, .null]) 98 i0 j0 hC d (gd_at 1202 (by decide +kernel) (by decide +kernel)) (gd_at 1203 (by decide +kernel) (by decide +kernel)) (gd_at 94 (by decide +kernel) (by decide +kernel)) gin_Jx35411 tyJx35411 tyJx35411_ok rfl
    (fun j hj => by
      rcases (show j = 0 ∨ j = 1 ∨ j = 2 ∨ j = 3 by omega) with rfl | rfl | rfl | rfl <;> rfl)
    h1 h2 hn (fun a k' i' j' _ s => enck_dyn (.inr (.inr (.inr (by decide)))) k' i' j' s) (fun k' i' j' h => upr_off _ _ h) (fun a => by rw [upr_row]; rfl) kk
theorem nw_L_8 {i0 j0 : Nat} (hC : Cx X G "BranchyardLaw" cc nL n mc ms) (d : decode cc pc = .ok (.new 8, 3)) (hn : ¬ ok 90 i0 j0)  (h1 : kc + 1 ≤ mc) (h2 : ks + 12 ≤ ms) (kk : ∀ a, V X G (kc + 1) (ks + 12) (okA ok 90 i0 j0) (adA ad 90 i0 j0 a) (upr σ 90 i0 j0 (fun _ => 0)) l (pc + 3) (.ref a :: st)) : V X G kc ks ok ad σ l pc st :=
  v_new (C := RX5) (T := TX5) (N := 12) (ci := 0) (fs := [.null, .null, .null, .null, .null, iv 0, .null, .null, .null, .null, .null, .null]) 90 i0 j0 hC d (gd_at 98 (by decide +kernel) (by decide +kernel)) (gd_at 99 (by decide +kernel) (by decide +kernel)) (gd_at 70 (by decide +kernel) (by decide +kernel)) gin_X5 tyX5 tyX5_ok rfl
    (fun j hj => by
      rcases (show j = 0 ∨ j = 1 ∨ j = 2 ∨ j = 3 ∨ j = 4 ∨ j = 5 ∨ j = 6 ∨ j = 7 ∨ j = 8 ∨ j = 9 ∨ j = 10 ∨ j = 11 by omega) with rfl | rfl | rfl | rfl | rfl | rfl | rfl | rfl | rfl | rfl | rfl | rfl <;> rfl)
    h1 h2 hn (fun a k' i' j' _ s => enck_dyn (.inr (.inr (.inr (by decide)))) k' i' j' s) (fun k' i' j' h => upr_off _ _ h) (fun a => by rw [upr_row]; rfl) kk
theorem nw_L_125 {i0 j0 : Nat} (hC : Cx X G "BranchyardLaw" cc nL n mc ms) (d : decode cc pc = .ok (.new 125, 3)) (hn : ¬ ok 96 i0 j0)  (h1 : kc + 1 ≤ mc) (h2 : ks + 26 ≤ ms) (kk : ∀ a, V X G (kc + 1) (ks + 26) (okA ok 96 i0 j0) (adA ad 96 i0 j0 a) (upr σ 96 i0 j0 (fun _ => 0)) l (pc + 3) (.ref a :: st)) : V X G kc ks ok ad σ l pc st :=
  v_new (C := RX6) (T := TX6) (N := 26) (ci := 6) (fs := [iv 0, .null, .null, .null, .null, .null, iv 0, .null, .null, .null, .null, .null, .null, .null, .null, .null, .null, .null, .null, .null, iv 0, iv 0, iv 0, iv 0, jv 0, .null]) 96 i0 j0 hC d (gd_at 921 (by decide +kernel) (by decide +kernel)) (gd_at 922 (by decide +kernel) (by decide +kernel)) (gd_at 75 (by decide +kernel) (by decide +kernel)) gin_X6 tyX6 tyX6_ok rfl
    (fun j hj => by
      rcases (show j = 0 ∨ j = 1 ∨ j = 2 ∨ j = 3 ∨ j = 4 ∨ j = 5 ∨ j = 6 ∨ j = 7 ∨ j = 8 ∨ j = 9 ∨ j = 10 ∨ j = 11 ∨ j = 12 ∨ j = 13 ∨ j = 14 ∨ j = 15 ∨ j = 16 ∨ j = 17 ∨ j = 18 ∨ j = 19 ∨ j = 20 ∨ j = 21 ∨ j = 22 ∨ j = 23 ∨ j = 24 ∨ j = 25 by omega) with rfl | rfl | rfl | rfl | rfl | rfl | rfl | rfl | rfl | rfl | rfl | rfl | rfl | rfl | rfl | rfl | rfl | rfl | rfl | rfl | rfl | rfl | rfl | rfl | rfl | rfl <;> rfl)
    h1 h2 hn (fun a k' i' j' _ s => enck_dyn (.inr (.inr (.inr (by decide)))) k' i' j' s) (fun k' i' j' h => upr_off _ _ h) (fun a => by rw [upr_row]; rfl) kk
theorem nw_X4_9 {i0 j0 : Nat} (hC : Cx X G "Branchyard$Works" cc nL n mc ms) (d : decode cc pc = .ok (.new 9, 3)) (hn : ¬ ok 18 i0 j0) (hd : ∀ a k' i' j', ok k' i' j' → ∀ s, enck G.2.2.1 (adA ad 18 i0 j0 a) k' i' j' s = enck G.2.2.1 ad k' i' j' s) (h1 : kc + 1 ≤ mc) (h2 : ks + 4 ≤ ms) (kk : ∀ a, V X G (kc + 1) (ks + 4) (okA ok 18 i0 j0) (adA ad 18 i0 j0 a) (upr σ 18 i0 j0 (fun _ => 0)) l (pc + 3) (.ref a :: st)) : V X G kc ks ok ad σ l pc st :=
  v_new (C := RX3) (T := TX3) (N := 4) (ci := 3) (fs := [iv 0, iv 0, iv 0, iv 0]) 18 i0 j0 hC d (gd_at 130 (by decide +kernel) (by decide +kernel)) (gd_at 134 (by decide +kernel) (by decide +kernel)) (gd_at 73 (by decide +kernel) (by decide +kernel)) gin_X3 tyX3 tyX3_ok rfl
    (fun j hj => by
      rcases (show j = 0 ∨ j = 1 ∨ j = 2 ∨ j = 3 by omega) with rfl | rfl | rfl | rfl <;> rfl)
    h1 h2 hn hd (fun k' i' j' h => upr_off _ _ h) (fun a => by rw [upr_row]; rfl) kk
theorem nw_X4_17 {i0 j0 : Nat} (hC : Cx X G "Branchyard$Works" cc nL n mc ms) (d : decode cc pc = .ok (.new 17, 3)) (hn : ¬ ok 95 i0 j0)  (h1 : kc + 1 ≤ mc) (h2 : ks + 3 ≤ ms) (kk : ∀ a, V X G (kc + 1) (ks + 3) (okA ok 95 i0 j0) (adA ad 95 i0 j0 a) (upr σ 95 i0 j0 (fun _ => 0)) l (pc + 3) (.ref a :: st)) : V X G kc ks ok ad σ l pc st :=
  v_new (C := RX0) (T := TX0) (N := 3) (ci := 5) (fs := [.null, iv 0, .null]) 95 i0 j0 hC d (gd_at 132 (by decide +kernel) (by decide +kernel)) (gd_at 692 (by decide +kernel) (by decide +kernel)) (gd_at 91 (by decide +kernel) (by decide +kernel)) gin_X0 tyX0 tyX0_ok rfl
    (fun j hj => by
      rcases (show j = 0 ∨ j = 1 ∨ j = 2 by omega) with rfl | rfl | rfl <;> rfl)
    h1 h2 hn (fun a k' i' j' _ s => enck_dyn (.inr (.inr (.inr (by decide)))) k' i' j' s) (fun k' i' j' h => upr_off _ _ h) (fun a => by rw [upr_row]; rfl) kk
theorem nw_X5_29 {i0 j0 : Nat} (hC : Cx X G "Branchyard" cc nL n mc ms) (d : decode cc pc = .ok (.new 29, 3)) (hn : ¬ ok 92 i0 j0)  (h1 : kc + 1 ≤ mc) (h2 : ks + 2 ≤ ms) (kk : ∀ a, V X G (kc + 1) (ks + 2) (okA ok 92 i0 j0) (adA ad 92 i0 j0 a) (upr σ 92 i0 j0 (fun _ => 0)) l (pc + 3) (.ref a :: st)) : V X G kc ks ok ad σ l pc st :=
  v_new (C := RX2) (T := TX2) (N := 2) (ci := 2) (fs := [.null, iv 0]) 92 i0 j0 hC d (gd_at 108 (by decide +kernel) (by decide +kernel)) (gd_at 109 (by decide +kernel) (by decide +kernel)) (gd_at 71 (by decide +kernel) (by decide +kernel)) gin_X2 tyX2 tyX2_ok rfl
    (fun j hj => by
      rcases (show j = 0 ∨ j = 1 by omega) with rfl | rfl <;> rfl)
    h1 h2 hn (fun a k' i' j' _ s => enck_dyn (.inr (.inr (.inr (by decide)))) k' i' j' s) (fun k' i' j' h => upr_off _ _ h) (fun a => by rw [upr_row]; rfl) kk
theorem nw_X5_48 {i0 j0 : Nat} (hC : Cx X G "Branchyard" cc nL n mc ms) (d : decode cc pc = .ok (.new 48, 3)) (hn : ¬ ok 94 i0 j0)  (h1 : kc + 1 ≤ mc) (h2 : ks + 7 ≤ ms) (kk : ∀ a, V X G (kc + 1) (ks + 7) (okA ok 94 i0 j0) (adA ad 94 i0 j0 a) (upr σ 94 i0 j0 (fun _ => 0)) l (pc + 3) (.ref a :: st)) : V X G kc ks ok ad σ l pc st :=
  v_new (C := RX4) (T := TX4) (N := 7) (ci := 4) (fs := [.null, iv 0, .null, iv 0, .null, iv 0, jv 0]) 94 i0 j0 hC d (gd_at 124 (by decide +kernel) (by decide +kernel)) (gd_at 125 (by decide +kernel) (by decide +kernel)) (gd_at 72 (by decide +kernel) (by decide +kernel)) gin_X4 tyX4 tyX4_ok rfl
    (fun j hj => by
      rcases (show j = 0 ∨ j = 1 ∨ j = 2 ∨ j = 3 ∨ j = 4 ∨ j = 5 ∨ j = 6 by omega) with rfl | rfl | rfl | rfl | rfl | rfl | rfl <;> rfl)
    h1 h2 hn (fun a k' i' j' _ s => enck_dyn (.inr (.inr (.inr (by decide)))) k' i' j' s) (fun k' i' j' h => upr_off _ _ h) (fun a => by rw [upr_row]; rfl) kk
theorem nw_X5_23 {i0 j0 : Nat} (hC : Cx X G "Branchyard" cc nL n mc ms) (d : decode cc pc = .ok (.new 23, 3)) (hn : ¬ ok 91 i0 j0)  (h1 : kc + 1 ≤ mc) (h2 : ks + 9 ≤ ms) (kk : ∀ a, V X G (kc + 1) (ks + 9) (okA ok 91 i0 j0) (adA ad 91 i0 j0 a) (upr σ 91 i0 j0 (fun _ => 0)) l (pc + 3) (.ref a :: st)) : V X G kc ks ok ad σ l pc st :=
  v_new (C := RX1) (T := TX1) (N := 9) (ci := 1) (fs := [iv 0, iv 0, iv 0, jv 0, jv 0, .null, .null, .null, .null]) 91 i0 j0 hC d (gd_at 106 (by decide +kernel) (by decide +kernel)) (gd_at 183 (by decide +kernel) (by decide +kernel)) (gd_at 74 (by decide +kernel) (by decide +kernel)) gin_X1 tyX1 tyX1_ok rfl
    (fun j hj => by
      rcases (show j = 0 ∨ j = 1 ∨ j = 2 ∨ j = 3 ∨ j = 4 ∨ j = 5 ∨ j = 6 ∨ j = 7 ∨ j = 8 by omega) with rfl | rfl | rfl | rfl | rfl | rfl | rfl | rfl | rfl <;> rfl)
    h1 h2 hn (fun a k' i' j' _ s => enck_dyn (.inr (.inr (.inr (by decide)))) k' i' j' s) (fun k' i' j' h => upr_off _ _ h) (fun a => by rw [upr_row]; rfl) kk
theorem nw_X6_82 {i0 j0 : Nat} (hC : Cx X G "BranchyardModel" cc nL n mc ms) (d : decode cc pc = .ok (.new 82, 3)) (hn : ¬ ok 97 i0 j0)  (h1 : kc + 1 ≤ mc) (h2 : ks + 3 ≤ ms) (kk : ∀ a, V X G (kc + 1) (ks + 3) (okA ok 97 i0 j0) (adA ad 97 i0 j0 a) (upr σ 97 i0 j0 (fun _ => 0)) l (pc + 3) (.ref a :: st)) : V X G kc ks ok ad σ l pc st :=
  v_new (C := RJx4a65c) (T := TJx4a65c) (N := 3) (ci := 7) (fs := [iv 0, .null, iv 0]) 97 i0 j0 hC d (gd_at 934 (by decide +kernel) (by decide +kernel)) (gd_at 935 (by decide +kernel) (by decide +kernel)) (gd_at 78 (by decide +kernel) (by decide +kernel)) gin_Jx4a65c tyJx4a65c tyJx4a65c_ok rfl
    (fun j hj => by
      rcases (show j = 0 ∨ j = 1 ∨ j = 2 by omega) with rfl | rfl | rfl <;> rfl)
    h1 h2 hn (fun a k' i' j' _ s => enck_dyn (.inr (.inr (.inr (by decide)))) k' i' j' s) (fun k' i' j' h => upr_off _ _ h) (fun a => by rw [upr_row]; rfl) kk
end NEWS
