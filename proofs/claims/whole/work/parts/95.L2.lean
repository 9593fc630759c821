def WrD (Pv : Option Value → MT → Prop) (Px : String → MT → Prop) (f : Option Value → Option UInt64) : Option Value → MT → Prop := fun v μ => (∃ E, Px E μ ∧ v = some (iv 1)) ∨ ∃ v0 z μ0, Pv v0 μ0 ∧ f v0 = some z ∧ v = some (iv 0) ∧ μ = (μ0.1, μ0.2.1, up μ0.2.2 61 0 0 0 z.toNat)
def fF : Option Value → Option UInt64
  | some (.float x) => some (FP.f2d x)
  | _ => none
def fD : Option Value → Option UInt64
  | some (.double x) => some x
  | _ => none
theorem u64_n (z : UInt64) : UInt64.ofNat z.toNat = z := by simp
theorem lkw_takenShare : LkSW "BranchyardLaw" 234 yL_takenShare cL_takenShare 3 (some .int) [(0, 8, 11, 118)] 2 := ⟨⟨by decide +kernel, by decide +kernel, by decide +kernel, by decide +kernel⟩, by decide +kernel, by decide +kernel, by decide +kernel⟩
set_option maxHeartbeats 4000000 in
theorem w_takenShare {l : Launch} (hl0 : l.stackTraces = false) {G : GT} {ok : KF} {ad : AD} {σ : SG} {Pv : Option Value → MT → Prop} {Px : String → MT → Prop} {n1 mc1 ms1 : Nat} (hM : Ct l G n1 yX5_takenShare cX5_takenShare 3 (some .float) [.ref (ad 0 0 0)] ok ad σ Pv Px mc1 ms1) (hk : ok 0 0 0) (hv : ∀ v μ, Pv v μ → (∃ x, v = some (.float x) ∧ vf_n64 (FP.f2d x)) ∧ μ.1 61 0 0 ∧ μ.2.1 61 0 0 = ad 61 0 0) (hx : ∀ E μ, Px E μ → E = eARE) : CtN l G (n1 + 1) yL_takenShare cL_takenShare 3 (some .int) [(0, 8, 11, 118)] [.ref (ad 0 0 0), .ref (ad 61 0 0)] ok ad σ (WrD Pv Px fF) mc1 ms1 := by
  refine CtN.mk (by decide +kernel) hl0 (Nat.le_of_ble_eq_true rfl) (fun X hX hC hN hM2 => ?_)
  subst hX
  refine v_aload_n hC dL_takenShare_0 rfl ?_
  refine v_iconst (v := nI 0) hC dL_takenShare_1 (by decide) ?_
  refine v_aload_n hC dL_takenShare_2 rfl ?_
  refine v_callV hC lk_L_114 dL_takenShare_3 hM (by omega) (by decide) hk rfl rfl rfl rfl (Nat.le_of_ble_eq_true rfl) (by omega) (by omega) (fun v μ h => ?_) (fun E μ h => ?_)
  · obtain ⟨⟨x, rfl, hnn⟩, h61, ha⟩ := hv v μ h
    refine v_f2d hC dL_takenShare_6 hnn ?_
    refine v_stk (st' := [.double (UInt64.ofNat (FP.f2d x).toNat), iv 0, .ref (μ.2.1 61 0 0)]) (by rw [u64_n, ha]; rfl) ?_
    refine as_61 hC dL_takenShare_7 h61 (by decide) ?_
    refine v_goto (tgt := 14) hC dL_takenShare_8 (by decide) ?_
    refine v_iconst (v := nI 0) hC dL_takenShare_14 (by decide) ?_
    refine v_iretN hC hM2 dL_takenShare_15 (by omega) (by omega) ?_
    exact .inr ⟨_, _, μ, h, rfl, rfl, rfl⟩
  · obtain rfl := hx E μ h
    refine v_catch (E := eARE) (name := eARE) hC [] { startPc := 0, endPc := 8, handlerPc := 11, catchType := 118 } [] hM2.2.1 (fun z hz => by cases hz) (by decide) (by decide) cl_L_118 ct_eARE (fun q => ?_)
    refine v_astore_n hC dL_takenShare_11 (by decide) ?_
    refine v_iconst (v := nI 1) hC dL_takenShare_12 (by decide) ?_
    refine v_iretN hC hM2 dL_takenShare_13 (by omega) (by omega) ?_
    exact .inl ⟨_, h, rfl⟩
theorem lkw_meanEdits : LkSW "BranchyardLaw" 238 yL_meanEdits cL_meanEdits 3 (some .int) [(0, 7, 10, 118)] 2 := ⟨⟨by decide +kernel, by decide +kernel, by decide +kernel, by decide +kernel⟩, by decide +kernel, by decide +kernel, by decide +kernel⟩
set_option maxHeartbeats 4000000 in
theorem w_meanEdits {l : Launch} (hl0 : l.stackTraces = false) {G : GT} {ok : KF} {ad : AD} {σ : SG} {Pv : Option Value → MT → Prop} {Px : String → MT → Prop} {n1 mc1 ms1 : Nat} (hM : Ct l G n1 yX5_meanEdits cX5_meanEdits 3 (some .double) [.ref (ad 0 0 0)] ok ad σ Pv Px mc1 ms1) (hk : ok 0 0 0) (hv : ∀ v μ, Pv v μ → (∃ x, v = some (.double x)) ∧ μ.1 61 0 0 ∧ μ.2.1 61 0 0 = ad 61 0 0) (hx : ∀ E μ, Px E μ → E = eARE) : CtN l G (n1 + 1) yL_meanEdits cL_meanEdits 3 (some .int) [(0, 7, 10, 118)] [.ref (ad 0 0 0), .ref (ad 61 0 0)] ok ad σ (WrD Pv Px fD) mc1 ms1 := by
  refine CtN.mk (by decide +kernel) hl0 (Nat.le_of_ble_eq_true rfl) (fun X hX hC hN hM2 => ?_)
  subst hX
  refine v_aload_n hC dL_meanEdits_0 rfl ?_
  refine v_iconst (v := nI 0) hC dL_meanEdits_1 (by decide) ?_
  refine v_aload_n hC dL_meanEdits_2 rfl ?_
  refine v_callV hC lk_L_120 dL_meanEdits_3 hM (by omega) (by decide) hk rfl rfl rfl rfl (Nat.le_of_ble_eq_true rfl) (by omega) (by omega) (fun v μ h => ?_) (fun E μ h => ?_)
  · obtain ⟨⟨x, rfl⟩, h61, ha⟩ := hv v μ h

    refine v_stk (st' := [.double (UInt64.ofNat (x).toNat), iv 0, .ref (μ.2.1 61 0 0)]) (by rw [u64_n, ha]; rfl) ?_
    refine as_61 hC dL_meanEdits_6 h61 (by decide) ?_
    refine v_goto (tgt := 13) hC dL_meanEdits_7 (by decide) ?_
    refine v_iconst (v := nI 0) hC dL_meanEdits_13 (by decide) ?_
    refine v_iretN hC hM2 dL_meanEdits_14 (by omega) (by omega) ?_
    exact .inr ⟨_, _, μ, h, rfl, rfl, rfl⟩
  · obtain rfl := hx E μ h
    refine v_catch (E := eARE) (name := eARE) hC [] { startPc := 0, endPc := 7, handlerPc := 10, catchType := 118 } [] hM2.2.1 (fun z hz => by cases hz) (by decide) (by decide) cl_L_118 ct_eARE (fun q => ?_)
    refine v_astore_n hC dL_meanEdits_10 (by decide) ?_
    refine v_iconst (v := nI 1) hC dL_meanEdits_11 (by decide) ?_
    refine v_iretN hC hM2 dL_meanEdits_12 (by omega) (by omega) ?_
    exact .inl ⟨_, h, rfl⟩
