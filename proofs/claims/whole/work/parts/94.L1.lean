theorem cl_L_13 : Cond.classLink "BranchyardLaw" 13 eIOB ∈ lw_good := by decide +kernel
theorem ct_eIOB : Cond.castable eIOB eIOB ∈ lw_ng := by decide +kernel
theorem cl_L_15 : Cond.classLink "BranchyardLaw" 15 eIAE ∈ lw_good := by decide +kernel
theorem ct_eIAE : Cond.castable eIAE eIAE ∈ lw_ng := by decide +kernel
theorem cl_L_25 : Cond.classLink "BranchyardLaw" 25 eISE ∈ lw_good := by decide +kernel
theorem ct_eISE : Cond.castable eISE eISE ∈ lw_ng := by decide +kernel
theorem cl_L_31 : Cond.classLink "BranchyardLaw" 31 eNSE ∈ lw_good := by decide +kernel
theorem ct_eNSE : Cond.castable eNSE eNSE ∈ lw_ng := by decide +kernel
theorem cl_L_57 : Cond.classLink "BranchyardLaw" 57 eUOE ∈ lw_good := by decide +kernel
theorem ct_eUOE : Cond.castable eUOE eUOE ∈ lw_ng := by decide +kernel
theorem cl_L_118 : Cond.classLink "BranchyardLaw" 118 eARE ∈ lw_good := by decide +kernel
theorem ct_eARE : Cond.castable eARE eARE ∈ lw_ng := by decide +kernel
def cd_setOwner : String → Nat := fun E => if E = eIOB then 1 else 2
theorem cd_setOwner_1 : cd_setOwner eIOB = 1 := by decide
theorem cd_setOwner_2 : cd_setOwner eIAE = 2 := by decide
theorem lkw_setOwner : LkSW "BranchyardLaw" 128 yL_setOwner cL_setOwner 6 (some .int) [(0, 12, 15, 13), (0, 12, 19, 15)] 5 := ⟨⟨by decide +kernel, by decide +kernel, by decide +kernel, by decide +kernel⟩, by decide +kernel, by decide +kernel, by decide +kernel⟩
set_option maxHeartbeats 4000000 in
set_option maxRecDepth 100000 in
theorem w_setOwner {l : Launch} (hl0 : l.stackTraces = false) {G : GT} {ok : KF} {ad : AD} {σ : SG} {p1 p2 p3 : Int32} {Pv : Option Value → MT → Prop} {Px : String → MT → Prop} {n1 mc1 ms1 : Nat} (hM : Ct l G n1 yX5_setOwner cX5_setOwner 5 (some .int) [.ref (ad 0 0 0), .int p1, .int p2, .int p3] ok ad σ Pv Px mc1 ms1) (hk : ok 0 0 0) (hv : ∀ v μ, Pv v μ → (∃ n, v = some (iv n)) ∧ μ.1 60 0 0 ∧ μ.2.1 60 0 0 = ad 60 0 0) (hx : ∀ E μ, Px E μ → E = eIOB ∨ E = eIAE) : CtN l G (n1 + 1) yL_setOwner cL_setOwner 6 (some .int) [(0, 12, 15, 13), (0, 12, 19, 15)] [.ref (ad 0 0 0), .int p1, .int p2, .int p3, .ref (ad 60 0 0)] ok ad σ (WrP wI cd_setOwner Pv Px) mc1 ms1 := by
  refine CtN.mk (by decide +kernel) hl0 (Nat.le_of_ble_eq_true rfl) (fun X hX hC hN hM2 => ?_)
  subst hX
  refine v_aload hC dL_setOwner_0 rfl ?_
  refine v_iconst (v := nI 0) hC dL_setOwner_2 (by decide) ?_
  refine v_aload_n hC dL_setOwner_3 rfl ?_
  refine v_iload_n hC dL_setOwner_4 rfl ?_
  refine v_iload_n hC dL_setOwner_5 rfl ?_
  refine v_iload_n hC dL_setOwner_6 rfl ?_
  refine v_callV hC lk_L_7 dL_setOwner_7 hM (by omega) (by decide) hk rfl rfl rfl rfl (Nat.le_of_ble_eq_true rfl) (by omega) (by omega) (fun v μ h => ?_) (fun E μ h => ?_)
  · obtain ⟨⟨n, rfl⟩, h60, ha⟩ := hv v μ h
    refine v_i2l (v := lN (wI n)) hC dL_setOwner_10 (lN_wN _).symm ?_
    refine v_stk (st' := [jv (wI n), iv 0, .ref (μ.2.1 60 0 0)]) (congrArg (fun z => [jv (wI n), iv 0, Value.ref z]) ha) ?_
    refine as_60 hC dL_setOwner_11 h60 (by decide) ?_
    refine v_goto (tgt := 23) hC dL_setOwner_12 (by decide) ?_
    refine v_iconst (v := nI 0) hC dL_setOwner_23 (by decide) ?_
    refine v_iretN hC hM2 dL_setOwner_24 (by omega) (by omega) ?_
    exact .inr ⟨n, μ, h, rfl, rfl⟩
  · rcases hx E μ h with rfl | rfl
    · refine v_catch (E := eIOB) (name := eIOB) hC [] { startPc := 0, endPc := 12, handlerPc := 15, catchType := 13 } [{ startPc := 0, endPc := 12, handlerPc := 19, catchType := 15 }] hM2.2.1 (fun z hz => by cases hz) (by decide) (by decide) cl_L_13 ct_eIOB (fun q => ?_)
      refine v_astore hC dL_setOwner_15 (by decide) ?_
      refine v_iconst (v := nI 1) hC dL_setOwner_17 (by decide) ?_
      refine v_iretN hC hM2 dL_setOwner_18 (by omega) (by omega) ?_
      exact .inl ⟨_, h, by rw [cd_setOwner_1]⟩
    · refine v_catch (E := eIAE) (name := eIAE) hC [{ startPc := 0, endPc := 12, handlerPc := 15, catchType := 13 }] { startPc := 0, endPc := 12, handlerPc := 19, catchType := 15 } [] hM2.2.1 (fun z hz => by
            simp only [List.mem_cons, List.not_mem_nil, or_false] at hz
            obtain rfl := hz
            · exact ⟨by decide, eIOB, cl_L_13, nc_at hN⟩) (by decide) (by decide) cl_L_15 ct_eIAE (fun q => ?_)
      refine v_astore hC dL_setOwner_19 (by decide) ?_
      refine v_iconst (v := nI 2) hC dL_setOwner_21 (by decide) ?_
      refine v_iretN hC hM2 dL_setOwner_22 (by omega) (by omega) ?_
      exact .inl ⟨_, h, by rw [cd_setOwner_2]⟩
def cd_setAway : String → Nat := fun E => 1
theorem cd_setAway_1 : cd_setAway eIAE = 1 := by decide
theorem lkw_setAway : LkSW "BranchyardLaw" 137 yL_setAway cL_setAway 5 (some .int) [(0, 17, 20, 15)] 4 := ⟨⟨by decide +kernel, by decide +kernel, by decide +kernel, by decide +kernel⟩, by decide +kernel, by decide +kernel, by decide +kernel⟩
set_option maxHeartbeats 4000000 in
set_option maxRecDepth 100000 in
theorem w_setAway {l : Launch} (hl0 : l.stackTraces = false) {G : GT} {ok : KF} {ad : AD} {σ : SG} {p1 p2 : Int32} {Pv : Option Value → MT → Prop} {Px : String → MT → Prop} {n1 mc1 ms1 : Nat} (hM : Ct l G n1 yX5_setAway cX5_setAway 4 (some .boolean) [.ref (ad 0 0 0), .int p1, .int p2] ok ad σ Pv Px mc1 ms1) (hk : ok 0 0 0) (hv : ∀ v μ, Pv v μ → (∃ n, v = some (iv n)) ∧ μ.1 60 0 0 ∧ μ.2.1 60 0 0 = ad 60 0 0) (hx : ∀ E μ, Px E μ → E = eIAE) : CtN l G (n1 + 1) yL_setAway cL_setAway 5 (some .int) [(0, 17, 20, 15)] [.ref (ad 0 0 0), .int p1, .int p2, .ref (ad 60 0 0)] ok ad σ (WrP wB cd_setAway Pv Px) mc1 ms1 := by
  refine CtN.mk (by decide +kernel) hl0 (Nat.le_of_ble_eq_true rfl) (fun X hX hC hN hM2 => ?_)
  subst hX
  refine v_aload_n hC dL_setAway_0 rfl ?_
  refine v_iconst (v := nI 0) hC dL_setAway_1 (by decide) ?_
  refine v_aload_n hC dL_setAway_2 rfl ?_
  refine v_iload_n hC dL_setAway_3 rfl ?_
  refine v_iload_n hC dL_setAway_4 rfl ?_
  refine v_callV hC lk_L_17 dL_setAway_5 hM (by omega) (by decide) hk rfl rfl rfl rfl (Nat.le_of_ble_eq_true rfl) (by omega) (by omega) (fun v μ h => ?_) (fun E μ h => ?_)
  · obtain ⟨⟨n, rfl⟩, h60, ha⟩ := hv v μ h
    refine v_if_eq (tgt := 15) hC dL_setAway_8 (by decide) (fun c => ?_) (fun c => ?_)
    · refine v_lconst (v := lN 0) hC dL_setAway_15 (by decide) ?_
      refine v_stk (st' := [jv (0), iv 0, .ref (μ.2.1 60 0 0)]) (congrArg (fun z => [jv (0), iv 0, Value.ref z]) ha) ?_
      refine as_60 hC dL_setAway_16 h60 (by decide) ?_
      refine v_goto (tgt := 24) hC dL_setAway_17 (by decide) ?_
      refine v_iconst (v := nI 0) hC dL_setAway_24 (by decide) ?_
      refine v_iretN hC hM2 dL_setAway_25 (by omega) (by omega) ?_
      exact .inr ⟨n, μ, h, rfl, by rw [show wB n = 0 from if_pos c]⟩
    · refine v_lconst (v := lN 1) hC dL_setAway_11 (by decide) ?_
      refine v_goto (tgt := 16) hC dL_setAway_12 (by decide) ?_
      refine v_stk (st' := [jv (1), iv 0, .ref (μ.2.1 60 0 0)]) (congrArg (fun z => [jv (1), iv 0, Value.ref z]) ha) ?_
      refine as_60 hC dL_setAway_16 h60 (by decide) ?_
      refine v_goto (tgt := 24) hC dL_setAway_17 (by decide) ?_
      refine v_iconst (v := nI 0) hC dL_setAway_24 (by decide) ?_
      refine v_iretN hC hM2 dL_setAway_25 (by omega) (by omega) ?_
      exact .inr ⟨n, μ, h, rfl, by rw [show wB n = 1 from if_neg c]⟩
  · obtain rfl := hx E μ h
    refine v_catch (E := eIAE) (name := eIAE) hC [] { startPc := 0, endPc := 17, handlerPc := 20, catchType := 15 } [] hM2.2.1 (fun z hz => by cases hz) (by decide) (by decide) cl_L_15 ct_eIAE (fun q => ?_)
    refine v_astore hC dL_setAway_20 (by decide) ?_
    refine v_iconst (v := nI 1) hC dL_setAway_22 (by decide) ?_
    refine v_iretN hC hM2 dL_setAway_23 (by omega) (by omega) ?_
    exact .inl ⟨_, h, by rw [cd_setAway_1]⟩
def cd_open : String → Nat := fun E => if E = eIAE then 1 else 2
theorem cd_open_1 : cd_open eIAE = 1 := by decide
theorem cd_open_2 : cd_open eISE = 2 := by decide
theorem lkw_open : LkSW "BranchyardLaw" 141 yL_open cL_open 4 (some .int) [(0, 9, 12, 15), (0, 9, 15, 25)] 3 := ⟨⟨by decide +kernel, by decide +kernel, by decide +kernel, by decide +kernel⟩, by decide +kernel, by decide +kernel, by decide +kernel⟩
set_option maxHeartbeats 4000000 in
set_option maxRecDepth 100000 in
theorem w_open {l : Launch} (hl0 : l.stackTraces = false) {G : GT} {ok : KF} {ad : AD} {σ : SG} {p1 : Int32} {Pv : Option Value → MT → Prop} {Px : String → MT → Prop} {n1 mc1 ms1 : Nat} (hM : Ct l G n1 yX5_open cX5_open 3 (some .int) [.ref (ad 0 0 0), .int p1] ok ad σ Pv Px mc1 ms1) (hk : ok 0 0 0) (hv : ∀ v μ, Pv v μ → (∃ n, v = some (iv n)) ∧ μ.1 60 0 0 ∧ μ.2.1 60 0 0 = ad 60 0 0) (hx : ∀ E μ, Px E μ → E = eIAE ∨ E = eISE) : CtN l G (n1 + 1) yL_open cL_open 4 (some .int) [(0, 9, 12, 15), (0, 9, 15, 25)] [.ref (ad 0 0 0), .int p1, .ref (ad 60 0 0)] ok ad σ (WrP wI cd_open Pv Px) mc1 ms1 := by
  refine CtN.mk (by decide +kernel) hl0 (Nat.le_of_ble_eq_true rfl) (fun X hX hC hN hM2 => ?_)
  subst hX
  refine v_aload_n hC dL_open_0 rfl ?_
  refine v_iconst (v := nI 0) hC dL_open_1 (by decide) ?_
  refine v_aload_n hC dL_open_2 rfl ?_
  refine v_iload_n hC dL_open_3 rfl ?_
  refine v_callV hC lk_L_21 dL_open_4 hM (by omega) (by decide) hk rfl rfl rfl rfl (Nat.le_of_ble_eq_true rfl) (by omega) (by omega) (fun v μ h => ?_) (fun E μ h => ?_)
  · obtain ⟨⟨n, rfl⟩, h60, ha⟩ := hv v μ h
    refine v_i2l (v := lN (wI n)) hC dL_open_7 (lN_wN _).symm ?_
    refine v_stk (st' := [jv (wI n), iv 0, .ref (μ.2.1 60 0 0)]) (congrArg (fun z => [jv (wI n), iv 0, Value.ref z]) ha) ?_
    refine as_60 hC dL_open_8 h60 (by decide) ?_
    refine v_goto (tgt := 18) hC dL_open_9 (by decide) ?_
    refine v_iconst (v := nI 0) hC dL_open_18 (by decide) ?_
    refine v_iretN hC hM2 dL_open_19 (by omega) (by omega) ?_
    exact .inr ⟨n, μ, h, rfl, rfl⟩
  · rcases hx E μ h with rfl | rfl
    · refine v_catch (E := eIAE) (name := eIAE) hC [] { startPc := 0, endPc := 9, handlerPc := 12, catchType := 15 } [{ startPc := 0, endPc := 9, handlerPc := 15, catchType := 25 }] hM2.2.1 (fun z hz => by cases hz) (by decide) (by decide) cl_L_15 ct_eIAE (fun q => ?_)
      refine v_astore_n hC dL_open_12 (by decide) ?_
      refine v_iconst (v := nI 1) hC dL_open_13 (by decide) ?_
      refine v_iretN hC hM2 dL_open_14 (by omega) (by omega) ?_
      exact .inl ⟨_, h, by rw [cd_open_1]⟩
    · refine v_catch (E := eISE) (name := eISE) hC [{ startPc := 0, endPc := 9, handlerPc := 12, catchType := 15 }] { startPc := 0, endPc := 9, handlerPc := 15, catchType := 25 } [] hM2.2.1 (fun z hz => by
            simp only [List.mem_cons, List.not_mem_nil, or_false] at hz
            obtain rfl := hz
            · exact ⟨by decide, eIAE, cl_L_15, nc_at hN⟩) (by decide) (by decide) cl_L_25 ct_eISE (fun q => ?_)
      refine v_astore_n hC dL_open_15 (by decide) ?_
      refine v_iconst (v := nI 2) hC dL_open_16 (by decide) ?_
      refine v_iretN hC hM2 dL_open_17 (by omega) (by omega) ?_
      exact .inl ⟨_, h, by rw [cd_open_2]⟩
def cd_edit : String → Nat := fun E => if E = eNSE then 1 else if E = eIOB then 2 else if E = eIAE then 3 else 4
theorem cd_edit_1 : cd_edit eNSE = 1 := by decide
theorem cd_edit_2 : cd_edit eIOB = 2 := by decide
theorem cd_edit_3 : cd_edit eIAE = 3 := by decide
theorem cd_edit_4 : cd_edit eISE = 4 := by decide
theorem lkw_edit : LkSW "BranchyardLaw" 145 yL_edit cL_edit 7 (some .int) [(0, 14, 17, 31), (0, 14, 21, 13), (0, 14, 25, 15), (0, 14, 29, 25)] 6 := ⟨⟨by decide +kernel, by decide +kernel, by decide +kernel, by decide +kernel⟩, by decide +kernel, by decide +kernel, by decide +kernel⟩
set_option maxHeartbeats 4000000 in
set_option maxRecDepth 100000 in
theorem w_edit {l : Launch} (hl0 : l.stackTraces = false) {G : GT} {ok : KF} {ad : AD} {σ : SG} {p1 p2 p3 p4 : Int32} {Pv : Option Value → MT → Prop} {Px : String → MT → Prop} {n1 mc1 ms1 : Nat} (hM : Ct l G n1 yX5_edit cX5_edit 7 (some .int) [.ref (ad 0 0 0), .int p1, .int p2, .int p3, .int p4] ok ad σ Pv Px mc1 ms1) (hk : ok 0 0 0) (hv : ∀ v μ, Pv v μ → (∃ n, v = some (iv n)) ∧ μ.1 60 0 0 ∧ μ.2.1 60 0 0 = ad 60 0 0) (hx : ∀ E μ, Px E μ → E = eNSE ∨ E = eIOB ∨ E = eIAE ∨ E = eISE) : CtN l G (n1 + 1) yL_edit cL_edit 7 (some .int) [(0, 14, 17, 31), (0, 14, 21, 13), (0, 14, 25, 15), (0, 14, 29, 25)] [.ref (ad 0 0 0), .int p1, .int p2, .int p3, .int p4, .ref (ad 60 0 0)] ok ad σ (WrP wI cd_edit Pv Px) mc1 ms1 := by
  refine CtN.mk (by decide +kernel) hl0 (Nat.le_of_ble_eq_true rfl) (fun X hX hC hN hM2 => ?_)
  subst hX
  refine v_aload hC dL_edit_0 rfl ?_
  refine v_iconst (v := nI 0) hC dL_edit_2 (by decide) ?_
  refine v_aload_n hC dL_edit_3 rfl ?_
  refine v_iload_n hC dL_edit_4 rfl ?_
  refine v_iload_n hC dL_edit_5 rfl ?_
  refine v_iload_n hC dL_edit_6 rfl ?_
  refine v_iload hC dL_edit_7 rfl ?_
  refine v_callV hC lk_L_27 dL_edit_9 hM (by omega) (by decide) hk rfl rfl rfl rfl (Nat.le_of_ble_eq_true rfl) (by omega) (by omega) (fun v μ h => ?_) (fun E μ h => ?_)
  · obtain ⟨⟨n, rfl⟩, h60, ha⟩ := hv v μ h
    refine v_i2l (v := lN (wI n)) hC dL_edit_12 (lN_wN _).symm ?_
    refine v_stk (st' := [jv (wI n), iv 0, .ref (μ.2.1 60 0 0)]) (congrArg (fun z => [jv (wI n), iv 0, Value.ref z]) ha) ?_
    refine as_60 hC dL_edit_13 h60 (by decide) ?_
    refine v_goto (tgt := 33) hC dL_edit_14 (by decide) ?_
    refine v_iconst (v := nI 0) hC dL_edit_33 (by decide) ?_
    refine v_iretN hC hM2 dL_edit_34 (by omega) (by omega) ?_
    exact .inr ⟨n, μ, h, rfl, rfl⟩
  · rcases hx E μ h with rfl | rfl | rfl | rfl
    · refine v_catch (E := eNSE) (name := eNSE) hC [] { startPc := 0, endPc := 14, handlerPc := 17, catchType := 31 } [{ startPc := 0, endPc := 14, handlerPc := 21, catchType := 13 }, { startPc := 0, endPc := 14, handlerPc := 25, catchType := 15 }, { startPc := 0, endPc := 14, handlerPc := 29, catchType := 25 }] hM2.2.1 (fun z hz => by cases hz) (by decide) (by decide) cl_L_31 ct_eNSE (fun q => ?_)
      refine v_astore hC dL_edit_17 (by decide) ?_
      refine v_iconst (v := nI 1) hC dL_edit_19 (by decide) ?_
      refine v_iretN hC hM2 dL_edit_20 (by omega) (by omega) ?_
      exact .inl ⟨_, h, by rw [cd_edit_1]⟩
    · refine v_catch (E := eIOB) (name := eIOB) hC [{ startPc := 0, endPc := 14, handlerPc := 17, catchType := 31 }] { startPc := 0, endPc := 14, handlerPc := 21, catchType := 13 } [{ startPc := 0, endPc := 14, handlerPc := 25, catchType := 15 }, { startPc := 0, endPc := 14, handlerPc := 29, catchType := 25 }] hM2.2.1 (fun z hz => by
            simp only [List.mem_cons, List.not_mem_nil, or_false] at hz
            obtain rfl := hz
            · exact ⟨by decide, eNSE, cl_L_31, nc_at hN⟩) (by decide) (by decide) cl_L_13 ct_eIOB (fun q => ?_)
      refine v_astore hC dL_edit_21 (by decide) ?_
      refine v_iconst (v := nI 2) hC dL_edit_23 (by decide) ?_
      refine v_iretN hC hM2 dL_edit_24 (by omega) (by omega) ?_
      exact .inl ⟨_, h, by rw [cd_edit_2]⟩
    · refine v_catch (E := eIAE) (name := eIAE) hC [{ startPc := 0, endPc := 14, handlerPc := 17, catchType := 31 }, { startPc := 0, endPc := 14, handlerPc := 21, catchType := 13 }] { startPc := 0, endPc := 14, handlerPc := 25, catchType := 15 } [{ startPc := 0, endPc := 14, handlerPc := 29, catchType := 25 }] hM2.2.1 (fun z hz => by
            simp only [List.mem_cons, List.not_mem_nil, or_false] at hz
            rcases hz with rfl | rfl
            · exact ⟨by decide, eNSE, cl_L_31, nc_at hN⟩
            · exact ⟨by decide, eIOB, cl_L_13, nc_at hN⟩) (by decide) (by decide) cl_L_15 ct_eIAE (fun q => ?_)
      refine v_astore hC dL_edit_25 (by decide) ?_
      refine v_iconst (v := nI 3) hC dL_edit_27 (by decide) ?_
      refine v_iretN hC hM2 dL_edit_28 (by omega) (by omega) ?_
      exact .inl ⟨_, h, by rw [cd_edit_3]⟩
    · refine v_catch (E := eISE) (name := eISE) hC [{ startPc := 0, endPc := 14, handlerPc := 17, catchType := 31 }, { startPc := 0, endPc := 14, handlerPc := 21, catchType := 13 }, { startPc := 0, endPc := 14, handlerPc := 25, catchType := 15 }] { startPc := 0, endPc := 14, handlerPc := 29, catchType := 25 } [] hM2.2.1 (fun z hz => by
            simp only [List.mem_cons, List.not_mem_nil, or_false] at hz
            rcases hz with rfl | rfl | rfl
            · exact ⟨by decide, eNSE, cl_L_31, nc_at hN⟩
            · exact ⟨by decide, eIOB, cl_L_13, nc_at hN⟩
            · exact ⟨by decide, eIAE, cl_L_15, nc_at hN⟩) (by decide) (by decide) cl_L_25 ct_eISE (fun q => ?_)
      refine v_astore hC dL_edit_29 (by decide) ?_
      refine v_iconst (v := nI 4) hC dL_edit_31 (by decide) ?_
      refine v_iretN hC hM2 dL_edit_32 (by omega) (by omega) ?_
      exact .inl ⟨_, h, by rw [cd_edit_4]⟩
def cd_take : String → Nat := fun E => if E = eNSE then 1 else if E = eIOB then 2 else 3
theorem cd_take_1 : cd_take eNSE = 1 := by decide
theorem cd_take_2 : cd_take eIOB = 2 := by decide
theorem cd_take_3 : cd_take eISE = 3 := by decide
theorem lkw_take : LkSW "BranchyardLaw" 149 yL_take cL_take 6 (some .int) [(0, 12, 15, 31), (0, 12, 19, 13), (0, 12, 23, 25)] 5 := ⟨⟨by decide +kernel, by decide +kernel, by decide +kernel, by decide +kernel⟩, by decide +kernel, by decide +kernel, by decide +kernel⟩
set_option maxHeartbeats 4000000 in
set_option maxRecDepth 100000 in
theorem w_take {l : Launch} (hl0 : l.stackTraces = false) {G : GT} {ok : KF} {ad : AD} {σ : SG} {p1 p2 p3 : Int32} {Pv : Option Value → MT → Prop} {Px : String → MT → Prop} {n1 mc1 ms1 : Nat} (hM : Ct l G n1 yX5_take cX5_take 6 (some .int) [.ref (ad 0 0 0), .int p1, .int p2, .int p3] ok ad σ Pv Px mc1 ms1) (hk : ok 0 0 0) (hv : ∀ v μ, Pv v μ → (∃ n, v = some (iv n)) ∧ μ.1 60 0 0 ∧ μ.2.1 60 0 0 = ad 60 0 0) (hx : ∀ E μ, Px E μ → E = eNSE ∨ E = eIOB ∨ E = eISE) : CtN l G (n1 + 1) yL_take cL_take 6 (some .int) [(0, 12, 15, 31), (0, 12, 19, 13), (0, 12, 23, 25)] [.ref (ad 0 0 0), .int p1, .int p2, .int p3, .ref (ad 60 0 0)] ok ad σ (WrP wI cd_take Pv Px) mc1 ms1 := by
  refine CtN.mk (by decide +kernel) hl0 (Nat.le_of_ble_eq_true rfl) (fun X hX hC hN hM2 => ?_)
  subst hX
  refine v_aload hC dL_take_0 rfl ?_
  refine v_iconst (v := nI 0) hC dL_take_2 (by decide) ?_
  refine v_aload_n hC dL_take_3 rfl ?_
  refine v_iload_n hC dL_take_4 rfl ?_
  refine v_iload_n hC dL_take_5 rfl ?_
  refine v_iload_n hC dL_take_6 rfl ?_
  refine v_callV hC lk_L_33 dL_take_7 hM (by omega) (by decide) hk rfl rfl rfl rfl (Nat.le_of_ble_eq_true rfl) (by omega) (by omega) (fun v μ h => ?_) (fun E μ h => ?_)
  · obtain ⟨⟨n, rfl⟩, h60, ha⟩ := hv v μ h
    refine v_i2l (v := lN (wI n)) hC dL_take_10 (lN_wN _).symm ?_
    refine v_stk (st' := [jv (wI n), iv 0, .ref (μ.2.1 60 0 0)]) (congrArg (fun z => [jv (wI n), iv 0, Value.ref z]) ha) ?_
    refine as_60 hC dL_take_11 h60 (by decide) ?_
    refine v_goto (tgt := 27) hC dL_take_12 (by decide) ?_
    refine v_iconst (v := nI 0) hC dL_take_27 (by decide) ?_
    refine v_iretN hC hM2 dL_take_28 (by omega) (by omega) ?_
    exact .inr ⟨n, μ, h, rfl, rfl⟩
  · rcases hx E μ h with rfl | rfl | rfl
    · refine v_catch (E := eNSE) (name := eNSE) hC [] { startPc := 0, endPc := 12, handlerPc := 15, catchType := 31 } [{ startPc := 0, endPc := 12, handlerPc := 19, catchType := 13 }, { startPc := 0, endPc := 12, handlerPc := 23, catchType := 25 }] hM2.2.1 (fun z hz => by cases hz) (by decide) (by decide) cl_L_31 ct_eNSE (fun q => ?_)
      refine v_astore hC dL_take_15 (by decide) ?_
      refine v_iconst (v := nI 1) hC dL_take_17 (by decide) ?_
      refine v_iretN hC hM2 dL_take_18 (by omega) (by omega) ?_
      exact .inl ⟨_, h, by rw [cd_take_1]⟩
    · refine v_catch (E := eIOB) (name := eIOB) hC [{ startPc := 0, endPc := 12, handlerPc := 15, catchType := 31 }] { startPc := 0, endPc := 12, handlerPc := 19, catchType := 13 } [{ startPc := 0, endPc := 12, handlerPc := 23, catchType := 25 }] hM2.2.1 (fun z hz => by
            simp only [List.mem_cons, List.not_mem_nil, or_false] at hz
            obtain rfl := hz
            · exact ⟨by decide, eNSE, cl_L_31, nc_at hN⟩) (by decide) (by decide) cl_L_13 ct_eIOB (fun q => ?_)
      refine v_astore hC dL_take_19 (by decide) ?_
      refine v_iconst (v := nI 2) hC dL_take_21 (by decide) ?_
      refine v_iretN hC hM2 dL_take_22 (by omega) (by omega) ?_
      exact .inl ⟨_, h, by rw [cd_take_2]⟩
    · refine v_catch (E := eISE) (name := eISE) hC [{ startPc := 0, endPc := 12, handlerPc := 15, catchType := 31 }, { startPc := 0, endPc := 12, handlerPc := 19, catchType := 13 }] { startPc := 0, endPc := 12, handlerPc := 23, catchType := 25 } [] hM2.2.1 (fun z hz => by
            simp only [List.mem_cons, List.not_mem_nil, or_false] at hz
            rcases hz with rfl | rfl
            · exact ⟨by decide, eNSE, cl_L_31, nc_at hN⟩
            · exact ⟨by decide, eIOB, cl_L_13, nc_at hN⟩) (by decide) (by decide) cl_L_25 ct_eISE (fun q => ?_)
      refine v_astore hC dL_take_23 (by decide) ?_
      refine v_iconst (v := nI 3) hC dL_take_25 (by decide) ?_
      refine v_iretN hC hM2 dL_take_26 (by omega) (by omega) ?_
      exact .inl ⟨_, h, by rw [cd_take_3]⟩
def cd_close : String → Nat := fun E => if E = eNSE then 1 else 2
theorem cd_close_1 : cd_close eNSE = 1 := by decide
theorem cd_close_2 : cd_close eISE = 2 := by decide
theorem lkw_close : LkSW "BranchyardLaw" 152 yL_close cL_close 4 (some .int) [(0, 9, 12, 31), (0, 9, 15, 25)] 3 := ⟨⟨by decide +kernel, by decide +kernel, by decide +kernel, by decide +kernel⟩, by decide +kernel, by decide +kernel, by decide +kernel⟩
set_option maxHeartbeats 4000000 in
set_option maxRecDepth 100000 in
theorem w_close {l : Launch} (hl0 : l.stackTraces = false) {G : GT} {ok : KF} {ad : AD} {σ : SG} {p1 : Int32} {Pv : Option Value → MT → Prop} {Px : String → MT → Prop} {n1 mc1 ms1 : Nat} (hM : Ct l G n1 yX5_close cX5_close 3 (some .int) [.ref (ad 0 0 0), .int p1] ok ad σ Pv Px mc1 ms1) (hk : ok 0 0 0) (hv : ∀ v μ, Pv v μ → (∃ n, v = some (iv n)) ∧ μ.1 60 0 0 ∧ μ.2.1 60 0 0 = ad 60 0 0) (hx : ∀ E μ, Px E μ → E = eNSE ∨ E = eISE) : CtN l G (n1 + 1) yL_close cL_close 4 (some .int) [(0, 9, 12, 31), (0, 9, 15, 25)] [.ref (ad 0 0 0), .int p1, .ref (ad 60 0 0)] ok ad σ (WrP wI cd_close Pv Px) mc1 ms1 := by
  refine CtN.mk (by decide +kernel) hl0 (Nat.le_of_ble_eq_true rfl) (fun X hX hC hN hM2 => ?_)
  subst hX
  refine v_aload_n hC dL_close_0 rfl ?_
  refine v_iconst (v := nI 0) hC dL_close_1 (by decide) ?_
  refine v_aload_n hC dL_close_2 rfl ?_
  refine v_iload_n hC dL_close_3 rfl ?_
  refine v_callV hC lk_L_36 dL_close_4 hM (by omega) (by decide) hk rfl rfl rfl rfl (Nat.le_of_ble_eq_true rfl) (by omega) (by omega) (fun v μ h => ?_) (fun E μ h => ?_)
  · obtain ⟨⟨n, rfl⟩, h60, ha⟩ := hv v μ h
    refine v_i2l (v := lN (wI n)) hC dL_close_7 (lN_wN _).symm ?_
    refine v_stk (st' := [jv (wI n), iv 0, .ref (μ.2.1 60 0 0)]) (congrArg (fun z => [jv (wI n), iv 0, Value.ref z]) ha) ?_
    refine as_60 hC dL_close_8 h60 (by decide) ?_
    refine v_goto (tgt := 18) hC dL_close_9 (by decide) ?_
    refine v_iconst (v := nI 0) hC dL_close_18 (by decide) ?_
    refine v_iretN hC hM2 dL_close_19 (by omega) (by omega) ?_
    exact .inr ⟨n, μ, h, rfl, rfl⟩
  · rcases hx E μ h with rfl | rfl
    · refine v_catch (E := eNSE) (name := eNSE) hC [] { startPc := 0, endPc := 9, handlerPc := 12, catchType := 31 } [{ startPc := 0, endPc := 9, handlerPc := 15, catchType := 25 }] hM2.2.1 (fun z hz => by cases hz) (by decide) (by decide) cl_L_31 ct_eNSE (fun q => ?_)
      refine v_astore_n hC dL_close_12 (by decide) ?_
      refine v_iconst (v := nI 1) hC dL_close_13 (by decide) ?_
      refine v_iretN hC hM2 dL_close_14 (by omega) (by omega) ?_
      exact .inl ⟨_, h, by rw [cd_close_1]⟩
    · refine v_catch (E := eISE) (name := eISE) hC [{ startPc := 0, endPc := 9, handlerPc := 12, catchType := 31 }] { startPc := 0, endPc := 9, handlerPc := 15, catchType := 25 } [] hM2.2.1 (fun z hz => by
            simp only [List.mem_cons, List.not_mem_nil, or_false] at hz
            obtain rfl := hz
            · exact ⟨by decide, eNSE, cl_L_31, nc_at hN⟩) (by decide) (by decide) cl_L_25 ct_eISE (fun q => ?_)
      refine v_astore_n hC dL_close_15 (by decide) ?_
      refine v_iconst (v := nI 2) hC dL_close_16 (by decide) ?_
      refine v_iretN hC hM2 dL_close_17 (by omega) (by omega) ?_
      exact .inl ⟨_, h, by rw [cd_close_2]⟩
def cd_vote : String → Nat := fun E => if E = eNSE then 1 else if E = eIAE then 2 else 3
theorem cd_vote_1 : cd_vote eNSE = 1 := by decide
theorem cd_vote_2 : cd_vote eIAE = 2 := by decide
theorem cd_vote_3 : cd_vote eISE = 3 := by decide
theorem lkw_vote : LkSW "BranchyardLaw" 155 yL_vote cL_vote 6 (some .int) [(0, 12, 15, 31), (0, 12, 19, 15), (0, 12, 23, 25)] 5 := ⟨⟨by decide +kernel, by decide +kernel, by decide +kernel, by decide +kernel⟩, by decide +kernel, by decide +kernel, by decide +kernel⟩
set_option maxHeartbeats 4000000 in
set_option maxRecDepth 100000 in
theorem w_vote {l : Launch} (hl0 : l.stackTraces = false) {G : GT} {ok : KF} {ad : AD} {σ : SG} {p1 p2 p3 : Int32} {Pv : Option Value → MT → Prop} {Px : String → MT → Prop} {n1 mc1 ms1 : Nat} (hM : Ct l G n1 yX5_vote cX5_vote 5 (some .int) [.ref (ad 0 0 0), .int p1, .int p2, .int p3] ok ad σ Pv Px mc1 ms1) (hk : ok 0 0 0) (hv : ∀ v μ, Pv v μ → (∃ n, v = some (iv n)) ∧ μ.1 60 0 0 ∧ μ.2.1 60 0 0 = ad 60 0 0) (hx : ∀ E μ, Px E μ → E = eNSE ∨ E = eIAE ∨ E = eISE) : CtN l G (n1 + 1) yL_vote cL_vote 6 (some .int) [(0, 12, 15, 31), (0, 12, 19, 15), (0, 12, 23, 25)] [.ref (ad 0 0 0), .int p1, .int p2, .int p3, .ref (ad 60 0 0)] ok ad σ (WrP wI cd_vote Pv Px) mc1 ms1 := by
  refine CtN.mk (by decide +kernel) hl0 (Nat.le_of_ble_eq_true rfl) (fun X hX hC hN hM2 => ?_)
  subst hX
  refine v_aload hC dL_vote_0 rfl ?_
  refine v_iconst (v := nI 0) hC dL_vote_2 (by decide) ?_
  refine v_aload_n hC dL_vote_3 rfl ?_
  refine v_iload_n hC dL_vote_4 rfl ?_
  refine v_iload_n hC dL_vote_5 rfl ?_
  refine v_iload_n hC dL_vote_6 rfl ?_
  refine v_callV hC lk_L_39 dL_vote_7 hM (by omega) (by decide) hk rfl rfl rfl rfl (Nat.le_of_ble_eq_true rfl) (by omega) (by omega) (fun v μ h => ?_) (fun E μ h => ?_)
  · obtain ⟨⟨n, rfl⟩, h60, ha⟩ := hv v μ h
    refine v_i2l (v := lN (wI n)) hC dL_vote_10 (lN_wN _).symm ?_
    refine v_stk (st' := [jv (wI n), iv 0, .ref (μ.2.1 60 0 0)]) (congrArg (fun z => [jv (wI n), iv 0, Value.ref z]) ha) ?_
    refine as_60 hC dL_vote_11 h60 (by decide) ?_
    refine v_goto (tgt := 27) hC dL_vote_12 (by decide) ?_
    refine v_iconst (v := nI 0) hC dL_vote_27 (by decide) ?_
    refine v_iretN hC hM2 dL_vote_28 (by omega) (by omega) ?_
    exact .inr ⟨n, μ, h, rfl, rfl⟩
  · rcases hx E μ h with rfl | rfl | rfl
    · refine v_catch (E := eNSE) (name := eNSE) hC [] { startPc := 0, endPc := 12, handlerPc := 15, catchType := 31 } [{ startPc := 0, endPc := 12, handlerPc := 19, catchType := 15 }, { startPc := 0, endPc := 12, handlerPc := 23, catchType := 25 }] hM2.2.1 (fun z hz => by cases hz) (by decide) (by decide) cl_L_31 ct_eNSE (fun q => ?_)
      refine v_astore hC dL_vote_15 (by decide) ?_
      refine v_iconst (v := nI 1) hC dL_vote_17 (by decide) ?_
      refine v_iretN hC hM2 dL_vote_18 (by omega) (by omega) ?_
      exact .inl ⟨_, h, by rw [cd_vote_1]⟩
    · refine v_catch (E := eIAE) (name := eIAE) hC [{ startPc := 0, endPc := 12, handlerPc := 15, catchType := 31 }] { startPc := 0, endPc := 12, handlerPc := 19, catchType := 15 } [{ startPc := 0, endPc := 12, handlerPc := 23, catchType := 25 }] hM2.2.1 (fun z hz => by
            simp only [List.mem_cons, List.not_mem_nil, or_false] at hz
            obtain rfl := hz
            · exact ⟨by decide, eNSE, cl_L_31, nc_at hN⟩) (by decide) (by decide) cl_L_15 ct_eIAE (fun q => ?_)
      refine v_astore hC dL_vote_19 (by decide) ?_
      refine v_iconst (v := nI 2) hC dL_vote_21 (by decide) ?_
      refine v_iretN hC hM2 dL_vote_22 (by omega) (by omega) ?_
      exact .inl ⟨_, h, by rw [cd_vote_2]⟩
    · refine v_catch (E := eISE) (name := eISE) hC [{ startPc := 0, endPc := 12, handlerPc := 15, catchType := 31 }, { startPc := 0, endPc := 12, handlerPc := 19, catchType := 15 }] { startPc := 0, endPc := 12, handlerPc := 23, catchType := 25 } [] hM2.2.1 (fun z hz => by
            simp only [List.mem_cons, List.not_mem_nil, or_false] at hz
            rcases hz with rfl | rfl
            · exact ⟨by decide, eNSE, cl_L_31, nc_at hN⟩
            · exact ⟨by decide, eIAE, cl_L_15, nc_at hN⟩) (by decide) (by decide) cl_L_25 ct_eISE (fun q => ?_)
      refine v_astore hC dL_vote_23 (by decide) ?_
      refine v_iconst (v := nI 3) hC dL_vote_25 (by decide) ?_
      refine v_iretN hC hM2 dL_vote_26 (by omega) (by omega) ?_
      exact .inl ⟨_, h, by rw [cd_vote_3]⟩
def cd_verdict : String → Nat := fun E => if E = eNSE then 1 else 2
theorem cd_verdict_1 : cd_verdict eNSE = 1 := by decide
theorem cd_verdict_2 : cd_verdict eIOB = 2 := by decide
theorem lkw_verdict : LkSW "BranchyardLaw" 159 yL_verdict cL_verdict 5 (some .int) [(0, 10, 13, 31), (0, 10, 17, 13)] 4 := ⟨⟨by decide +kernel, by decide +kernel, by decide +kernel, by decide +kernel⟩, by decide +kernel, by decide +kernel, by decide +kernel⟩
set_option maxHeartbeats 4000000 in
set_option maxRecDepth 100000 in
theorem w_verdict {l : Launch} (hl0 : l.stackTraces = false) {G : GT} {ok : KF} {ad : AD} {σ : SG} {p1 p2 : Int32} {Pv : Option Value → MT → Prop} {Px : String → MT → Prop} {n1 mc1 ms1 : Nat} (hM : Ct l G n1 yX5_verdict cX5_verdict 4 (some .char) [.ref (ad 0 0 0), .int p1, .int p2] ok ad σ Pv Px mc1 ms1) (hk : ok 0 0 0) (hv : ∀ v μ, Pv v μ → (∃ n, v = some (iv n)) ∧ μ.1 60 0 0 ∧ μ.2.1 60 0 0 = ad 60 0 0) (hx : ∀ E μ, Px E μ → E = eNSE ∨ E = eIOB) : CtN l G (n1 + 1) yL_verdict cL_verdict 5 (some .int) [(0, 10, 13, 31), (0, 10, 17, 13)] [.ref (ad 0 0 0), .int p1, .int p2, .ref (ad 60 0 0)] ok ad σ (WrP wI cd_verdict Pv Px) mc1 ms1 := by
  refine CtN.mk (by decide +kernel) hl0 (Nat.le_of_ble_eq_true rfl) (fun X hX hC hN hM2 => ?_)
  subst hX
  refine v_aload_n hC dL_verdict_0 rfl ?_
  refine v_iconst (v := nI 0) hC dL_verdict_1 (by decide) ?_
  refine v_aload_n hC dL_verdict_2 rfl ?_
  refine v_iload_n hC dL_verdict_3 rfl ?_
  refine v_iload_n hC dL_verdict_4 rfl ?_
  refine v_callV hC lk_L_43 dL_verdict_5 hM (by omega) (by decide) hk rfl rfl rfl rfl (Nat.le_of_ble_eq_true rfl) (by omega) (by omega) (fun v μ h => ?_) (fun E μ h => ?_)
  · obtain ⟨⟨n, rfl⟩, h60, ha⟩ := hv v μ h
    refine v_i2l (v := lN (wI n)) hC dL_verdict_8 (lN_wN _).symm ?_
    refine v_stk (st' := [jv (wI n), iv 0, .ref (μ.2.1 60 0 0)]) (congrArg (fun z => [jv (wI n), iv 0, Value.ref z]) ha) ?_
    refine as_60 hC dL_verdict_9 h60 (by decide) ?_
    refine v_goto (tgt := 21) hC dL_verdict_10 (by decide) ?_
    refine v_iconst (v := nI 0) hC dL_verdict_21 (by decide) ?_
    refine v_iretN hC hM2 dL_verdict_22 (by omega) (by omega) ?_
    exact .inr ⟨n, μ, h, rfl, rfl⟩
  · rcases hx E μ h with rfl | rfl
    · refine v_catch (E := eNSE) (name := eNSE) hC [] { startPc := 0, endPc := 10, handlerPc := 13, catchType := 31 } [{ startPc := 0, endPc := 10, handlerPc := 17, catchType := 13 }] hM2.2.1 (fun z hz => by cases hz) (by decide) (by decide) cl_L_31 ct_eNSE (fun q => ?_)
      refine v_astore hC dL_verdict_13 (by decide) ?_
      refine v_iconst (v := nI 1) hC dL_verdict_15 (by decide) ?_
      refine v_iretN hC hM2 dL_verdict_16 (by omega) (by omega) ?_
      exact .inl ⟨_, h, by rw [cd_verdict_1]⟩
    · refine v_catch (E := eIOB) (name := eIOB) hC [{ startPc := 0, endPc := 10, handlerPc := 13, catchType := 31 }] { startPc := 0, endPc := 10, handlerPc := 17, catchType := 13 } [] hM2.2.1 (fun z hz => by
            simp only [List.mem_cons, List.not_mem_nil, or_false] at hz
            obtain rfl := hz
            · exact ⟨by decide, eNSE, cl_L_31, nc_at hN⟩) (by decide) (by decide) cl_L_13 ct_eIOB (fun q => ?_)
      refine v_astore hC dL_verdict_17 (by decide) ?_
      refine v_iconst (v := nI 2) hC dL_verdict_19 (by decide) ?_
      refine v_iretN hC hM2 dL_verdict_20 (by omega) (by omega) ?_
      exact .inl ⟨_, h, by rw [cd_verdict_2]⟩
def cd_asked : String → Nat := fun E => if E = eNSE then 1 else 2
theorem cd_asked_1 : cd_asked eNSE = 1 := by decide
theorem cd_asked_2 : cd_asked eIOB = 2 := by decide
theorem lkw_asked : LkSW "BranchyardLaw" 163 yL_asked cL_asked 5 (some .int) [(0, 10, 13, 31), (0, 10, 17, 13)] 4 := ⟨⟨by decide +kernel, by decide +kernel, by decide +kernel, by decide +kernel⟩, by decide +kernel, by decide +kernel, by decide +kernel⟩
set_option maxHeartbeats 4000000 in
set_option maxRecDepth 100000 in
theorem w_asked {l : Launch} (hl0 : l.stackTraces = false) {G : GT} {ok : KF} {ad : AD} {σ : SG} {p1 p2 : Int32} {Pv : Option Value → MT → Prop} {Px : String → MT → Prop} {n1 mc1 ms1 : Nat} (hM : Ct l G n1 yX5_asked cX5_asked 5 (some .int) [.ref (ad 0 0 0), .int p1, .int p2] ok ad σ Pv Px mc1 ms1) (hk : ok 0 0 0) (hv : ∀ v μ, Pv v μ → (∃ n, v = some (iv n)) ∧ μ.1 60 0 0 ∧ μ.2.1 60 0 0 = ad 60 0 0) (hx : ∀ E μ, Px E μ → E = eNSE ∨ E = eIOB) : CtN l G (n1 + 1) yL_asked cL_asked 5 (some .int) [(0, 10, 13, 31), (0, 10, 17, 13)] [.ref (ad 0 0 0), .int p1, .int p2, .ref (ad 60 0 0)] ok ad σ (WrP wI cd_asked Pv Px) mc1 ms1 := by
  refine CtN.mk (by decide +kernel) hl0 (Nat.le_of_ble_eq_true rfl) (fun X hX hC hN hM2 => ?_)
  subst hX
  refine v_aload_n hC dL_asked_0 rfl ?_
  refine v_iconst (v := nI 0) hC dL_asked_1 (by decide) ?_
  refine v_aload_n hC dL_asked_2 rfl ?_
  refine v_iload_n hC dL_asked_3 rfl ?_
  refine v_iload_n hC dL_asked_4 rfl ?_
  refine v_callV hC lk_L_47 dL_asked_5 hM (by omega) (by decide) hk rfl rfl rfl rfl (Nat.le_of_ble_eq_true rfl) (by omega) (by omega) (fun v μ h => ?_) (fun E μ h => ?_)
  · obtain ⟨⟨n, rfl⟩, h60, ha⟩ := hv v μ h
    refine v_i2l (v := lN (wI n)) hC dL_asked_8 (lN_wN _).symm ?_
    refine v_stk (st' := [jv (wI n), iv 0, .ref (μ.2.1 60 0 0)]) (congrArg (fun z => [jv (wI n), iv 0, Value.ref z]) ha) ?_
    refine as_60 hC dL_asked_9 h60 (by decide) ?_
    refine v_goto (tgt := 21) hC dL_asked_10 (by decide) ?_
    refine v_iconst (v := nI 0) hC dL_asked_21 (by decide) ?_
    refine v_iretN hC hM2 dL_asked_22 (by omega) (by omega) ?_
    exact .inr ⟨n, μ, h, rfl, rfl⟩
  · rcases hx E μ h with rfl | rfl
    · refine v_catch (E := eNSE) (name := eNSE) hC [] { startPc := 0, endPc := 10, handlerPc := 13, catchType := 31 } [{ startPc := 0, endPc := 10, handlerPc := 17, catchType := 13 }] hM2.2.1 (fun z hz => by cases hz) (by decide) (by decide) cl_L_31 ct_eNSE (fun q => ?_)
      refine v_astore hC dL_asked_13 (by decide) ?_
      refine v_iconst (v := nI 1) hC dL_asked_15 (by decide) ?_
      refine v_iretN hC hM2 dL_asked_16 (by omega) (by omega) ?_
      exact .inl ⟨_, h, by rw [cd_asked_1]⟩
    · refine v_catch (E := eIOB) (name := eIOB) hC [{ startPc := 0, endPc := 10, handlerPc := 13, catchType := 31 }] { startPc := 0, endPc := 10, handlerPc := 17, catchType := 13 } [] hM2.2.1 (fun z hz => by
            simp only [List.mem_cons, List.not_mem_nil, or_false] at hz
            obtain rfl := hz
            · exact ⟨by decide, eNSE, cl_L_31, nc_at hN⟩) (by decide) (by decide) cl_L_13 ct_eIOB (fun q => ?_)
      refine v_astore hC dL_asked_17 (by decide) ?_
      refine v_iconst (v := nI 2) hC dL_asked_19 (by decide) ?_
      refine v_iretN hC hM2 dL_asked_20 (by omega) (by omega) ?_
      exact .inl ⟨_, h, by rw [cd_asked_2]⟩
def cd_missing : String → Nat := fun E => 1
theorem cd_missing_1 : cd_missing eNSE = 1 := by decide
theorem lkw_missing : LkSW "BranchyardLaw" 166 yL_missing cL_missing 4 (some .int) [(0, 9, 12, 31)] 3 := ⟨⟨by decide +kernel, by decide +kernel, by decide +kernel, by decide +kernel⟩, by decide +kernel, by decide +kernel, by decide +kernel⟩
set_option maxHeartbeats 4000000 in
set_option maxRecDepth 100000 in
theorem w_missing {l : Launch} (hl0 : l.stackTraces = false) {G : GT} {ok : KF} {ad : AD} {σ : SG} {p1 : Int32} {Pv : Option Value → MT → Prop} {Px : String → MT → Prop} {n1 mc1 ms1 : Nat} (hM : Ct l G n1 yX5_missing cX5_missing 2 (some .int) [.ref (ad 0 0 0), .int p1] ok ad σ Pv Px mc1 ms1) (hk : ok 0 0 0) (hv : ∀ v μ, Pv v μ → (∃ n, v = some (iv n)) ∧ μ.1 60 0 0 ∧ μ.2.1 60 0 0 = ad 60 0 0) (hx : ∀ E μ, Px E μ → E = eNSE) : CtN l G (n1 + 1) yL_missing cL_missing 4 (some .int) [(0, 9, 12, 31)] [.ref (ad 0 0 0), .int p1, .ref (ad 60 0 0)] ok ad σ (WrP wI cd_missing Pv Px) mc1 ms1 := by
  refine CtN.mk (by decide +kernel) hl0 (Nat.le_of_ble_eq_true rfl) (fun X hX hC hN hM2 => ?_)
  subst hX
  refine v_aload_n hC dL_missing_0 rfl ?_
  refine v_iconst (v := nI 0) hC dL_missing_1 (by decide) ?_
  refine v_aload_n hC dL_missing_2 rfl ?_
  refine v_iload_n hC dL_missing_3 rfl ?_
  refine v_callV hC lk_L_51 dL_missing_4 hM (by omega) (by decide) hk rfl rfl rfl rfl (Nat.le_of_ble_eq_true rfl) (by omega) (by omega) (fun v μ h => ?_) (fun E μ h => ?_)
  · obtain ⟨⟨n, rfl⟩, h60, ha⟩ := hv v μ h
    refine v_i2l (v := lN (wI n)) hC dL_missing_7 (lN_wN _).symm ?_
    refine v_stk (st' := [jv (wI n), iv 0, .ref (μ.2.1 60 0 0)]) (congrArg (fun z => [jv (wI n), iv 0, Value.ref z]) ha) ?_
    refine as_60 hC dL_missing_8 h60 (by decide) ?_
    refine v_goto (tgt := 15) hC dL_missing_9 (by decide) ?_
    refine v_iconst (v := nI 0) hC dL_missing_15 (by decide) ?_
    refine v_iretN hC hM2 dL_missing_16 (by omega) (by omega) ?_
    exact .inr ⟨n, μ, h, rfl, rfl⟩
  · obtain rfl := hx E μ h
    refine v_catch (E := eNSE) (name := eNSE) hC [] { startPc := 0, endPc := 9, handlerPc := 12, catchType := 31 } [] hM2.2.1 (fun z hz => by cases hz) (by decide) (by decide) cl_L_31 ct_eNSE (fun q => ?_)
    refine v_astore_n hC dL_missing_12 (by decide) ?_
    refine v_iconst (v := nI 1) hC dL_missing_13 (by decide) ?_
    refine v_iretN hC hM2 dL_missing_14 (by omega) (by omega) ?_
    exact .inl ⟨_, h, by rw [cd_missing_1]⟩
def cd_queue : String → Nat := fun E => if E = eNSE then 1 else if E = eISE then 2 else 3
theorem cd_queue_1 : cd_queue eNSE = 1 := by decide
theorem cd_queue_2 : cd_queue eISE = 2 := by decide
theorem cd_queue_3 : cd_queue eUOE = 3 := by decide
theorem lkw_queue : LkSW "BranchyardLaw" 169 yL_queue cL_queue 4 (some .int) [(0, 9, 12, 31), (0, 9, 15, 25), (0, 9, 18, 57)] 3 := ⟨⟨by decide +kernel, by decide +kernel, by decide +kernel, by decide +kernel⟩, by decide +kernel, by decide +kernel, by decide +kernel⟩
set_option maxHeartbeats 4000000 in
set_option maxRecDepth 100000 in
theorem w_queue {l : Launch} (hl0 : l.stackTraces = false) {G : GT} {ok : KF} {ad : AD} {σ : SG} {p1 : Int32} {Pv : Option Value → MT → Prop} {Px : String → MT → Prop} {n1 mc1 ms1 : Nat} (hM : Ct l G n1 yX5_queue cX5_queue 3 (some .int) [.ref (ad 0 0 0), .int p1] ok ad σ Pv Px mc1 ms1) (hk : ok 0 0 0) (hv : ∀ v μ, Pv v μ → (∃ n, v = some (iv n)) ∧ μ.1 60 0 0 ∧ μ.2.1 60 0 0 = ad 60 0 0) (hx : ∀ E μ, Px E μ → E = eNSE ∨ E = eISE ∨ E = eUOE) : CtN l G (n1 + 1) yL_queue cL_queue 4 (some .int) [(0, 9, 12, 31), (0, 9, 15, 25), (0, 9, 18, 57)] [.ref (ad 0 0 0), .int p1, .ref (ad 60 0 0)] ok ad σ (WrP wI cd_queue Pv Px) mc1 ms1 := by
  refine CtN.mk (by decide +kernel) hl0 (Nat.le_of_ble_eq_true rfl) (fun X hX hC hN hM2 => ?_)
  subst hX
  refine v_aload_n hC dL_queue_0 rfl ?_
  refine v_iconst (v := nI 0) hC dL_queue_1 (by decide) ?_
  refine v_aload_n hC dL_queue_2 rfl ?_
  refine v_iload_n hC dL_queue_3 rfl ?_
  refine v_callV hC lk_L_54 dL_queue_4 hM (by omega) (by decide) hk rfl rfl rfl rfl (Nat.le_of_ble_eq_true rfl) (by omega) (by omega) (fun v μ h => ?_) (fun E μ h => ?_)
  · obtain ⟨⟨n, rfl⟩, h60, ha⟩ := hv v μ h
    refine v_i2l (v := lN (wI n)) hC dL_queue_7 (lN_wN _).symm ?_
    refine v_stk (st' := [jv (wI n), iv 0, .ref (μ.2.1 60 0 0)]) (congrArg (fun z => [jv (wI n), iv 0, Value.ref z]) ha) ?_
    refine as_60 hC dL_queue_8 h60 (by decide) ?_
    refine v_goto (tgt := 21) hC dL_queue_9 (by decide) ?_
    refine v_iconst (v := nI 0) hC dL_queue_21 (by decide) ?_
    refine v_iretN hC hM2 dL_queue_22 (by omega) (by omega) ?_
    exact .inr ⟨n, μ, h, rfl, rfl⟩
  · rcases hx E μ h with rfl | rfl | rfl
    · refine v_catch (E := eNSE) (name := eNSE) hC [] { startPc := 0, endPc := 9, handlerPc := 12, catchType := 31 } [{ startPc := 0, endPc := 9, handlerPc := 15, catchType := 25 }, { startPc := 0, endPc := 9, handlerPc := 18, catchType := 57 }] hM2.2.1 (fun z hz => by cases hz) (by decide) (by decide) cl_L_31 ct_eNSE (fun q => ?_)
      refine v_astore_n hC dL_queue_12 (by decide) ?_
      refine v_iconst (v := nI 1) hC dL_queue_13 (by decide) ?_
      refine v_iretN hC hM2 dL_queue_14 (by omega) (by omega) ?_
      exact .inl ⟨_, h, by rw [cd_queue_1]⟩
    · refine v_catch (E := eISE) (name := eISE) hC [{ startPc := 0, endPc := 9, handlerPc := 12, catchType := 31 }] { startPc := 0, endPc := 9, handlerPc := 15, catchType := 25 } [{ startPc := 0, endPc := 9, handlerPc := 18, catchType := 57 }] hM2.2.1 (fun z hz => by
            simp only [List.mem_cons, List.not_mem_nil, or_false] at hz
            obtain rfl := hz
            · exact ⟨by decide, eNSE, cl_L_31, nc_at hN⟩) (by decide) (by decide) cl_L_25 ct_eISE (fun q => ?_)
      refine v_astore_n hC dL_queue_15 (by decide) ?_
      refine v_iconst (v := nI 2) hC dL_queue_16 (by decide) ?_
      refine v_iretN hC hM2 dL_queue_17 (by omega) (by omega) ?_
      exact .inl ⟨_, h, by rw [cd_queue_2]⟩
    · refine v_catch (E := eUOE) (name := eUOE) hC [{ startPc := 0, endPc := 9, handlerPc := 12, catchType := 31 }, { startPc := 0, endPc := 9, handlerPc := 15, catchType := 25 }] { startPc := 0, endPc := 9, handlerPc := 18, catchType := 57 } [] hM2.2.1 (fun z hz => by
            simp only [List.mem_cons, List.not_mem_nil, or_false] at hz
            rcases hz with rfl | rfl
            · exact ⟨by decide, eNSE, cl_L_31, nc_at hN⟩
            · exact ⟨by decide, eISE, cl_L_25, nc_at hN⟩) (by decide) (by decide) cl_L_57 ct_eUOE (fun q => ?_)
      refine v_astore_n hC dL_queue_18 (by decide) ?_
      refine v_iconst (v := nI 3) hC dL_queue_19 (by decide) ?_
      refine v_iretN hC hM2 dL_queue_20 (by omega) (by omega) ?_
      exact .inl ⟨_, h, by rw [cd_queue_3]⟩
def cd_unqueue : String → Nat := fun E => if E = eNSE then 1 else 2
theorem cd_unqueue_1 : cd_unqueue eNSE = 1 := by decide
theorem cd_unqueue_2 : cd_unqueue eISE = 2 := by decide
theorem lkw_unqueue : LkSW "BranchyardLaw" 172 yL_unqueue cL_unqueue 4 (some .int) [(0, 9, 12, 31), (0, 9, 15, 25)] 3 := ⟨⟨by decide +kernel, by decide +kernel, by decide +kernel, by decide +kernel⟩, by decide +kernel, by decide +kernel, by decide +kernel⟩
set_option maxHeartbeats 4000000 in
set_option maxRecDepth 100000 in
theorem w_unqueue {l : Launch} (hl0 : l.stackTraces = false) {G : GT} {ok : KF} {ad : AD} {σ : SG} {p1 : Int32} {Pv : Option Value → MT → Prop} {Px : String → MT → Prop} {n1 mc1 ms1 : Nat} (hM : Ct l G n1 yX5_unqueue cX5_unqueue 3 (some .int) [.ref (ad 0 0 0), .int p1] ok ad σ Pv Px mc1 ms1) (hk : ok 0 0 0) (hv : ∀ v μ, Pv v μ → (∃ n, v = some (iv n)) ∧ μ.1 60 0 0 ∧ μ.2.1 60 0 0 = ad 60 0 0) (hx : ∀ E μ, Px E μ → E = eNSE ∨ E = eISE) : CtN l G (n1 + 1) yL_unqueue cL_unqueue 4 (some .int) [(0, 9, 12, 31), (0, 9, 15, 25)] [.ref (ad 0 0 0), .int p1, .ref (ad 60 0 0)] ok ad σ (WrP wI cd_unqueue Pv Px) mc1 ms1 := by
  refine CtN.mk (by decide +kernel) hl0 (Nat.le_of_ble_eq_true rfl) (fun X hX hC hN hM2 => ?_)
  subst hX
  refine v_aload_n hC dL_unqueue_0 rfl ?_
  refine v_iconst (v := nI 0) hC dL_unqueue_1 (by decide) ?_
  refine v_aload_n hC dL_unqueue_2 rfl ?_
  refine v_iload_n hC dL_unqueue_3 rfl ?_
  refine v_callV hC lk_L_59 dL_unqueue_4 hM (by omega) (by decide) hk rfl rfl rfl rfl (Nat.le_of_ble_eq_true rfl) (by omega) (by omega) (fun v μ h => ?_) (fun E μ h => ?_)
  · obtain ⟨⟨n, rfl⟩, h60, ha⟩ := hv v μ h
    refine v_i2l (v := lN (wI n)) hC dL_unqueue_7 (lN_wN _).symm ?_
    refine v_stk (st' := [jv (wI n), iv 0, .ref (μ.2.1 60 0 0)]) (congrArg (fun z => [jv (wI n), iv 0, Value.ref z]) ha) ?_
    refine as_60 hC dL_unqueue_8 h60 (by decide) ?_
    refine v_goto (tgt := 18) hC dL_unqueue_9 (by decide) ?_
    refine v_iconst (v := nI 0) hC dL_unqueue_18 (by decide) ?_
    refine v_iretN hC hM2 dL_unqueue_19 (by omega) (by omega) ?_
    exact .inr ⟨n, μ, h, rfl, rfl⟩
  · rcases hx E μ h with rfl | rfl
    · refine v_catch (E := eNSE) (name := eNSE) hC [] { startPc := 0, endPc := 9, handlerPc := 12, catchType := 31 } [{ startPc := 0, endPc := 9, handlerPc := 15, catchType := 25 }] hM2.2.1 (fun z hz => by cases hz) (by decide) (by decide) cl_L_31 ct_eNSE (fun q => ?_)
      refine v_astore_n hC dL_unqueue_12 (by decide) ?_
      refine v_iconst (v := nI 1) hC dL_unqueue_13 (by decide) ?_
      refine v_iretN hC hM2 dL_unqueue_14 (by omega) (by omega) ?_
      exact .inl ⟨_, h, by rw [cd_unqueue_1]⟩
    · refine v_catch (E := eISE) (name := eISE) hC [{ startPc := 0, endPc := 9, handlerPc := 12, catchType := 31 }] { startPc := 0, endPc := 9, handlerPc := 15, catchType := 25 } [] hM2.2.1 (fun z hz => by
            simp only [List.mem_cons, List.not_mem_nil, or_false] at hz
            obtain rfl := hz
            · exact ⟨by decide, eNSE, cl_L_31, nc_at hN⟩) (by decide) (by decide) cl_L_25 ct_eISE (fun q => ?_)
      refine v_astore_n hC dL_unqueue_15 (by decide) ?_
      refine v_iconst (v := nI 2) hC dL_unqueue_16 (by decide) ?_
      refine v_iretN hC hM2 dL_unqueue_17 (by omega) (by omega) ?_
      exact .inl ⟨_, h, by rw [cd_unqueue_2]⟩
def cd_queueAt : String → Nat := fun E => 1
theorem cd_queueAt_1 : cd_queueAt eIOB = 1 := by decide
theorem lkw_queueAt : LkSW "BranchyardLaw" 175 yL_queueAt cL_queueAt 4 (some .int) [(0, 9, 12, 13)] 3 := ⟨⟨by decide +kernel, by decide +kernel, by decide +kernel, by decide +kernel⟩, by decide +kernel, by decide +kernel, by decide +kernel⟩
set_option maxHeartbeats 4000000 in
set_option maxRecDepth 100000 in
theorem w_queueAt {l : Launch} (hl0 : l.stackTraces = false) {G : GT} {ok : KF} {ad : AD} {σ : SG} {p1 : Int32} {Pv : Option Value → MT → Prop} {Px : String → MT → Prop} {n1 mc1 ms1 : Nat} (hM : Ct l G n1 yX5_queueAt cX5_queueAt 2 (some .int) [.ref (ad 0 0 0), .int p1] ok ad σ Pv Px mc1 ms1) (hk : ok 0 0 0) (hv : ∀ v μ, Pv v μ → (∃ n, v = some (iv n)) ∧ μ.1 60 0 0 ∧ μ.2.1 60 0 0 = ad 60 0 0) (hx : ∀ E μ, Px E μ → E = eIOB) : CtN l G (n1 + 1) yL_queueAt cL_queueAt 4 (some .int) [(0, 9, 12, 13)] [.ref (ad 0 0 0), .int p1, .ref (ad 60 0 0)] ok ad σ (WrP wI cd_queueAt Pv Px) mc1 ms1 := by
  refine CtN.mk (by decide +kernel) hl0 (Nat.le_of_ble_eq_true rfl) (fun X hX hC hN hM2 => ?_)
  subst hX
  refine v_aload_n hC dL_queueAt_0 rfl ?_
  refine v_iconst (v := nI 0) hC dL_queueAt_1 (by decide) ?_
  refine v_aload_n hC dL_queueAt_2 rfl ?_
  refine v_iload_n hC dL_queueAt_3 rfl ?_
  refine v_callV hC lk_L_62 dL_queueAt_4 hM (by omega) (by decide) hk rfl rfl rfl rfl (Nat.le_of_ble_eq_true rfl) (by omega) (by omega) (fun v μ h => ?_) (fun E μ h => ?_)
  · obtain ⟨⟨n, rfl⟩, h60, ha⟩ := hv v μ h
    refine v_i2l (v := lN (wI n)) hC dL_queueAt_7 (lN_wN _).symm ?_
    refine v_stk (st' := [jv (wI n), iv 0, .ref (μ.2.1 60 0 0)]) (congrArg (fun z => [jv (wI n), iv 0, Value.ref z]) ha) ?_
    refine as_60 hC dL_queueAt_8 h60 (by decide) ?_
    refine v_goto (tgt := 15) hC dL_queueAt_9 (by decide) ?_
    refine v_iconst (v := nI 0) hC dL_queueAt_15 (by decide) ?_
    refine v_iretN hC hM2 dL_queueAt_16 (by omega) (by omega) ?_
    exact .inr ⟨n, μ, h, rfl, rfl⟩
  · obtain rfl := hx E μ h
    refine v_catch (E := eIOB) (name := eIOB) hC [] { startPc := 0, endPc := 9, handlerPc := 12, catchType := 13 } [] hM2.2.1 (fun z hz => by cases hz) (by decide) (by decide) cl_L_13 ct_eIOB (fun q => ?_)
    refine v_astore_n hC dL_queueAt_12 (by decide) ?_
    refine v_iconst (v := nI 1) hC dL_queueAt_13 (by decide) ?_
    refine v_iretN hC hM2 dL_queueAt_14 (by omega) (by omega) ?_
    exact .inl ⟨_, h, by rw [cd_queueAt_1]⟩
def cd_step : String → Nat := fun E => 1
theorem cd_step_1 : cd_step eNSE = 1 := by decide
theorem lkw_step : LkSW "BranchyardLaw" 178 yL_step cL_step 3 (some .int) [(0, 8, 11, 31)] 2 := ⟨⟨by decide +kernel, by decide +kernel, by decide +kernel, by decide +kernel⟩, by decide +kernel, by decide +kernel, by decide +kernel⟩
set_option maxHeartbeats 4000000 in
set_option maxRecDepth 100000 in
theorem w_step {l : Launch} (hl0 : l.stackTraces = false) {G : GT} {ok : KF} {ad : AD} {σ : SG} {Pv : Option Value → MT → Prop} {Px : String → MT → Prop} {n1 mc1 ms1 : Nat} (hM : Ct l G n1 yX5_step cX5_step 2 (some .int) [.ref (ad 0 0 0)] ok ad σ Pv Px mc1 ms1) (hk : ok 0 0 0) (hv : ∀ v μ, Pv v μ → (∃ n, v = some (iv n)) ∧ μ.1 60 0 0 ∧ μ.2.1 60 0 0 = ad 60 0 0) (hx : ∀ E μ, Px E μ → E = eNSE) : CtN l G (n1 + 1) yL_step cL_step 3 (some .int) [(0, 8, 11, 31)] [.ref (ad 0 0 0), .ref (ad 60 0 0)] ok ad σ (WrP wI cd_step Pv Px) mc1 ms1 := by
  refine CtN.mk (by decide +kernel) hl0 (Nat.le_of_ble_eq_true rfl) (fun X hX hC hN hM2 => ?_)
  subst hX
  refine v_aload_n hC dL_step_0 rfl ?_
  refine v_iconst (v := nI 0) hC dL_step_1 (by decide) ?_
  refine v_aload_n hC dL_step_2 rfl ?_
  refine v_callV hC lk_L_65 dL_step_3 hM (by omega) (by decide) hk rfl rfl rfl rfl (Nat.le_of_ble_eq_true rfl) (by omega) (by omega) (fun v μ h => ?_) (fun E μ h => ?_)
  · obtain ⟨⟨n, rfl⟩, h60, ha⟩ := hv v μ h
    refine v_i2l (v := lN (wI n)) hC dL_step_6 (lN_wN _).symm ?_
    refine v_stk (st' := [jv (wI n), iv 0, .ref (μ.2.1 60 0 0)]) (congrArg (fun z => [jv (wI n), iv 0, Value.ref z]) ha) ?_
    refine as_60 hC dL_step_7 h60 (by decide) ?_
    refine v_goto (tgt := 14) hC dL_step_8 (by decide) ?_
    refine v_iconst (v := nI 0) hC dL_step_14 (by decide) ?_
    refine v_iretN hC hM2 dL_step_15 (by omega) (by omega) ?_
    exact .inr ⟨n, μ, h, rfl, rfl⟩
  · obtain rfl := hx E μ h
    refine v_catch (E := eNSE) (name := eNSE) hC [] { startPc := 0, endPc := 8, handlerPc := 11, catchType := 31 } [] hM2.2.1 (fun z hz => by cases hz) (by decide) (by decide) cl_L_31 ct_eNSE (fun q => ?_)
    refine v_astore_n hC dL_step_11 (by decide) ?_
    refine v_iconst (v := nI 1) hC dL_step_12 (by decide) ?_
    refine v_iretN hC hM2 dL_step_13 (by omega) (by omega) ?_
    exact .inl ⟨_, h, by rw [cd_step_1]⟩
def cd_setFrozen : String → Nat := fun E => 1
theorem cd_setFrozen_1 : cd_setFrozen eIOB = 1 := by decide
theorem lkw_setFrozen : LkSW "BranchyardLaw" 182 yL_setFrozen cL_setFrozen 5 (some .int) [(0, 17, 20, 13)] 4 := ⟨⟨by decide +kernel, by decide +kernel, by decide +kernel, by decide +kernel⟩, by decide +kernel, by decide +kernel, by decide +kernel⟩
set_option maxHeartbeats 4000000 in
set_option maxRecDepth 100000 in
theorem w_setFrozen {l : Launch} (hl0 : l.stackTraces = false) {G : GT} {ok : KF} {ad : AD} {σ : SG} {p1 p2 : Int32} {Pv : Option Value → MT → Prop} {Px : String → MT → Prop} {n1 mc1 ms1 : Nat} (hM : Ct l G n1 yX5_setFrozen cX5_setFrozen 4 (some .boolean) [.ref (ad 0 0 0), .int p1, .int p2] ok ad σ Pv Px mc1 ms1) (hk : ok 0 0 0) (hv : ∀ v μ, Pv v μ → (∃ n, v = some (iv n)) ∧ μ.1 60 0 0 ∧ μ.2.1 60 0 0 = ad 60 0 0) (hx : ∀ E μ, Px E μ → E = eIOB) : CtN l G (n1 + 1) yL_setFrozen cL_setFrozen 5 (some .int) [(0, 17, 20, 13)] [.ref (ad 0 0 0), .int p1, .int p2, .ref (ad 60 0 0)] ok ad σ (WrP wB cd_setFrozen Pv Px) mc1 ms1 := by
  refine CtN.mk (by decide +kernel) hl0 (Nat.le_of_ble_eq_true rfl) (fun X hX hC hN hM2 => ?_)
  subst hX
  refine v_aload_n hC dL_setFrozen_0 rfl ?_
  refine v_iconst (v := nI 0) hC dL_setFrozen_1 (by decide) ?_
  refine v_aload_n hC dL_setFrozen_2 rfl ?_
  refine v_iload_n hC dL_setFrozen_3 rfl ?_
  refine v_iload_n hC dL_setFrozen_4 rfl ?_
  refine v_callV hC lk_L_69 dL_setFrozen_5 hM (by omega) (by decide) hk rfl rfl rfl rfl (Nat.le_of_ble_eq_true rfl) (by omega) (by omega) (fun v μ h => ?_) (fun E μ h => ?_)
  · obtain ⟨⟨n, rfl⟩, h60, ha⟩ := hv v μ h
    refine v_if_eq (tgt := 15) hC dL_setFrozen_8 (by decide) (fun c => ?_) (fun c => ?_)
    · refine v_lconst (v := lN 0) hC dL_setFrozen_15 (by decide) ?_
      refine v_stk (st' := [jv (0), iv 0, .ref (μ.2.1 60 0 0)]) (congrArg (fun z => [jv (0), iv 0, Value.ref z]) ha) ?_
      refine as_60 hC dL_setFrozen_16 h60 (by decide) ?_
      refine v_goto (tgt := 24) hC dL_setFrozen_17 (by decide) ?_
      refine v_iconst (v := nI 0) hC dL_setFrozen_24 (by decide) ?_
      refine v_iretN hC hM2 dL_setFrozen_25 (by omega) (by omega) ?_
      exact .inr ⟨n, μ, h, rfl, by rw [show wB n = 0 from if_pos c]⟩
    · refine v_lconst (v := lN 1) hC dL_setFrozen_11 (by decide) ?_
      refine v_goto (tgt := 16) hC dL_setFrozen_12 (by decide) ?_
      refine v_stk (st' := [jv (1), iv 0, .ref (μ.2.1 60 0 0)]) (congrArg (fun z => [jv (1), iv 0, Value.ref z]) ha) ?_
      refine as_60 hC dL_setFrozen_16 h60 (by decide) ?_
      refine v_goto (tgt := 24) hC dL_setFrozen_17 (by decide) ?_
      refine v_iconst (v := nI 0) hC dL_setFrozen_24 (by decide) ?_
      refine v_iretN hC hM2 dL_setFrozen_25 (by omega) (by omega) ?_
      exact .inr ⟨n, μ, h, rfl, by rw [show wB n = 1 from if_neg c]⟩
  · obtain rfl := hx E μ h
    refine v_catch (E := eIOB) (name := eIOB) hC [] { startPc := 0, endPc := 17, handlerPc := 20, catchType := 13 } [] hM2.2.1 (fun z hz => by cases hz) (by decide) (by decide) cl_L_13 ct_eIOB (fun q => ?_)
    refine v_astore hC dL_setFrozen_20 (by decide) ?_
    refine v_iconst (v := nI 1) hC dL_setFrozen_22 (by decide) ?_
    refine v_iretN hC hM2 dL_setFrozen_23 (by omega) (by omega) ?_
    exact .inl ⟨_, h, by rw [cd_setFrozen_1]⟩
def cd_stateOf : String → Nat := fun E => 1
theorem cd_stateOf_1 : cd_stateOf eNSE = 1 := by decide
theorem lkw_stateOf : LkSW "BranchyardLaw" 185 yL_stateOf cL_stateOf 4 (some .int) [(0, 9, 12, 31)] 3 := ⟨⟨by decide +kernel, by decide +kernel, by decide +kernel, by decide +kernel⟩, by decide +kernel, by decide +kernel, by decide +kernel⟩
set_option maxHeartbeats 4000000 in
set_option maxRecDepth 100000 in
theorem w_stateOf {l : Launch} (hl0 : l.stackTraces = false) {G : GT} {ok : KF} {ad : AD} {σ : SG} {p1 : Int32} {Pv : Option Value → MT → Prop} {Px : String → MT → Prop} {n1 mc1 ms1 : Nat} (hM : Ct l G n1 yX5_stateOf cX5_stateOf 2 (some .char) [.ref (ad 0 0 0), .int p1] ok ad σ Pv Px mc1 ms1) (hk : ok 0 0 0) (hv : ∀ v μ, Pv v μ → (∃ n, v = some (iv n)) ∧ μ.1 60 0 0 ∧ μ.2.1 60 0 0 = ad 60 0 0) (hx : ∀ E μ, Px E μ → E = eNSE) : CtN l G (n1 + 1) yL_stateOf cL_stateOf 4 (some .int) [(0, 9, 12, 31)] [.ref (ad 0 0 0), .int p1, .ref (ad 60 0 0)] ok ad σ (WrP wI cd_stateOf Pv Px) mc1 ms1 := by
  refine CtN.mk (by decide +kernel) hl0 (Nat.le_of_ble_eq_true rfl) (fun X hX hC hN hM2 => ?_)
  subst hX
  refine v_aload_n hC dL_stateOf_0 rfl ?_
  refine v_iconst (v := nI 0) hC dL_stateOf_1 (by decide) ?_
  refine v_aload_n hC dL_stateOf_2 rfl ?_
  refine v_iload_n hC dL_stateOf_3 rfl ?_
  refine v_callV hC lk_L_72 dL_stateOf_4 hM (by omega) (by decide) hk rfl rfl rfl rfl (Nat.le_of_ble_eq_true rfl) (by omega) (by omega) (fun v μ h => ?_) (fun E μ h => ?_)
  · obtain ⟨⟨n, rfl⟩, h60, ha⟩ := hv v μ h
    refine v_i2l (v := lN (wI n)) hC dL_stateOf_7 (lN_wN _).symm ?_
    refine v_stk (st' := [jv (wI n), iv 0, .ref (μ.2.1 60 0 0)]) (congrArg (fun z => [jv (wI n), iv 0, Value.ref z]) ha) ?_
    refine as_60 hC dL_stateOf_8 h60 (by decide) ?_
    refine v_goto (tgt := 15) hC dL_stateOf_9 (by decide) ?_
    refine v_iconst (v := nI 0) hC dL_stateOf_15 (by decide) ?_
    refine v_iretN hC hM2 dL_stateOf_16 (by omega) (by omega) ?_
    exact .inr ⟨n, μ, h, rfl, rfl⟩
  · obtain rfl := hx E μ h
    refine v_catch (E := eNSE) (name := eNSE) hC [] { startPc := 0, endPc := 9, handlerPc := 12, catchType := 31 } [] hM2.2.1 (fun z hz => by cases hz) (by decide) (by decide) cl_L_31 ct_eNSE (fun q => ?_)
    refine v_astore_n hC dL_stateOf_12 (by decide) ?_
    refine v_iconst (v := nI 1) hC dL_stateOf_13 (by decide) ?_
    refine v_iretN hC hM2 dL_stateOf_14 (by omega) (by omega) ?_
    exact .inl ⟨_, h, by rw [cd_stateOf_1]⟩
def cd_hasFailed : String → Nat := fun E => 1
theorem cd_hasFailed_1 : cd_hasFailed eNSE = 1 := by decide
theorem lkw_hasFailed : LkSW "BranchyardLaw" 188 yL_hasFailed cL_hasFailed 4 (some .int) [(0, 16, 19, 31)] 3 := ⟨⟨by decide +kernel, by decide +kernel, by decide +kernel, by decide +kernel⟩, by decide +kernel, by decide +kernel, by decide +kernel⟩
set_option maxHeartbeats 4000000 in
set_option maxRecDepth 100000 in
theorem w_hasFailed {l : Launch} (hl0 : l.stackTraces = false) {G : GT} {ok : KF} {ad : AD} {σ : SG} {p1 : Int32} {Pv : Option Value → MT → Prop} {Px : String → MT → Prop} {n1 mc1 ms1 : Nat} (hM : Ct l G n1 yX5_hasFailed cX5_hasFailed 2 (some .boolean) [.ref (ad 0 0 0), .int p1] ok ad σ Pv Px mc1 ms1) (hk : ok 0 0 0) (hv : ∀ v μ, Pv v μ → (∃ n, v = some (iv n)) ∧ μ.1 60 0 0 ∧ μ.2.1 60 0 0 = ad 60 0 0) (hx : ∀ E μ, Px E μ → E = eNSE) : CtN l G (n1 + 1) yL_hasFailed cL_hasFailed 4 (some .int) [(0, 16, 19, 31)] [.ref (ad 0 0 0), .int p1, .ref (ad 60 0 0)] ok ad σ (WrP wB cd_hasFailed Pv Px) mc1 ms1 := by
  refine CtN.mk (by decide +kernel) hl0 (Nat.le_of_ble_eq_true rfl) (fun X hX hC hN hM2 => ?_)
  subst hX
  refine v_aload_n hC dL_hasFailed_0 rfl ?_
  refine v_iconst (v := nI 0) hC dL_hasFailed_1 (by decide) ?_
  refine v_aload_n hC dL_hasFailed_2 rfl ?_
  refine v_iload_n hC dL_hasFailed_3 rfl ?_
  refine v_callV hC lk_L_76 dL_hasFailed_4 hM (by omega) (by decide) hk rfl rfl rfl rfl (Nat.le_of_ble_eq_true rfl) (by omega) (by omega) (fun v μ h => ?_) (fun E μ h => ?_)
  · obtain ⟨⟨n, rfl⟩, h60, ha⟩ := hv v μ h
    refine v_if_eq (tgt := 14) hC dL_hasFailed_7 (by decide) (fun c => ?_) (fun c => ?_)
    · refine v_lconst (v := lN 0) hC dL_hasFailed_14 (by decide) ?_
      refine v_stk (st' := [jv (0), iv 0, .ref (μ.2.1 60 0 0)]) (congrArg (fun z => [jv (0), iv 0, Value.ref z]) ha) ?_
      refine as_60 hC dL_hasFailed_15 h60 (by decide) ?_
      refine v_goto (tgt := 22) hC dL_hasFailed_16 (by decide) ?_
      refine v_iconst (v := nI 0) hC dL_hasFailed_22 (by decide) ?_
      refine v_iretN hC hM2 dL_hasFailed_23 (by omega) (by omega) ?_
      exact .inr ⟨n, μ, h, rfl, by rw [show wB n = 0 from if_pos c]⟩
    · refine v_lconst (v := lN 1) hC dL_hasFailed_10 (by decide) ?_
      refine v_goto (tgt := 15) hC dL_hasFailed_11 (by decide) ?_
      refine v_stk (st' := [jv (1), iv 0, .ref (μ.2.1 60 0 0)]) (congrArg (fun z => [jv (1), iv 0, Value.ref z]) ha) ?_
      refine as_60 hC dL_hasFailed_15 h60 (by decide) ?_
      refine v_goto (tgt := 22) hC dL_hasFailed_16 (by decide) ?_
      refine v_iconst (v := nI 0) hC dL_hasFailed_22 (by decide) ?_
      refine v_iretN hC hM2 dL_hasFailed_23 (by omega) (by omega) ?_
      exact .inr ⟨n, μ, h, rfl, by rw [show wB n = 1 from if_neg c]⟩
  · obtain rfl := hx E μ h
    refine v_catch (E := eNSE) (name := eNSE) hC [] { startPc := 0, endPc := 16, handlerPc := 19, catchType := 31 } [] hM2.2.1 (fun z hz => by cases hz) (by decide) (by decide) cl_L_31 ct_eNSE (fun q => ?_)
    refine v_astore_n hC dL_hasFailed_19 (by decide) ?_
    refine v_iconst (v := nI 1) hC dL_hasFailed_20 (by decide) ?_
    refine v_iretN hC hM2 dL_hasFailed_21 (by omega) (by omega) ?_
    exact .inl ⟨_, h, by rw [cd_hasFailed_1]⟩
def cd_clashes : String → Nat := fun E => 1
theorem cd_clashes_1 : cd_clashes eNSE = 1 := by decide
theorem lkw_clashes : LkSW "BranchyardLaw" 191 yL_clashes cL_clashes 4 (some .int) [(0, 9, 12, 31)] 3 := ⟨⟨by decide +kernel, by decide +kernel, by decide +kernel, by decide +kernel⟩, by decide +kernel, by decide +kernel, by decide +kernel⟩
set_option maxHeartbeats 4000000 in
set_option maxRecDepth 100000 in
theorem w_clashes {l : Launch} (hl0 : l.stackTraces = false) {G : GT} {ok : KF} {ad : AD} {σ : SG} {p1 : Int32} {Pv : Option Value → MT → Prop} {Px : String → MT → Prop} {n1 mc1 ms1 : Nat} (hM : Ct l G n1 yX5_clashes cX5_clashes 2 (some .int) [.ref (ad 0 0 0), .int p1] ok ad σ Pv Px mc1 ms1) (hk : ok 0 0 0) (hv : ∀ v μ, Pv v μ → (∃ n, v = some (iv n)) ∧ μ.1 60 0 0 ∧ μ.2.1 60 0 0 = ad 60 0 0) (hx : ∀ E μ, Px E μ → E = eNSE) : CtN l G (n1 + 1) yL_clashes cL_clashes 4 (some .int) [(0, 9, 12, 31)] [.ref (ad 0 0 0), .int p1, .ref (ad 60 0 0)] ok ad σ (WrP wI cd_clashes Pv Px) mc1 ms1 := by
  refine CtN.mk (by decide +kernel) hl0 (Nat.le_of_ble_eq_true rfl) (fun X hX hC hN hM2 => ?_)
  subst hX
  refine v_aload_n hC dL_clashes_0 rfl ?_
  refine v_iconst (v := nI 0) hC dL_clashes_1 (by decide) ?_
  refine v_aload_n hC dL_clashes_2 rfl ?_
  refine v_iload_n hC dL_clashes_3 rfl ?_
  refine v_callV hC lk_L_80 dL_clashes_4 hM (by omega) (by decide) hk rfl rfl rfl rfl (Nat.le_of_ble_eq_true rfl) (by omega) (by omega) (fun v μ h => ?_) (fun E μ h => ?_)
  · obtain ⟨⟨n, rfl⟩, h60, ha⟩ := hv v μ h
    refine v_i2l (v := lN (wI n)) hC dL_clashes_7 (lN_wN _).symm ?_
    refine v_stk (st' := [jv (wI n), iv 0, .ref (μ.2.1 60 0 0)]) (congrArg (fun z => [jv (wI n), iv 0, Value.ref z]) ha) ?_
    refine as_60 hC dL_clashes_8 h60 (by decide) ?_
    refine v_goto (tgt := 15) hC dL_clashes_9 (by decide) ?_
    refine v_iconst (v := nI 0) hC dL_clashes_15 (by decide) ?_
    refine v_iretN hC hM2 dL_clashes_16 (by omega) (by omega) ?_
    exact .inr ⟨n, μ, h, rfl, rfl⟩
  · obtain rfl := hx E μ h
    refine v_catch (E := eNSE) (name := eNSE) hC [] { startPc := 0, endPc := 9, handlerPc := 12, catchType := 31 } [] hM2.2.1 (fun z hz => by cases hz) (by decide) (by decide) cl_L_31 ct_eNSE (fun q => ?_)
    refine v_astore_n hC dL_clashes_12 (by decide) ?_
    refine v_iconst (v := nI 1) hC dL_clashes_13 (by decide) ?_
    refine v_iretN hC hM2 dL_clashes_14 (by omega) (by omega) ?_
    exact .inl ⟨_, h, by rw [cd_clashes_1]⟩
def cd_update : String → Nat := fun E => if E = eNSE then 1 else 2
theorem cd_update_1 : cd_update eNSE = 1 := by decide
theorem cd_update_2 : cd_update eISE = 2 := by decide
theorem lkw_update : LkSW "BranchyardLaw" 194 yL_update cL_update 4 (some .int) [(0, 9, 12, 31), (0, 9, 15, 25)] 3 := ⟨⟨by decide +kernel, by decide +kernel, by decide +kernel, by decide +kernel⟩, by decide +kernel, by decide +kernel, by decide +kernel⟩
set_option maxHeartbeats 4000000 in
set_option maxRecDepth 100000 in
theorem w_update {l : Launch} (hl0 : l.stackTraces = false) {G : GT} {ok : KF} {ad : AD} {σ : SG} {p1 : Int32} {Pv : Option Value → MT → Prop} {Px : String → MT → Prop} {n1 mc1 ms1 : Nat} (hM : Ct l G n1 yX5_update cX5_update 4 (some .int) [.ref (ad 0 0 0), .int p1] ok ad σ Pv Px mc1 ms1) (hk : ok 0 0 0) (hv : ∀ v μ, Pv v μ → (∃ n, v = some (iv n)) ∧ μ.1 60 0 0 ∧ μ.2.1 60 0 0 = ad 60 0 0) (hx : ∀ E μ, Px E μ → E = eNSE ∨ E = eISE) : CtN l G (n1 + 1) yL_update cL_update 4 (some .int) [(0, 9, 12, 31), (0, 9, 15, 25)] [.ref (ad 0 0 0), .int p1, .ref (ad 60 0 0)] ok ad σ (WrP wI cd_update Pv Px) mc1 ms1 := by
  refine CtN.mk (by decide +kernel) hl0 (Nat.le_of_ble_eq_true rfl) (fun X hX hC hN hM2 => ?_)
  subst hX
  refine v_aload_n hC dL_update_0 rfl ?_
  refine v_iconst (v := nI 0) hC dL_update_1 (by decide) ?_
  refine v_aload_n hC dL_update_2 rfl ?_
  refine v_iload_n hC dL_update_3 rfl ?_
  refine v_callV hC lk_L_83 dL_update_4 hM (by omega) (by decide) hk rfl rfl rfl rfl (Nat.le_of_ble_eq_true rfl) (by omega) (by omega) (fun v μ h => ?_) (fun E μ h => ?_)
  · obtain ⟨⟨n, rfl⟩, h60, ha⟩ := hv v μ h
    refine v_i2l (v := lN (wI n)) hC dL_update_7 (lN_wN _).symm ?_
    refine v_stk (st' := [jv (wI n), iv 0, .ref (μ.2.1 60 0 0)]) (congrArg (fun z => [jv (wI n), iv 0, Value.ref z]) ha) ?_
    refine as_60 hC dL_update_8 h60 (by decide) ?_
    refine v_goto (tgt := 18) hC dL_update_9 (by decide) ?_
    refine v_iconst (v := nI 0) hC dL_update_18 (by decide) ?_
    refine v_iretN hC hM2 dL_update_19 (by omega) (by omega) ?_
    exact .inr ⟨n, μ, h, rfl, rfl⟩
  · rcases hx E μ h with rfl | rfl
    · refine v_catch (E := eNSE) (name := eNSE) hC [] { startPc := 0, endPc := 9, handlerPc := 12, catchType := 31 } [{ startPc := 0, endPc := 9, handlerPc := 15, catchType := 25 }] hM2.2.1 (fun z hz => by cases hz) (by decide) (by decide) cl_L_31 ct_eNSE (fun q => ?_)
      refine v_astore_n hC dL_update_12 (by decide) ?_
      refine v_iconst (v := nI 1) hC dL_update_13 (by decide) ?_
      refine v_iretN hC hM2 dL_update_14 (by omega) (by omega) ?_
      exact .inl ⟨_, h, by rw [cd_update_1]⟩
    · refine v_catch (E := eISE) (name := eISE) hC [{ startPc := 0, endPc := 9, handlerPc := 12, catchType := 31 }] { startPc := 0, endPc := 9, handlerPc := 15, catchType := 25 } [] hM2.2.1 (fun z hz => by
            simp only [List.mem_cons, List.not_mem_nil, or_false] at hz
            obtain rfl := hz
            · exact ⟨by decide, eNSE, cl_L_31, nc_at hN⟩) (by decide) (by decide) cl_L_25 ct_eISE (fun q => ?_)
      refine v_astore_n hC dL_update_15 (by decide) ?_
      refine v_iconst (v := nI 2) hC dL_update_16 (by decide) ?_
      refine v_iretN hC hM2 dL_update_17 (by omega) (by omega) ?_
      exact .inl ⟨_, h, by rw [cd_update_2]⟩
def cd_addTest : String → Nat := fun E => if E = eIOB then 1 else if E = eIAE then 2 else if E = eISE then 3 else 4
theorem cd_addTest_1 : cd_addTest eIOB = 1 := by decide
theorem cd_addTest_2 : cd_addTest eIAE = 2 := by decide
theorem cd_addTest_3 : cd_addTest eISE = 3 := by decide
theorem cd_addTest_4 : cd_addTest eUOE = 4 := by decide
theorem lkw_addTest : LkSW "BranchyardLaw" 197 yL_addTest cL_addTest 8 (some .int) [(0, 16, 19, 13), (0, 16, 23, 15), (0, 16, 27, 25), (0, 16, 31, 57)] 7 := ⟨⟨by decide +kernel, by decide +kernel, by decide +kernel, by decide +kernel⟩, by decide +kernel, by decide +kernel, by decide +kernel⟩
set_option maxHeartbeats 4000000 in
set_option maxRecDepth 100000 in
theorem w_addTest {l : Launch} (hl0 : l.stackTraces = false) {G : GT} {ok : KF} {ad : AD} {σ : SG} {p1 p2 p3 p4 p5 : Int32} {Pv : Option Value → MT → Prop} {Px : String → MT → Prop} {n1 mc1 ms1 : Nat} (hM : Ct l G n1 yX5_addTest cX5_addTest 8 (some .int) [.ref (ad 0 0 0), .int p1, .int p2, .int p3, .int p4, .int p5] ok ad σ Pv Px mc1 ms1) (hk : ok 0 0 0) (hv : ∀ v μ, Pv v μ → (∃ n, v = some (iv n)) ∧ μ.1 60 0 0 ∧ μ.2.1 60 0 0 = ad 60 0 0) (hx : ∀ E μ, Px E μ → E = eIOB ∨ E = eIAE ∨ E = eISE ∨ E = eUOE) : CtN l G (n1 + 1) yL_addTest cL_addTest 8 (some .int) [(0, 16, 19, 13), (0, 16, 23, 15), (0, 16, 27, 25), (0, 16, 31, 57)] [.ref (ad 0 0 0), .int p1, .int p2, .int p3, .int p4, .int p5, .ref (ad 60 0 0)] ok ad σ (WrP wI cd_addTest Pv Px) mc1 ms1 := by
  refine CtN.mk (by decide +kernel) hl0 (Nat.le_of_ble_eq_true rfl) (fun X hX hC hN hM2 => ?_)
  subst hX
  refine v_aload hC dL_addTest_0 rfl ?_
  refine v_iconst (v := nI 0) hC dL_addTest_2 (by decide) ?_
  refine v_aload_n hC dL_addTest_3 rfl ?_
  refine v_iload_n hC dL_addTest_4 rfl ?_
  refine v_iload_n hC dL_addTest_5 rfl ?_
  refine v_iload_n hC dL_addTest_6 rfl ?_
  refine v_iload hC dL_addTest_7 rfl ?_
  refine v_iload hC dL_addTest_9 rfl ?_
  refine v_callV hC lk_L_86 dL_addTest_11 hM (by omega) (by decide) hk rfl rfl rfl rfl (Nat.le_of_ble_eq_true rfl) (by omega) (by omega) (fun v μ h => ?_) (fun E μ h => ?_)
  · obtain ⟨⟨n, rfl⟩, h60, ha⟩ := hv v μ h
    refine v_i2l (v := lN (wI n)) hC dL_addTest_14 (lN_wN _).symm ?_
    refine v_stk (st' := [jv (wI n), iv 0, .ref (μ.2.1 60 0 0)]) (congrArg (fun z => [jv (wI n), iv 0, Value.ref z]) ha) ?_
    refine as_60 hC dL_addTest_15 h60 (by decide) ?_
    refine v_goto (tgt := 35) hC dL_addTest_16 (by decide) ?_
    refine v_iconst (v := nI 0) hC dL_addTest_35 (by decide) ?_
    refine v_iretN hC hM2 dL_addTest_36 (by omega) (by omega) ?_
    exact .inr ⟨n, μ, h, rfl, rfl⟩
  · rcases hx E μ h with rfl | rfl | rfl | rfl
    · refine v_catch (E := eIOB) (name := eIOB) hC [] { startPc := 0, endPc := 16, handlerPc := 19, catchType := 13 } [{ startPc := 0, endPc := 16, handlerPc := 23, catchType := 15 }, { startPc := 0, endPc := 16, handlerPc := 27, catchType := 25 }, { startPc := 0, endPc := 16, handlerPc := 31, catchType := 57 }] hM2.2.1 (fun z hz => by cases hz) (by decide) (by decide) cl_L_13 ct_eIOB (fun q => ?_)
      refine v_astore hC dL_addTest_19 (by decide) ?_
      refine v_iconst (v := nI 1) hC dL_addTest_21 (by decide) ?_
      refine v_iretN hC hM2 dL_addTest_22 (by omega) (by omega) ?_
      exact .inl ⟨_, h, by rw [cd_addTest_1]⟩
    · refine v_catch (E := eIAE) (name := eIAE) hC [{ startPc := 0, endPc := 16, handlerPc := 19, catchType := 13 }] { startPc := 0, endPc := 16, handlerPc := 23, catchType := 15 } [{ startPc := 0, endPc := 16, handlerPc := 27, catchType := 25 }, { startPc := 0, endPc := 16, handlerPc := 31, catchType := 57 }] hM2.2.1 (fun z hz => by
            simp only [List.mem_cons, List.not_mem_nil, or_false] at hz
            obtain rfl := hz
            · exact ⟨by decide, eIOB, cl_L_13, nc_at hN⟩) (by decide) (by decide) cl_L_15 ct_eIAE (fun q => ?_)
      refine v_astore hC dL_addTest_23 (by decide) ?_
      refine v_iconst (v := nI 2) hC dL_addTest_25 (by decide) ?_
      refine v_iretN hC hM2 dL_addTest_26 (by omega) (by omega) ?_
      exact .inl ⟨_, h, by rw [cd_addTest_2]⟩
    · refine v_catch (E := eISE) (name := eISE) hC [{ startPc := 0, endPc := 16, handlerPc := 19, catchType := 13 }, { startPc := 0, endPc := 16, handlerPc := 23, catchType := 15 }] { startPc := 0, endPc := 16, handlerPc := 27, catchType := 25 } [{ startPc := 0, endPc := 16, handlerPc := 31, catchType := 57 }] hM2.2.1 (fun z hz => by
            simp only [List.mem_cons, List.not_mem_nil, or_false] at hz
            rcases hz with rfl | rfl
            · exact ⟨by decide, eIOB, cl_L_13, nc_at hN⟩
            · exact ⟨by decide, eIAE, cl_L_15, nc_at hN⟩) (by decide) (by decide) cl_L_25 ct_eISE (fun q => ?_)
      refine v_astore hC dL_addTest_27 (by decide) ?_
      refine v_iconst (v := nI 3) hC dL_addTest_29 (by decide) ?_
      refine v_iretN hC hM2 dL_addTest_30 (by omega) (by omega) ?_
      exact .inl ⟨_, h, by rw [cd_addTest_3]⟩
    · refine v_catch (E := eUOE) (name := eUOE) hC [{ startPc := 0, endPc := 16, handlerPc := 19, catchType := 13 }, { startPc := 0, endPc := 16, handlerPc := 23, catchType := 15 }, { startPc := 0, endPc := 16, handlerPc := 27, catchType := 25 }] { startPc := 0, endPc := 16, handlerPc := 31, catchType := 57 } [] hM2.2.1 (fun z hz => by
            simp only [List.mem_cons, List.not_mem_nil, or_false] at hz
            rcases hz with rfl | rfl | rfl
            · exact ⟨by decide, eIOB, cl_L_13, nc_at hN⟩
            · exact ⟨by decide, eIAE, cl_L_15, nc_at hN⟩
            · exact ⟨by decide, eISE, cl_L_25, nc_at hN⟩) (by decide) (by decide) cl_L_57 ct_eUOE (fun q => ?_)
      refine v_astore hC dL_addTest_31 (by decide) ?_
      refine v_iconst (v := nI 4) hC dL_addTest_33 (by decide) ?_
      refine v_iretN hC hM2 dL_addTest_34 (by omega) (by omega) ?_
      exact .inl ⟨_, h, by rw [cd_addTest_4]⟩
def cd_dropTest : String → Nat := fun E => 1
theorem cd_dropTest_1 : cd_dropTest eNSE = 1 := by decide
theorem lkw_dropTest : LkSW "BranchyardLaw" 201 yL_dropTest cL_dropTest 4 (some .int) [(0, 9, 12, 31)] 3 := ⟨⟨by decide +kernel, by decide +kernel, by decide +kernel, by decide +kernel⟩, by decide +kernel, by decide +kernel, by decide +kernel⟩
set_option maxHeartbeats 4000000 in
set_option maxRecDepth 100000 in
theorem w_dropTest {l : Launch} (hl0 : l.stackTraces = false) {G : GT} {ok : KF} {ad : AD} {σ : SG} {p1 : Int32} {Pv : Option Value → MT → Prop} {Px : String → MT → Prop} {n1 mc1 ms1 : Nat} (hM : Ct l G n1 yX5_dropTest cX5_dropTest 2 (some .int) [.ref (ad 0 0 0), .int p1] ok ad σ Pv Px mc1 ms1) (hk : ok 0 0 0) (hv : ∀ v μ, Pv v μ → (∃ n, v = some (iv n)) ∧ μ.1 60 0 0 ∧ μ.2.1 60 0 0 = ad 60 0 0) (hx : ∀ E μ, Px E μ → E = eNSE) : CtN l G (n1 + 1) yL_dropTest cL_dropTest 4 (some .int) [(0, 9, 12, 31)] [.ref (ad 0 0 0), .int p1, .ref (ad 60 0 0)] ok ad σ (WrP wI cd_dropTest Pv Px) mc1 ms1 := by
  refine CtN.mk (by decide +kernel) hl0 (Nat.le_of_ble_eq_true rfl) (fun X hX hC hN hM2 => ?_)
  subst hX
  refine v_aload_n hC dL_dropTest_0 rfl ?_
  refine v_iconst (v := nI 0) hC dL_dropTest_1 (by decide) ?_
  refine v_aload_n hC dL_dropTest_2 rfl ?_
  refine v_iload_n hC dL_dropTest_3 rfl ?_
  refine v_callV hC lk_L_90 dL_dropTest_4 hM (by omega) (by decide) hk rfl rfl rfl rfl (Nat.le_of_ble_eq_true rfl) (by omega) (by omega) (fun v μ h => ?_) (fun E μ h => ?_)
  · obtain ⟨⟨n, rfl⟩, h60, ha⟩ := hv v μ h
    refine v_i2l (v := lN (wI n)) hC dL_dropTest_7 (lN_wN _).symm ?_
    refine v_stk (st' := [jv (wI n), iv 0, .ref (μ.2.1 60 0 0)]) (congrArg (fun z => [jv (wI n), iv 0, Value.ref z]) ha) ?_
    refine as_60 hC dL_dropTest_8 h60 (by decide) ?_
    refine v_goto (tgt := 15) hC dL_dropTest_9 (by decide) ?_
    refine v_iconst (v := nI 0) hC dL_dropTest_15 (by decide) ?_
    refine v_iretN hC hM2 dL_dropTest_16 (by omega) (by omega) ?_
    exact .inr ⟨n, μ, h, rfl, rfl⟩
  · obtain rfl := hx E μ h
    refine v_catch (E := eNSE) (name := eNSE) hC [] { startPc := 0, endPc := 9, handlerPc := 12, catchType := 31 } [] hM2.2.1 (fun z hz => by cases hz) (by decide) (by decide) cl_L_31 ct_eNSE (fun q => ?_)
    refine v_astore_n hC dL_dropTest_12 (by decide) ?_
    refine v_iconst (v := nI 1) hC dL_dropTest_13 (by decide) ?_
    refine v_iretN hC hM2 dL_dropTest_14 (by omega) (by omega) ?_
    exact .inl ⟨_, h, by rw [cd_dropTest_1]⟩
def cd_value : String → Nat := fun E => 1
theorem cd_value_1 : cd_value eIOB = 1 := by decide
theorem lkw_value : LkSW "BranchyardLaw" 204 yL_value cL_value 5 (some .int) [(0, 10, 13, 13)] 4 := ⟨⟨by decide +kernel, by decide +kernel, by decide +kernel, by decide +kernel⟩, by decide +kernel, by decide +kernel, by decide +kernel⟩
set_option maxHeartbeats 4000000 in
set_option maxRecDepth 100000 in
theorem w_value {l : Launch} (hl0 : l.stackTraces = false) {G : GT} {ok : KF} {ad : AD} {σ : SG} {p1 p2 : Int32} {Pv : Option Value → MT → Prop} {Px : String → MT → Prop} {n1 mc1 ms1 : Nat} (hM : Ct l G n1 yX5_value cX5_value 3 (some .int) [.ref (ad 0 0 0), .int p1, .int p2] ok ad σ Pv Px mc1 ms1) (hk : ok 0 0 0) (hv : ∀ v μ, Pv v μ → (∃ n, v = some (iv n)) ∧ μ.1 60 0 0 ∧ μ.2.1 60 0 0 = ad 60 0 0) (hx : ∀ E μ, Px E μ → E = eIOB) : CtN l G (n1 + 1) yL_value cL_value 5 (some .int) [(0, 10, 13, 13)] [.ref (ad 0 0 0), .int p1, .int p2, .ref (ad 60 0 0)] ok ad σ (WrP wI cd_value Pv Px) mc1 ms1 := by
  refine CtN.mk (by decide +kernel) hl0 (Nat.le_of_ble_eq_true rfl) (fun X hX hC hN hM2 => ?_)
  subst hX
  refine v_aload_n hC dL_value_0 rfl ?_
  refine v_iconst (v := nI 0) hC dL_value_1 (by decide) ?_
  refine v_aload_n hC dL_value_2 rfl ?_
  refine v_iload_n hC dL_value_3 rfl ?_
  refine v_iload_n hC dL_value_4 rfl ?_
  refine v_callV hC lk_L_93 dL_value_5 hM (by omega) (by decide) hk rfl rfl rfl rfl (Nat.le_of_ble_eq_true rfl) (by omega) (by omega) (fun v μ h => ?_) (fun E μ h => ?_)
  · obtain ⟨⟨n, rfl⟩, h60, ha⟩ := hv v μ h
    refine v_i2l (v := lN (wI n)) hC dL_value_8 (lN_wN _).symm ?_
    refine v_stk (st' := [jv (wI n), iv 0, .ref (μ.2.1 60 0 0)]) (congrArg (fun z => [jv (wI n), iv 0, Value.ref z]) ha) ?_
    refine as_60 hC dL_value_9 h60 (by decide) ?_
    refine v_goto (tgt := 17) hC dL_value_10 (by decide) ?_
    refine v_iconst (v := nI 0) hC dL_value_17 (by decide) ?_
    refine v_iretN hC hM2 dL_value_18 (by omega) (by omega) ?_
    exact .inr ⟨n, μ, h, rfl, rfl⟩
  · obtain rfl := hx E μ h
    refine v_catch (E := eIOB) (name := eIOB) hC [] { startPc := 0, endPc := 10, handlerPc := 13, catchType := 13 } [] hM2.2.1 (fun z hz => by cases hz) (by decide) (by decide) cl_L_13 ct_eIOB (fun q => ?_)
    refine v_astore hC dL_value_13 (by decide) ?_
    refine v_iconst (v := nI 1) hC dL_value_15 (by decide) ?_
    refine v_iretN hC hM2 dL_value_16 (by omega) (by omega) ?_
    exact .inl ⟨_, h, by rw [cd_value_1]⟩
def cd_valueByMerges : String → Nat := fun E => 1
theorem cd_valueByMerges_1 : cd_valueByMerges eIOB = 1 := by decide
theorem lkw_valueByMerges : LkSW "BranchyardLaw" 207 yL_valueByMerges cL_valueByMerges 5 (some .int) [(0, 10, 13, 13)] 4 := ⟨⟨by decide +kernel, by decide +kernel, by decide +kernel, by decide +kernel⟩, by decide +kernel, by decide +kernel, by decide +kernel⟩
set_option maxHeartbeats 4000000 in
set_option maxRecDepth 100000 in
theorem w_valueByMerges {l : Launch} (hl0 : l.stackTraces = false) {G : GT} {ok : KF} {ad : AD} {σ : SG} {p1 p2 : Int32} {Pv : Option Value → MT → Prop} {Px : String → MT → Prop} {n1 mc1 ms1 : Nat} (hM : Ct l G n1 yX5_valueByMerges cX5_valueByMerges 3 (some .int) [.ref (ad 0 0 0), .int p1, .int p2] ok ad σ Pv Px mc1 ms1) (hk : ok 0 0 0) (hv : ∀ v μ, Pv v μ → (∃ n, v = some (iv n)) ∧ μ.1 60 0 0 ∧ μ.2.1 60 0 0 = ad 60 0 0) (hx : ∀ E μ, Px E μ → E = eIOB) : CtN l G (n1 + 1) yL_valueByMerges cL_valueByMerges 5 (some .int) [(0, 10, 13, 13)] [.ref (ad 0 0 0), .int p1, .int p2, .ref (ad 60 0 0)] ok ad σ (WrP wI cd_valueByMerges Pv Px) mc1 ms1 := by
  refine CtN.mk (by decide +kernel) hl0 (Nat.le_of_ble_eq_true rfl) (fun X hX hC hN hM2 => ?_)
  subst hX
  refine v_aload_n hC dL_valueByMerges_0 rfl ?_
  refine v_iconst (v := nI 0) hC dL_valueByMerges_1 (by decide) ?_
  refine v_aload_n hC dL_valueByMerges_2 rfl ?_
  refine v_iload_n hC dL_valueByMerges_3 rfl ?_
  refine v_iload_n hC dL_valueByMerges_4 rfl ?_
  refine v_callV hC lk_L_96 dL_valueByMerges_5 hM (by omega) (by decide) hk rfl rfl rfl rfl (Nat.le_of_ble_eq_true rfl) (by omega) (by omega) (fun v μ h => ?_) (fun E μ h => ?_)
  · obtain ⟨⟨n, rfl⟩, h60, ha⟩ := hv v μ h
    refine v_i2l (v := lN (wI n)) hC dL_valueByMerges_8 (lN_wN _).symm ?_
    refine v_stk (st' := [jv (wI n), iv 0, .ref (μ.2.1 60 0 0)]) (congrArg (fun z => [jv (wI n), iv 0, Value.ref z]) ha) ?_
    refine as_60 hC dL_valueByMerges_9 h60 (by decide) ?_
    refine v_goto (tgt := 17) hC dL_valueByMerges_10 (by decide) ?_
    refine v_iconst (v := nI 0) hC dL_valueByMerges_17 (by decide) ?_
    refine v_iretN hC hM2 dL_valueByMerges_18 (by omega) (by omega) ?_
    exact .inr ⟨n, μ, h, rfl, rfl⟩
  · obtain rfl := hx E μ h
    refine v_catch (E := eIOB) (name := eIOB) hC [] { startPc := 0, endPc := 10, handlerPc := 13, catchType := 13 } [] hM2.2.1 (fun z hz => by cases hz) (by decide) (by decide) cl_L_13 ct_eIOB (fun q => ?_)
    refine v_astore hC dL_valueByMerges_13 (by decide) ?_
    refine v_iconst (v := nI 1) hC dL_valueByMerges_15 (by decide) ?_
    refine v_iretN hC hM2 dL_valueByMerges_16 (by omega) (by omega) ?_
    exact .inl ⟨_, h, by rw [cd_valueByMerges_1]⟩
def cd_valueWith : String → Nat := fun E => if E = eNSE then 1 else 2
theorem cd_valueWith_1 : cd_valueWith eNSE = 1 := by decide
theorem cd_valueWith_2 : cd_valueWith eIOB = 2 := by decide
theorem lkw_valueWith : LkSW "BranchyardLaw" 210 yL_valueWith cL_valueWith 6 (some .int) [(0, 12, 15, 31), (0, 12, 19, 13)] 5 := ⟨⟨by decide +kernel, by decide +kernel, by decide +kernel, by decide +kernel⟩, by decide +kernel, by decide +kernel, by decide +kernel⟩
set_option maxHeartbeats 4000000 in
set_option maxRecDepth 100000 in
theorem w_valueWith {l : Launch} (hl0 : l.stackTraces = false) {G : GT} {ok : KF} {ad : AD} {σ : SG} {p1 p2 p3 : Int32} {Pv : Option Value → MT → Prop} {Px : String → MT → Prop} {n1 mc1 ms1 : Nat} (hM : Ct l G n1 yX5_valueWith cX5_valueWith 6 (some .int) [.ref (ad 0 0 0), .int p1, .int p2, .int p3] ok ad σ Pv Px mc1 ms1) (hk : ok 0 0 0) (hv : ∀ v μ, Pv v μ → (∃ n, v = some (iv n)) ∧ μ.1 60 0 0 ∧ μ.2.1 60 0 0 = ad 60 0 0) (hx : ∀ E μ, Px E μ → E = eNSE ∨ E = eIOB) : CtN l G (n1 + 1) yL_valueWith cL_valueWith 6 (some .int) [(0, 12, 15, 31), (0, 12, 19, 13)] [.ref (ad 0 0 0), .int p1, .int p2, .int p3, .ref (ad 60 0 0)] ok ad σ (WrP wI cd_valueWith Pv Px) mc1 ms1 := by
  refine CtN.mk (by decide +kernel) hl0 (Nat.le_of_ble_eq_true rfl) (fun X hX hC hN hM2 => ?_)
  subst hX
  refine v_aload hC dL_valueWith_0 rfl ?_
  refine v_iconst (v := nI 0) hC dL_valueWith_2 (by decide) ?_
  refine v_aload_n hC dL_valueWith_3 rfl ?_
  refine v_iload_n hC dL_valueWith_4 rfl ?_
  refine v_iload_n hC dL_valueWith_5 rfl ?_
  refine v_iload_n hC dL_valueWith_6 rfl ?_
  refine v_callV hC lk_L_99 dL_valueWith_7 hM (by omega) (by decide) hk rfl rfl rfl rfl (Nat.le_of_ble_eq_true rfl) (by omega) (by omega) (fun v μ h => ?_) (fun E μ h => ?_)
  · obtain ⟨⟨n, rfl⟩, h60, ha⟩ := hv v μ h
    refine v_i2l (v := lN (wI n)) hC dL_valueWith_10 (lN_wN _).symm ?_
    refine v_stk (st' := [jv (wI n), iv 0, .ref (μ.2.1 60 0 0)]) (congrArg (fun z => [jv (wI n), iv 0, Value.ref z]) ha) ?_
    refine as_60 hC dL_valueWith_11 h60 (by decide) ?_
    refine v_goto (tgt := 23) hC dL_valueWith_12 (by decide) ?_
    refine v_iconst (v := nI 0) hC dL_valueWith_23 (by decide) ?_
    refine v_iretN hC hM2 dL_valueWith_24 (by omega) (by omega) ?_
    exact .inr ⟨n, μ, h, rfl, rfl⟩
  · rcases hx E μ h with rfl | rfl
    · refine v_catch (E := eNSE) (name := eNSE) hC [] { startPc := 0, endPc := 12, handlerPc := 15, catchType := 31 } [{ startPc := 0, endPc := 12, handlerPc := 19, catchType := 13 }] hM2.2.1 (fun z hz => by cases hz) (by decide) (by decide) cl_L_31 ct_eNSE (fun q => ?_)
      refine v_astore hC dL_valueWith_15 (by decide) ?_
      refine v_iconst (v := nI 1) hC dL_valueWith_17 (by decide) ?_
      refine v_iretN hC hM2 dL_valueWith_18 (by omega) (by omega) ?_
      exact .inl ⟨_, h, by rw [cd_valueWith_1]⟩
    · refine v_catch (E := eIOB) (name := eIOB) hC [{ startPc := 0, endPc := 12, handlerPc := 15, catchType := 31 }] { startPc := 0, endPc := 12, handlerPc := 19, catchType := 13 } [] hM2.2.1 (fun z hz => by
            simp only [List.mem_cons, List.not_mem_nil, or_false] at hz
            obtain rfl := hz
            · exact ⟨by decide, eNSE, cl_L_31, nc_at hN⟩) (by decide) (by decide) cl_L_13 ct_eIOB (fun q => ?_)
      refine v_astore hC dL_valueWith_19 (by decide) ?_
      refine v_iconst (v := nI 2) hC dL_valueWith_21 (by decide) ?_
      refine v_iretN hC hM2 dL_valueWith_22 (by omega) (by omega) ?_
      exact .inl ⟨_, h, by rw [cd_valueWith_2]⟩
def cd_along : String → Nat := fun E => if E = eNSE then 1 else 2
theorem cd_along_1 : cd_along eNSE = 1 := by decide
theorem cd_along_2 : cd_along eISE = 2 := by decide
theorem lkw_along : LkSW "BranchyardLaw" 213 yL_along cL_along 4 (some .int) [(0, 9, 12, 31), (0, 9, 15, 25)] 3 := ⟨⟨by decide +kernel, by decide +kernel, by decide +kernel, by decide +kernel⟩, by decide +kernel, by decide +kernel, by decide +kernel⟩
set_option maxHeartbeats 4000000 in
set_option maxRecDepth 100000 in
theorem w_along {l : Launch} (hl0 : l.stackTraces = false) {G : GT} {ok : KF} {ad : AD} {σ : SG} {p1 : Int32} {Pv : Option Value → MT → Prop} {Px : String → MT → Prop} {n1 mc1 ms1 : Nat} (hM : Ct l G n1 yX5_along cX5_along 2 (some .int) [.ref (ad 0 0 0), .int p1] ok ad σ Pv Px mc1 ms1) (hk : ok 0 0 0) (hv : ∀ v μ, Pv v μ → (∃ n, v = some (iv n)) ∧ μ.1 60 0 0 ∧ μ.2.1 60 0 0 = ad 60 0 0) (hx : ∀ E μ, Px E μ → E = eNSE ∨ E = eISE) : CtN l G (n1 + 1) yL_along cL_along 4 (some .int) [(0, 9, 12, 31), (0, 9, 15, 25)] [.ref (ad 0 0 0), .int p1, .ref (ad 60 0 0)] ok ad σ (WrP wI cd_along Pv Px) mc1 ms1 := by
  refine CtN.mk (by decide +kernel) hl0 (Nat.le_of_ble_eq_true rfl) (fun X hX hC hN hM2 => ?_)
  subst hX
  refine v_aload_n hC dL_along_0 rfl ?_
  refine v_iconst (v := nI 0) hC dL_along_1 (by decide) ?_
  refine v_aload_n hC dL_along_2 rfl ?_
  refine v_iload_n hC dL_along_3 rfl ?_
  refine v_callV hC lk_L_102 dL_along_4 hM (by omega) (by decide) hk rfl rfl rfl rfl (Nat.le_of_ble_eq_true rfl) (by omega) (by omega) (fun v μ h => ?_) (fun E μ h => ?_)
  · obtain ⟨⟨n, rfl⟩, h60, ha⟩ := hv v μ h
    refine v_i2l (v := lN (wI n)) hC dL_along_7 (lN_wN _).symm ?_
    refine v_stk (st' := [jv (wI n), iv 0, .ref (μ.2.1 60 0 0)]) (congrArg (fun z => [jv (wI n), iv 0, Value.ref z]) ha) ?_
    refine as_60 hC dL_along_8 h60 (by decide) ?_
    refine v_goto (tgt := 18) hC dL_along_9 (by decide) ?_
    refine v_iconst (v := nI 0) hC dL_along_18 (by decide) ?_
    refine v_iretN hC hM2 dL_along_19 (by omega) (by omega) ?_
    exact .inr ⟨n, μ, h, rfl, rfl⟩
  · rcases hx E μ h with rfl | rfl
    · refine v_catch (E := eNSE) (name := eNSE) hC [] { startPc := 0, endPc := 9, handlerPc := 12, catchType := 31 } [{ startPc := 0, endPc := 9, handlerPc := 15, catchType := 25 }] hM2.2.1 (fun z hz => by cases hz) (by decide) (by decide) cl_L_31 ct_eNSE (fun q => ?_)
      refine v_astore_n hC dL_along_12 (by decide) ?_
      refine v_iconst (v := nI 1) hC dL_along_13 (by decide) ?_
      refine v_iretN hC hM2 dL_along_14 (by omega) (by omega) ?_
      exact .inl ⟨_, h, by rw [cd_along_1]⟩
    · refine v_catch (E := eISE) (name := eISE) hC [{ startPc := 0, endPc := 9, handlerPc := 12, catchType := 31 }] { startPc := 0, endPc := 9, handlerPc := 15, catchType := 25 } [] hM2.2.1 (fun z hz => by
            simp only [List.mem_cons, List.not_mem_nil, or_false] at hz
            obtain rfl := hz
            · exact ⟨by decide, eNSE, cl_L_31, nc_at hN⟩) (by decide) (by decide) cl_L_25 ct_eISE (fun q => ?_)
      refine v_astore_n hC dL_along_15 (by decide) ?_
      refine v_iconst (v := nI 2) hC dL_along_16 (by decide) ?_
      refine v_iretN hC hM2 dL_along_17 (by omega) (by omega) ?_
      exact .inl ⟨_, h, by rw [cd_along_2]⟩
def cd_revert : String → Nat := fun E => if E = eNSE then 1 else if E = eISE then 2 else 3
theorem cd_revert_1 : cd_revert eNSE = 1 := by decide
theorem cd_revert_2 : cd_revert eISE = 2 := by decide
theorem cd_revert_3 : cd_revert eUOE = 3 := by decide
theorem lkw_revert : LkSW "BranchyardLaw" 216 yL_revert cL_revert 4 (some .int) [(0, 9, 12, 31), (0, 9, 15, 25), (0, 9, 18, 57)] 3 := ⟨⟨by decide +kernel, by decide +kernel, by decide +kernel, by decide +kernel⟩, by decide +kernel, by decide +kernel, by decide +kernel⟩
set_option maxHeartbeats 4000000 in
set_option maxRecDepth 100000 in
theorem w_revert {l : Launch} (hl0 : l.stackTraces = false) {G : GT} {ok : KF} {ad : AD} {σ : SG} {p1 : Int32} {Pv : Option Value → MT → Prop} {Px : String → MT → Prop} {n1 mc1 ms1 : Nat} (hM : Ct l G n1 yX5_revert cX5_revert 3 (some .int) [.ref (ad 0 0 0), .int p1] ok ad σ Pv Px mc1 ms1) (hk : ok 0 0 0) (hv : ∀ v μ, Pv v μ → (∃ n, v = some (iv n)) ∧ μ.1 60 0 0 ∧ μ.2.1 60 0 0 = ad 60 0 0) (hx : ∀ E μ, Px E μ → E = eNSE ∨ E = eISE ∨ E = eUOE) : CtN l G (n1 + 1) yL_revert cL_revert 4 (some .int) [(0, 9, 12, 31), (0, 9, 15, 25), (0, 9, 18, 57)] [.ref (ad 0 0 0), .int p1, .ref (ad 60 0 0)] ok ad σ (WrP wI cd_revert Pv Px) mc1 ms1 := by
  refine CtN.mk (by decide +kernel) hl0 (Nat.le_of_ble_eq_true rfl) (fun X hX hC hN hM2 => ?_)
  subst hX
  refine v_aload_n hC dL_revert_0 rfl ?_
  refine v_iconst (v := nI 0) hC dL_revert_1 (by decide) ?_
  refine v_aload_n hC dL_revert_2 rfl ?_
  refine v_iload_n hC dL_revert_3 rfl ?_
  refine v_callV hC lk_L_105 dL_revert_4 hM (by omega) (by decide) hk rfl rfl rfl rfl (Nat.le_of_ble_eq_true rfl) (by omega) (by omega) (fun v μ h => ?_) (fun E μ h => ?_)
  · obtain ⟨⟨n, rfl⟩, h60, ha⟩ := hv v μ h
    refine v_i2l (v := lN (wI n)) hC dL_revert_7 (lN_wN _).symm ?_
    refine v_stk (st' := [jv (wI n), iv 0, .ref (μ.2.1 60 0 0)]) (congrArg (fun z => [jv (wI n), iv 0, Value.ref z]) ha) ?_
    refine as_60 hC dL_revert_8 h60 (by decide) ?_
    refine v_goto (tgt := 21) hC dL_revert_9 (by decide) ?_
    refine v_iconst (v := nI 0) hC dL_revert_21 (by decide) ?_
    refine v_iretN hC hM2 dL_revert_22 (by omega) (by omega) ?_
    exact .inr ⟨n, μ, h, rfl, rfl⟩
  · rcases hx E μ h with rfl | rfl | rfl
    · refine v_catch (E := eNSE) (name := eNSE) hC [] { startPc := 0, endPc := 9, handlerPc := 12, catchType := 31 } [{ startPc := 0, endPc := 9, handlerPc := 15, catchType := 25 }, { startPc := 0, endPc := 9, handlerPc := 18, catchType := 57 }] hM2.2.1 (fun z hz => by cases hz) (by decide) (by decide) cl_L_31 ct_eNSE (fun q => ?_)
      refine v_astore_n hC dL_revert_12 (by decide) ?_
      refine v_iconst (v := nI 1) hC dL_revert_13 (by decide) ?_
      refine v_iretN hC hM2 dL_revert_14 (by omega) (by omega) ?_
      exact .inl ⟨_, h, by rw [cd_revert_1]⟩
    · refine v_catch (E := eISE) (name := eISE) hC [{ startPc := 0, endPc := 9, handlerPc := 12, catchType := 31 }] { startPc := 0, endPc := 9, handlerPc := 15, catchType := 25 } [{ startPc := 0, endPc := 9, handlerPc := 18, catchType := 57 }] hM2.2.1 (fun z hz => by
            simp only [List.mem_cons, List.not_mem_nil, or_false] at hz
            obtain rfl := hz
            · exact ⟨by decide, eNSE, cl_L_31, nc_at hN⟩) (by decide) (by decide) cl_L_25 ct_eISE (fun q => ?_)
      refine v_astore_n hC dL_revert_15 (by decide) ?_
      refine v_iconst (v := nI 2) hC dL_revert_16 (by decide) ?_
      refine v_iretN hC hM2 dL_revert_17 (by omega) (by omega) ?_
      exact .inl ⟨_, h, by rw [cd_revert_2]⟩
    · refine v_catch (E := eUOE) (name := eUOE) hC [{ startPc := 0, endPc := 9, handlerPc := 12, catchType := 31 }, { startPc := 0, endPc := 9, handlerPc := 15, catchType := 25 }] { startPc := 0, endPc := 9, handlerPc := 18, catchType := 57 } [] hM2.2.1 (fun z hz => by
            simp only [List.mem_cons, List.not_mem_nil, or_false] at hz
            rcases hz with rfl | rfl
            · exact ⟨by decide, eNSE, cl_L_31, nc_at hN⟩
            · exact ⟨by decide, eISE, cl_L_25, nc_at hN⟩) (by decide) (by decide) cl_L_57 ct_eUOE (fun q => ?_)
      refine v_astore_n hC dL_revert_18 (by decide) ?_
      refine v_iconst (v := nI 3) hC dL_revert_19 (by decide) ?_
      refine v_iretN hC hM2 dL_revert_20 (by omega) (by omega) ?_
      exact .inl ⟨_, h, by rw [cd_revert_3]⟩
def cd_mergedAt : String → Nat := fun E => 1
theorem cd_mergedAt_1 : cd_mergedAt eIOB = 1 := by decide
theorem lkw_mergedAt : LkSW "BranchyardLaw" 219 yL_mergedAt cL_mergedAt 4 (some .int) [(0, 9, 12, 13)] 3 := ⟨⟨by decide +kernel, by decide +kernel, by decide +kernel, by decide +kernel⟩, by decide +kernel, by decide +kernel, by decide +kernel⟩
set_option maxHeartbeats 4000000 in
set_option maxRecDepth 100000 in
theorem w_mergedAt {l : Launch} (hl0 : l.stackTraces = false) {G : GT} {ok : KF} {ad : AD} {σ : SG} {p1 : Int32} {Pv : Option Value → MT → Prop} {Px : String → MT → Prop} {n1 mc1 ms1 : Nat} (hM : Ct l G n1 yX5_mergedAt cX5_mergedAt 2 (some .int) [.ref (ad 0 0 0), .int p1] ok ad σ Pv Px mc1 ms1) (hk : ok 0 0 0) (hv : ∀ v μ, Pv v μ → (∃ n, v = some (iv n)) ∧ μ.1 60 0 0 ∧ μ.2.1 60 0 0 = ad 60 0 0) (hx : ∀ E μ, Px E μ → E = eIOB) : CtN l G (n1 + 1) yL_mergedAt cL_mergedAt 4 (some .int) [(0, 9, 12, 13)] [.ref (ad 0 0 0), .int p1, .ref (ad 60 0 0)] ok ad σ (WrP wI cd_mergedAt Pv Px) mc1 ms1 := by
  refine CtN.mk (by decide +kernel) hl0 (Nat.le_of_ble_eq_true rfl) (fun X hX hC hN hM2 => ?_)
  subst hX
  refine v_aload_n hC dL_mergedAt_0 rfl ?_
  refine v_iconst (v := nI 0) hC dL_mergedAt_1 (by decide) ?_
  refine v_aload_n hC dL_mergedAt_2 rfl ?_
  refine v_iload_n hC dL_mergedAt_3 rfl ?_
  refine v_callV hC lk_L_108 dL_mergedAt_4 hM (by omega) (by decide) hk rfl rfl rfl rfl (Nat.le_of_ble_eq_true rfl) (by omega) (by omega) (fun v μ h => ?_) (fun E μ h => ?_)
  · obtain ⟨⟨n, rfl⟩, h60, ha⟩ := hv v μ h
    refine v_i2l (v := lN (wI n)) hC dL_mergedAt_7 (lN_wN _).symm ?_
    refine v_stk (st' := [jv (wI n), iv 0, .ref (μ.2.1 60 0 0)]) (congrArg (fun z => [jv (wI n), iv 0, Value.ref z]) ha) ?_
    refine as_60 hC dL_mergedAt_8 h60 (by decide) ?_
    refine v_goto (tgt := 15) hC dL_mergedAt_9 (by decide) ?_
    refine v_iconst (v := nI 0) hC dL_mergedAt_15 (by decide) ?_
    refine v_iretN hC hM2 dL_mergedAt_16 (by omega) (by omega) ?_
    exact .inr ⟨n, μ, h, rfl, rfl⟩
  · obtain rfl := hx E μ h
    refine v_catch (E := eIOB) (name := eIOB) hC [] { startPc := 0, endPc := 9, handlerPc := 12, catchType := 13 } [] hM2.2.1 (fun z hz => by cases hz) (by decide) (by decide) cl_L_13 ct_eIOB (fun q => ?_)
    refine v_astore_n hC dL_mergedAt_12 (by decide) ?_
    refine v_iconst (v := nI 1) hC dL_mergedAt_13 (by decide) ?_
    refine v_iretN hC hM2 dL_mergedAt_14 (by omega) (by omega) ?_
    exact .inl ⟨_, h, by rw [cd_mergedAt_1]⟩
def cd_isGood : String → Nat := fun E => 1
theorem cd_isGood_1 : cd_isGood eIOB = 1 := by decide
theorem lkw_isGood : LkSW "BranchyardLaw" 222 yL_isGood cL_isGood 4 (some .int) [(0, 16, 19, 13)] 3 := ⟨⟨by decide +kernel, by decide +kernel, by decide +kernel, by decide +kernel⟩, by decide +kernel, by decide +kernel, by decide +kernel⟩
set_option maxHeartbeats 4000000 in
set_option maxRecDepth 100000 in
theorem w_isGood {l : Launch} (hl0 : l.stackTraces = false) {G : GT} {ok : KF} {ad : AD} {σ : SG} {p1 : Int32} {Pv : Option Value → MT → Prop} {Px : String → MT → Prop} {n1 mc1 ms1 : Nat} (hM : Ct l G n1 yX5_isGood cX5_isGood 2 (some .boolean) [.ref (ad 0 0 0), .int p1] ok ad σ Pv Px mc1 ms1) (hk : ok 0 0 0) (hv : ∀ v μ, Pv v μ → (∃ n, v = some (iv n)) ∧ μ.1 60 0 0 ∧ μ.2.1 60 0 0 = ad 60 0 0) (hx : ∀ E μ, Px E μ → E = eIOB) : CtN l G (n1 + 1) yL_isGood cL_isGood 4 (some .int) [(0, 16, 19, 13)] [.ref (ad 0 0 0), .int p1, .ref (ad 60 0 0)] ok ad σ (WrP wB cd_isGood Pv Px) mc1 ms1 := by
  refine CtN.mk (by decide +kernel) hl0 (Nat.le_of_ble_eq_true rfl) (fun X hX hC hN hM2 => ?_)
  subst hX
  refine v_aload_n hC dL_isGood_0 rfl ?_
  refine v_iconst (v := nI 0) hC dL_isGood_1 (by decide) ?_
  refine v_aload_n hC dL_isGood_2 rfl ?_
  refine v_iload_n hC dL_isGood_3 rfl ?_
  refine v_callV hC lk_L_111 dL_isGood_4 hM (by omega) (by decide) hk rfl rfl rfl rfl (Nat.le_of_ble_eq_true rfl) (by omega) (by omega) (fun v μ h => ?_) (fun E μ h => ?_)
  · obtain ⟨⟨n, rfl⟩, h60, ha⟩ := hv v μ h
    refine v_if_eq (tgt := 14) hC dL_isGood_7 (by decide) (fun c => ?_) (fun c => ?_)
    · refine v_lconst (v := lN 0) hC dL_isGood_14 (by decide) ?_
      refine v_stk (st' := [jv (0), iv 0, .ref (μ.2.1 60 0 0)]) (congrArg (fun z => [jv (0), iv 0, Value.ref z]) ha) ?_
      refine as_60 hC dL_isGood_15 h60 (by decide) ?_
      refine v_goto (tgt := 22) hC dL_isGood_16 (by decide) ?_
      refine v_iconst (v := nI 0) hC dL_isGood_22 (by decide) ?_
      refine v_iretN hC hM2 dL_isGood_23 (by omega) (by omega) ?_
      exact .inr ⟨n, μ, h, rfl, by rw [show wB n = 0 from if_pos c]⟩
    · refine v_lconst (v := lN 1) hC dL_isGood_10 (by decide) ?_
      refine v_goto (tgt := 15) hC dL_isGood_11 (by decide) ?_
      refine v_stk (st' := [jv (1), iv 0, .ref (μ.2.1 60 0 0)]) (congrArg (fun z => [jv (1), iv 0, Value.ref z]) ha) ?_
      refine as_60 hC dL_isGood_15 h60 (by decide) ?_
      refine v_goto (tgt := 22) hC dL_isGood_16 (by decide) ?_
      refine v_iconst (v := nI 0) hC dL_isGood_22 (by decide) ?_
      refine v_iretN hC hM2 dL_isGood_23 (by omega) (by omega) ?_
      exact .inr ⟨n, μ, h, rfl, by rw [show wB n = 1 from if_neg c]⟩
  · obtain rfl := hx E μ h
    refine v_catch (E := eIOB) (name := eIOB) hC [] { startPc := 0, endPc := 16, handlerPc := 19, catchType := 13 } [] hM2.2.1 (fun z hz => by cases hz) (by decide) (by decide) cl_L_13 ct_eIOB (fun q => ?_)
    refine v_astore_n hC dL_isGood_19 (by decide) ?_
    refine v_iconst (v := nI 1) hC dL_isGood_20 (by decide) ?_
    refine v_iretN hC hM2 dL_isGood_21 (by omega) (by omega) ?_
    exact .inl ⟨_, h, by rw [cd_isGood_1]⟩
