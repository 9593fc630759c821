/-! ===== BEGIN printed: names, fields, word lists, decode rows ===== -/
def RX0 : String := "Branchyard$Cell"
def TX0 : u_T := fun k => match k with
  | 0 => ("Branchyard$Cell", "inputs", "[I", true)
  | 1 => ("Branchyard$Cell", "good", "Z", true)
  | _ => ("Branchyard$Cell", "next", "LBranchyard$Cell;", true)
def tyX0 : Nat → FieldType := fun k => match k with
  | 0 => .array .int
  | 1 => .boolean
  | _ => .object "Branchyard$Cell"
abbrev wsX00 : List Cond := u_ws RX0 TX0 3
theorem nmX0 : ∀ a, a < 3 → ∀ b, b < 3 → a ≠ b → (TX0 a).2.1 ≠ (TX0 b).2.1 := by decide +kernel
theorem tyX0_ok : ∀ k, k < 3 → parseFieldDescriptor (TX0 k).2.2.1 = some (tyX0 k) := by decide +kernel
abbrev cX0_init : ByteArray := prog_2_method_1_code
def yX0_init : MethodName := ⟨RX0, "<init>", "([IZLBranchyard$Cell;)V"⟩
abbrev cX0_holds : ByteArray := prog_2_method_2_code
def yX0_holds : MethodName := ⟨RX0, "holds", "([II)Z"⟩
def RX1 : String := "Branchyard$Change"
def TX1 : u_T := fun k => match k with
  | 0 => ("Branchyard$Change", "author", "I", false)
  | 1 => ("Branchyard$Change", "state", "C", false)
  | 2 => ("Branchyard$Change", "failed", "Z", false)
  | 3 => ("Branchyard$Change", "edits", "J", false)
  | 4 => ("Branchyard$Change", "clashing", "J", false)
  | 5 => ("Branchyard$Change", "values", "[I", true)
  | 6 => ("Branchyard$Change", "votes", "[I", true)
  | 7 => ("Branchyard$Change", "coveredPlaces", "[J", true)
  | _ => ("Branchyard$Change", "coveredValues", "[[I", true)
def tyX1 : Nat → FieldType := fun k => match k with
  | 0 => .int
  | 1 => .char
  | 2 => .boolean
  | 3 => .long
  | 4 => .long
  | 5 => .array .int
  | 6 => .array .int
  | 7 => .array .long
  | _ => .array (.array .int)
abbrev wsX10 : List Cond := u_ws RX1 TX1 9
theorem nmX1 : ∀ a, a < 9 → ∀ b, b < 9 → a ≠ b → (TX1 a).2.1 ≠ (TX1 b).2.1 := by decide +kernel
theorem tyX1_ok : ∀ k, k < 9 → parseFieldDescriptor (TX1 k).2.2.1 = some (tyX1 k) := by decide +kernel
abbrev cX1_init : ByteArray := prog_3_method_1_code
def yX1_init : MethodName := ⟨RX1, "<init>", "()V"⟩
abbrev cX1_editCount : ByteArray := prog_3_method_2_code
def yX1_editCount : MethodName := ⟨RX1, "editCount", "()I"⟩
abbrev cX1_clashCount : ByteArray := prog_3_method_3_code
def yX1_clashCount : MethodName := ⟨RX1, "clashCount", "()I"⟩
abbrev cX1_hasEdit : ByteArray := prog_3_method_4_code
def yX1_hasEdit : MethodName := ⟨RX1, "hasEdit", "(I)Z"⟩
abbrev cX1_putEdit : ByteArray := prog_3_method_5_code
def yX1_putEdit : MethodName := ⟨RX1, "putEdit", "(II)V"⟩
abbrev cX1_removeEdit : ByteArray := prog_3_method_6_code
def yX1_removeEdit : MethodName := ⟨RX1, "removeEdit", "(I)V"⟩
abbrev cX1_touches : ByteArray := prog_3_method_7_code
def yX1_touches : MethodName := ⟨RX1, "touches", "(I)Z"⟩
abbrev cX1_applyTo : ByteArray := prog_3_method_8_code
def yX1_applyTo : MethodName := ⟨RX1, "applyTo", "([I)V"⟩
abbrev cX1_voteFor : ByteArray := prog_3_method_9_code
def yX1_voteFor : MethodName := ⟨RX1, "voteFor", "(I)V"⟩
abbrev cX1_voteAgainst : ByteArray := prog_3_method_10_code
def yX1_voteAgainst : MethodName := ⟨RX1, "voteAgainst", "(I)V"⟩
abbrev cX1_verdictBy : ByteArray := prog_3_method_11_code
def yX1_verdictBy : MethodName := ⟨RX1, "verdictBy", "(II)C"⟩
abbrev cX1_coversAll : ByteArray := prog_3_method_12_code
def yX1_coversAll : MethodName := ⟨RX1, "coversAll", "(II)Z"⟩
abbrev cX1_covers : ByteArray := prog_3_method_13_code
def yX1_covers : MethodName := ⟨RX1, "covers", "(II)Z"⟩
abbrev cX1_bringUpToDate : ByteArray := prog_3_method_14_code
def yX1_bringUpToDate : MethodName := ⟨RX1, "bringUpToDate", "()V"⟩
def RX2 : String := "Branchyard$Order"
def TX2 : u_T := fun k => match k with
  | 0 => ("Branchyard$Order", "numbers", "[I", true)
  | _ => ("Branchyard$Order", "size", "I", false)
def tyX2 : Nat → FieldType := fun k => match k with
  | 0 => .array .int
  | _ => .int
abbrev wsX20 : List Cond := u_ws RX2 TX2 2
theorem nmX2 : ∀ a, a < 2 → ∀ b, b < 2 → a ≠ b → (TX2 a).2.1 ≠ (TX2 b).2.1 := by decide +kernel
theorem tyX2_ok : ∀ k, k < 2 → parseFieldDescriptor (TX2 k).2.2.1 = some (tyX2 k) := by decide +kernel
abbrev cX2_init : ByteArray := prog_4_method_1_code
def yX2_init : MethodName := ⟨RX2, "<init>", "()V"⟩
abbrev cX2_at : ByteArray := prog_4_method_2_code
def yX2_at : MethodName := ⟨RX2, "at", "(I)I"⟩
abbrev cX2_append : ByteArray := prog_4_method_3_code
def yX2_append : MethodName := ⟨RX2, "append", "(I)V"⟩
abbrev cX2_drop : ByteArray := prog_4_method_4_code
def yX2_drop : MethodName := ⟨RX2, "drop", "(I)V"⟩
def RX3 : String := "Branchyard$Test"
def TX3 : u_T := fun k => match k with
  | 0 => ("Branchyard$Test", "first", "I", false)
  | 1 => ("Branchyard$Test", "second", "I", false)
  | 2 => ("Branchyard$Test", "limit", "I", false)
  | _ => ("Branchyard$Test", "counts", "Z", false)
def tyX3 : Nat → FieldType := fun k => match k with
  | 0 => .int
  | 1 => .int
  | 2 => .int
  | _ => .boolean
abbrev wsX30 : List Cond := u_ws RX3 TX3 4
theorem nmX3 : ∀ a, a < 4 → ∀ b, b < 4 → a ≠ b → (TX3 a).2.1 ≠ (TX3 b).2.1 := by decide +kernel
theorem tyX3_ok : ∀ k, k < 4 → parseFieldDescriptor (TX3 k).2.2.1 = some (tyX3 k) := by decide +kernel
abbrev cX3_init : ByteArray := prog_5_method_1_code
def yX3_init : MethodName := ⟨RX3, "<init>", "()V"⟩
abbrev cX3_isOf : ByteArray := prog_5_method_2_code
def yX3_isOf : MethodName := ⟨RX3, "isOf", "(I)Z"⟩
abbrev cX3_passes : ByteArray := prog_5_method_3_code
def yX3_passes : MethodName := ⟨RX3, "passes", "([I)Z"⟩
def RX4 : String := "Branchyard$Works"
def TX4 : u_T := fun k => match k with
  | 0 => ("Branchyard$Works", "tests", "[LBranchyard$Test;", true)
  | 1 => ("Branchyard$Works", "added", "I", false)
  | 2 => ("Branchyard$Works", "newest", "[LBranchyard$Cell;", true)
  | 3 => ("Branchyard$Works", "cellsMade", "I", false)
  | 4 => ("Branchyard$Works", "inputs", "[I", true)
  | 5 => ("Branchyard$Works", "buildsRun", "I", false)
  | _ => ("Branchyard$Works", "takenFromCells", "J", false)
def tyX4 : Nat → FieldType := fun k => match k with
  | 0 => .array (.object "Branchyard$Test")
  | 1 => .int
  | 2 => .array (.object "Branchyard$Cell")
  | 3 => .int
  | 4 => .array .int
  | 5 => .int
  | _ => .long
abbrev wsX40 : List Cond := u_ws RX4 TX4 7
theorem nmX4 : ∀ a, a < 7 → ∀ b, b < 7 → a ≠ b → (TX4 a).2.1 ≠ (TX4 b).2.1 := by decide +kernel
theorem tyX4_ok : ∀ k, k < 7 → parseFieldDescriptor (TX4 k).2.2.1 = some (tyX4 k) := by decide +kernel
abbrev cX4_init : ByteArray := prog_6_method_1_code
def yX4_init : MethodName := ⟨RX4, "<init>", "()V"⟩
abbrev cX4_add : ByteArray := prog_6_method_2_code
def yX4_add : MethodName := ⟨RX4, "add", "(III)I"⟩
abbrev cX4_drop : ByteArray := prog_6_method_3_code
def yX4_drop : MethodName := ⟨RX4, "drop", "(I)I"⟩
abbrev cX4_forgetCells : ByteArray := prog_6_method_4_code
def yX4_forgetCells : MethodName := ⟨RX4, "forgetCells", "()V"⟩
abbrev cX4_allPass : ByteArray := prog_6_method_5_code
def yX4_allPass : MethodName := ⟨RX4, "allPass", "(I[I)Z"⟩
abbrev cX4_buildTrunk : ByteArray := prog_6_method_6_code
def yX4_buildTrunk : MethodName := ⟨RX4, "buildTrunk", "([I)Z"⟩
abbrev cX4_readInputs : ByteArray := prog_6_method_7_code
def yX4_readInputs : MethodName := ⟨RX4, "readInputs", "(I[I)I"⟩
abbrev cX4_resultOf : ByteArray := prog_6_method_8_code
def yX4_resultOf : MethodName := ⟨RX4, "resultOf", "(I[II)Z"⟩
def RX5 : String := "Branchyard"
def TX5 : u_T := fun k => match k with
  | 0 => ("Branchyard", "owners", "[I", true)
  | 1 => ("Branchyard", "standIns", "[I", true)
  | 2 => ("Branchyard", "frozen", "[Z", true)
  | 3 => ("Branchyard", "away", "[Z", true)
  | 4 => ("Branchyard", "changes", "[LBranchyard$Change;", true)
  | 5 => ("Branchyard", "changeCount", "I", false)
  | 6 => ("Branchyard", "queued", "LBranchyard$Order;", true)
  | 7 => ("Branchyard", "merged", "LBranchyard$Order;", true)
  | 8 => ("Branchyard", "batch", "[I", true)
  | 9 => ("Branchyard", "trunk", "[I", true)
  | 10 => ("Branchyard", "candidate", "[I", true)
  | _ => ("Branchyard", "works", "LBranchyard$Works;", true)
def tyX5 : Nat → FieldType := fun k => match k with
  | 0 => .array .int
  | 1 => .array .int
  | 2 => .array .boolean
  | 3 => .array .boolean
  | 4 => .array (.object "Branchyard$Change")
  | 5 => .int
  | 6 => .object "Branchyard$Order"
  | 7 => .object "Branchyard$Order"
  | 8 => .array .int
  | 9 => .array .int
  | 10 => .array .int
  | _ => .object "Branchyard$Works"
abbrev wsX50 : List Cond := u_ws RX5 TX5 12
theorem nmX5 : ∀ a, a < 12 → ∀ b, b < 12 → a ≠ b → (TX5 a).2.1 ≠ (TX5 b).2.1 := by decide +kernel
theorem tyX5_ok : ∀ k, k < 12 → parseFieldDescriptor (TX5 k).2.2.1 = some (tyX5 k) := by decide +kernel
abbrev cX5_init : ByteArray := prog_1_method_1_code
def yX5_init : MethodName := ⟨RX5, "<init>", "()V"⟩
abbrev cX5_setOwner : ByteArray := prog_1_method_2_code
def yX5_setOwner : MethodName := ⟨RX5, "setOwner", "(III)I"⟩
abbrev cX5_setAway : ByteArray := prog_1_method_3_code
def yX5_setAway : MethodName := ⟨RX5, "setAway", "(IZ)Z"⟩
abbrev cX5_open : ByteArray := prog_1_method_4_code
def yX5_open : MethodName := ⟨RX5, "open", "(I)I"⟩
abbrev cX5_edit : ByteArray := prog_1_method_5_code
def yX5_edit : MethodName := ⟨RX5, "edit", "(IIII)I"⟩
abbrev cX5_take : ByteArray := prog_1_method_6_code
def yX5_take : MethodName := ⟨RX5, "take", "(III)I"⟩
abbrev cX5_close : ByteArray := prog_1_method_7_code
def yX5_close : MethodName := ⟨RX5, "close", "(I)I"⟩
abbrev cX5_vote : ByteArray := prog_1_method_8_code
def yX5_vote : MethodName := ⟨RX5, "vote", "(IIZ)I"⟩
abbrev cX5_verdict : ByteArray := prog_1_method_9_code
def yX5_verdict : MethodName := ⟨RX5, "verdict", "(II)C"⟩
abbrev cX5_asked : ByteArray := prog_1_method_10_code
def yX5_asked : MethodName := ⟨RX5, "asked", "(II)I"⟩
abbrev cX5_missing : ByteArray := prog_1_method_11_code
def yX5_missing : MethodName := ⟨RX5, "missing", "(I)I"⟩
abbrev cX5_queue : ByteArray := prog_1_method_12_code
def yX5_queue : MethodName := ⟨RX5, "queue", "(I)I"⟩
abbrev cX5_unqueue : ByteArray := prog_1_method_13_code
def yX5_unqueue : MethodName := ⟨RX5, "unqueue", "(I)I"⟩
abbrev cX5_queueAt : ByteArray := prog_1_method_14_code
def yX5_queueAt : MethodName := ⟨RX5, "queueAt", "(I)I"⟩
abbrev cX5_step : ByteArray := prog_1_method_15_code
def yX5_step : MethodName := ⟨RX5, "step", "()I"⟩
abbrev cX5_setFrozen : ByteArray := prog_1_method_16_code
def yX5_setFrozen : MethodName := ⟨RX5, "setFrozen", "(IZ)Z"⟩
abbrev cX5_stateOf : ByteArray := prog_1_method_17_code
def yX5_stateOf : MethodName := ⟨RX5, "stateOf", "(I)C"⟩
abbrev cX5_hasFailed : ByteArray := prog_1_method_18_code
def yX5_hasFailed : MethodName := ⟨RX5, "hasFailed", "(I)Z"⟩
abbrev cX5_clashes : ByteArray := prog_1_method_19_code
def yX5_clashes : MethodName := ⟨RX5, "clashes", "(I)I"⟩
abbrev cX5_update : ByteArray := prog_1_method_20_code
def yX5_update : MethodName := ⟨RX5, "update", "(I)I"⟩
abbrev cX5_addTest : ByteArray := prog_1_method_21_code
def yX5_addTest : MethodName := ⟨RX5, "addTest", "(IIIII)I"⟩
abbrev cX5_dropTest : ByteArray := prog_1_method_22_code
def yX5_dropTest : MethodName := ⟨RX5, "dropTest", "(I)I"⟩
abbrev cX5_value : ByteArray := prog_1_method_23_code
def yX5_value : MethodName := ⟨RX5, "value", "(II)I"⟩
abbrev cX5_valueByMerges : ByteArray := prog_1_method_24_code
def yX5_valueByMerges : MethodName := ⟨RX5, "valueByMerges", "(II)I"⟩
abbrev cX5_valueWith : ByteArray := prog_1_method_25_code
def yX5_valueWith : MethodName := ⟨RX5, "valueWith", "(III)I"⟩
abbrev cX5_along : ByteArray := prog_1_method_26_code
def yX5_along : MethodName := ⟨RX5, "along", "(I)I"⟩
abbrev cX5_revert : ByteArray := prog_1_method_27_code
def yX5_revert : MethodName := ⟨RX5, "revert", "(I)I"⟩
abbrev cX5_mergedAt : ByteArray := prog_1_method_28_code
def yX5_mergedAt : MethodName := ⟨RX5, "mergedAt", "(I)I"⟩
abbrev cX5_isGood : ByteArray := prog_1_method_29_code
def yX5_isGood : MethodName := ⟨RX5, "isGood", "(I)Z"⟩
abbrev cX5_builds : ByteArray := prog_1_method_30_code
def yX5_builds : MethodName := ⟨RX5, "builds", "()I"⟩
abbrev cX5_taken : ByteArray := prog_1_method_31_code
def yX5_taken : MethodName := ⟨RX5, "taken", "()J"⟩
abbrev cX5_takenShare : ByteArray := prog_1_method_32_code
def yX5_takenShare : MethodName := ⟨RX5, "takenShare", "()F"⟩
abbrev cX5_meanEdits : ByteArray := prog_1_method_33_code
def yX5_meanEdits : MethodName := ⟨RX5, "meanEdits", "()D"⟩
abbrev cX5_isSound : ByteArray := prog_1_method_34_code
def yX5_isSound : MethodName := ⟨RX5, "isSound", "()Z"⟩
abbrev cX5_checkDirectory : ByteArray := prog_1_method_35_code
def yX5_checkDirectory : MethodName := ⟨RX5, "checkDirectory", "(I)V"⟩
abbrev cX5_checkPerson : ByteArray := prog_1_method_36_code
def yX5_checkPerson : MethodName := ⟨RX5, "checkPerson", "(I)V"⟩
abbrev cX5_checkIndex : ByteArray := prog_1_method_37_code
def yX5_checkIndex : MethodName := ⟨RX5, "checkIndex", "(LBranchyard$Order;I)V"⟩
abbrev cX5_checkOpen : ByteArray := prog_1_method_38_code
def yX5_checkOpen : MethodName := ⟨RX5, "checkOpen", "(LBranchyard$Change;)V"⟩
abbrev cX5_checkMerged : ByteArray := prog_1_method_39_code
def yX5_checkMerged : MethodName := ⟨RX5, "checkMerged", "(LBranchyard$Change;)V"⟩
abbrev cX5_placeOf : ByteArray := prog_1_method_40_code
def yX5_placeOf : MethodName := ⟨RX5, "placeOf", "(II)I"⟩
abbrev cX5_changeOf : ByteArray := prog_1_method_41_code
def yX5_changeOf : MethodName := ⟨RX5, "changeOf", "(I)LBranchyard$Change;"⟩
abbrev cX5_personAsked : ByteArray := prog_1_method_42_code
def yX5_personAsked : MethodName := ⟨RX5, "personAsked", "(LBranchyard$Change;I)I"⟩
abbrev cX5_verdictOf : ByteArray := prog_1_method_43_code
def yX5_verdictOf : MethodName := ⟨RX5, "verdictOf", "(LBranchyard$Change;I)C"⟩
abbrev cX5_missingVerdicts : ByteArray := prog_1_method_44_code
def yX5_missingVerdicts : MethodName := ⟨RX5, "missingVerdicts", "(LBranchyard$Change;)I"⟩
abbrev cX5_reopen : ByteArray := prog_1_method_45_code
def yX5_reopen : MethodName := ⟨RX5, "reopen", "(I)V"⟩
abbrev cX5_touchesFrozen : ByteArray := prog_1_method_46_code
def yX5_touchesFrozen : MethodName := ⟨RX5, "touchesFrozen", "(LBranchyard$Change;)Z"⟩
abbrev cX5_pickBatch : ByteArray := prog_1_method_47_code
def yX5_pickBatch : MethodName := ⟨RX5, "pickBatch", "()I"⟩
abbrev cX5_tryTogether : ByteArray := prog_1_method_48_code
def yX5_tryTogether : MethodName := ⟨RX5, "tryTogether", "(III)I"⟩
abbrev cX5_tryHalves : ByteArray := prog_1_method_49_code
def yX5_tryHalves : MethodName := ⟨RX5, "tryHalves", "(III)I"⟩
abbrev cX5_isGoodWithBatch : ByteArray := prog_1_method_50_code
def yX5_isGoodWithBatch : MethodName := ⟨RX5, "isGoodWithBatch", "(II)Z"⟩
abbrev cX5_merge : ByteArray := prog_1_method_51_code
def yX5_merge : MethodName := ⟨RX5, "merge", "(I)V"⟩
abbrev cX5_clashIfShared : ByteArray := prog_1_method_52_code
def yX5_clashIfShared : MethodName := ⟨RX5, "clashIfShared", "(IJ)V"⟩
abbrev cX5_replayedValue : ByteArray := prog_1_method_53_code
def yX5_replayedValue : MethodName := ⟨RX5, "replayedValue", "(I)I"⟩
abbrev cX5_goingAlong : ByteArray := prog_1_method_54_code
def yX5_goingAlong : MethodName := ⟨RX5, "goingAlong", "(I)I"⟩
abbrev cX5_isGoodWithout : ByteArray := prog_1_method_55_code
def yX5_isGoodWithout : MethodName := ⟨RX5, "isGoodWithout", "(I)Z"⟩
abbrev cX5_takeBack : ByteArray := prog_1_method_56_code
def yX5_takeBack : MethodName := ⟨RX5, "takeBack", "(I)V"⟩
def RX6 : String := "BranchyardModel"
def TX6 : u_T := fun k => match k with
  | 0 => ("BranchyardModel", "thrown", "I", false)
  | 1 => ("BranchyardModel", "trunk", "[I", true)
  | 2 => ("BranchyardModel", "firsts", "[I", true)
  | 3 => ("BranchyardModel", "seconds", "[I", true)
  | 4 => ("BranchyardModel", "limits", "[I", true)
  | 5 => ("BranchyardModel", "isDropped", "[Z", true)
  | 6 => ("BranchyardModel", "tests", "I", false)
  | 7 => ("BranchyardModel", "owners", "[I", true)
  | 8 => ("BranchyardModel", "standIns", "[I", true)
  | 9 => ("BranchyardModel", "isFrozen", "[Z", true)
  | 10 => ("BranchyardModel", "isAway", "[Z", true)
  | 11 => ("BranchyardModel", "edits", "[[I", true)
  | 12 => ("BranchyardModel", "isClash", "[[Z", true)
  | 13 => ("BranchyardModel", "votes", "[[C", true)
  | 14 => ("BranchyardModel", "covers", "[[[I", true)
  | 15 => ("BranchyardModel", "authors", "[I", true)
  | 16 => ("BranchyardModel", "queue", "[I", true)
  | 17 => ("BranchyardModel", "merged", "[I", true)
  | 18 => ("BranchyardModel", "states", "[C", true)
  | 19 => ("BranchyardModel", "hasFailed", "[Z", true)
  | 20 => ("BranchyardModel", "changes", "I", false)
  | 21 => ("BranchyardModel", "queued", "I", false)
  | 22 => ("BranchyardModel", "mergedMany", "I", false)
  | 23 => ("BranchyardModel", "builds", "I", false)
  | 24 => ("BranchyardModel", "taken", "J", false)
  | _ => ("BranchyardModel", "cells", "Ljava/util/ArrayList;", true)
def tyX6 : Nat → FieldType := fun k => match k with
  | 0 => .int
  | 1 => .array .int
  | 2 => .array .int
  | 3 => .array .int
  | 4 => .array .int
  | 5 => .array .boolean
  | 6 => .int
  | 7 => .array .int
  | 8 => .array .int
  | 9 => .array .boolean
  | 10 => .array .boolean
  | 11 => .array (.array .int)
  | 12 => .array (.array .boolean)
  | 13 => .array (.array .char)
  | 14 => .array (.array (.array .int))
  | 15 => .array .int
  | 16 => .array .int
  | 17 => .array .int
  | 18 => .array .char
  | 19 => .array .boolean
  | 20 => .int
  | 21 => .int
  | 22 => .int
  | 23 => .int
  | 24 => .long
  | _ => .object "java/util/ArrayList"
abbrev wsX60 : List Cond := u_ws RX6 TX6 26
theorem nmX6 : ∀ a, a < 26 → ∀ b, b < 26 → a ≠ b → (TX6 a).2.1 ≠ (TX6 b).2.1 := by decide +kernel
theorem tyX6_ok : ∀ k, k < 26 → parseFieldDescriptor (TX6 k).2.2.1 = some (tyX6 k) := by decide +kernel
abbrev cX6_thrown : ByteArray := prog_8_method_1_code
def yX6_thrown : MethodName := ⟨RX6, "thrown", "()I"⟩
abbrev cX6_fails : ByteArray := prog_8_method_2_code
def yX6_fails : MethodName := ⟨RX6, "fails", "(I)I"⟩
abbrev cX6_isWrong : ByteArray := prog_8_method_3_code
def yX6_isWrong : MethodName := ⟨RX6, "isWrong", "(I)Z"⟩
abbrev cX6_isBetween : ByteArray := prog_8_method_4_code
def yX6_isBetween : MethodName := ⟨RX6, "isBetween", "(III)Z"⟩
abbrev cX6_isPerson : ByteArray := prog_8_method_5_code
def yX6_isPerson : MethodName := ⟨RX6, "isPerson", "(I)Z"⟩
abbrev cX6_isDirectory : ByteArray := prog_8_method_6_code
def yX6_isDirectory : MethodName := ⟨RX6, "isDirectory", "(I)Z"⟩
abbrev cX6_isSpan : ByteArray := prog_8_method_7_code
def yX6_isSpan : MethodName := ⟨RX6, "isSpan", "(II)Z"⟩
abbrev cX6_init : ByteArray := prog_8_method_8_code
def yX6_init : MethodName := ⟨RX6, "<init>", "()V"⟩
abbrev cX6_isChange : ByteArray := prog_8_method_9_code
def yX6_isChange : MethodName := ⟨RX6, "isChange", "(I)Z"⟩
abbrev cX6_directoryOf : ByteArray := prog_8_method_10_code
def yX6_directoryOf : MethodName := ⟨RX6, "directoryOf", "(I)I"⟩
abbrev cX6_setOwner : ByteArray := prog_8_method_11_code
def yX6_setOwner : MethodName := ⟨RX6, "setOwner", "(III)I"⟩
abbrev cX6_setAway : ByteArray := prog_8_method_12_code
def yX6_setAway : MethodName := ⟨RX6, "setAway", "(IZ)Z"⟩
abbrev cX6_open : ByteArray := prog_8_method_13_code
def yX6_open : MethodName := ⟨RX6, "open", "(I)I"⟩
abbrev cX6_editMany : ByteArray := prog_8_method_14_code
def yX6_editMany : MethodName := ⟨RX6, "editMany", "(I)I"⟩
abbrev cX6_edit : ByteArray := prog_8_method_15_code
def yX6_edit : MethodName := ⟨RX6, "edit", "(IIII)I"⟩
abbrev cX6_take : ByteArray := prog_8_method_16_code
def yX6_take : MethodName := ⟨RX6, "take", "(III)I"⟩
abbrev cX6_isUnlike : ByteArray := prog_8_method_17_code
def yX6_isUnlike : MethodName := ⟨RX6, "isUnlike", "(IC)Z"⟩
abbrev cX6_close : ByteArray := prog_8_method_18_code
def yX6_close : MethodName := ⟨RX6, "close", "(I)I"⟩
abbrev cX6_vote : ByteArray := prog_8_method_19_code
def yX6_vote : MethodName := ⟨RX6, "vote", "(IIZ)I"⟩
abbrev cX6_ask : ByteArray := prog_8_method_20_code
def yX6_ask : MethodName := ⟨RX6, "ask", "(II)I"⟩
abbrev cX6_touches : ByteArray := prog_8_method_21_code
def yX6_touches : MethodName := ⟨RX6, "touches", "(II)Z"⟩
abbrev cX6_isCovered : ByteArray := prog_8_method_22_code
def yX6_isCovered : MethodName := ⟨RX6, "isCovered", "(III)Z"⟩
abbrev cX6_verdictOf : ByteArray := prog_8_method_23_code
def yX6_verdictOf : MethodName := ⟨RX6, "verdictOf", "(II)C"⟩
abbrev cX6_verdict : ByteArray := prog_8_method_24_code
def yX6_verdict : MethodName := ⟨RX6, "verdict", "(II)C"⟩
abbrev cX6_asked : ByteArray := prog_8_method_25_code
def yX6_asked : MethodName := ⟨RX6, "asked", "(II)I"⟩
abbrev cX6_missingIn : ByteArray := prog_8_method_26_code
def yX6_missingIn : MethodName := ⟨RX6, "missingIn", "(I)I"⟩
abbrev cX6_missing : ByteArray := prog_8_method_27_code
def yX6_missing : MethodName := ⟨RX6, "missing", "(I)I"⟩
abbrev cX6_clashMany : ByteArray := prog_8_method_28_code
def yX6_clashMany : MethodName := ⟨RX6, "clashMany", "(I)I"⟩
abbrev cX6_queue : ByteArray := prog_8_method_29_code
def yX6_queue : MethodName := ⟨RX6, "queue", "(I)I"⟩
abbrev cX6_leaves : ByteArray := prog_8_method_30_code
def yX6_leaves : MethodName := ⟨RX6, "leaves", "(I)V"⟩
abbrev cX6_unqueue : ByteArray := prog_8_method_31_code
def yX6_unqueue : MethodName := ⟨RX6, "unqueue", "(I)I"⟩
abbrev cX6_queueAt : ByteArray := prog_8_method_32_code
def yX6_queueAt : MethodName := ⟨RX6, "queueAt", "(I)I"⟩
abbrev cX6_counts : ByteArray := prog_8_method_33_code
def yX6_counts : MethodName := ⟨RX6, "counts", "(II)Z"⟩
abbrev cX6_isGoodOn : ByteArray := prog_8_method_34_code
def yX6_isGoodOn : MethodName := ⟨RX6, "isGoodOn", "([II)Z"⟩
abbrev cX6_inputs : ByteArray := prog_8_method_35_code
def yX6_inputs : MethodName := ⟨RX6, "inputs", "([II)[I"⟩
abbrev cX6_isKept : ByteArray := prog_8_method_36_code
def yX6_isKept : MethodName := ⟨RX6, "isKept", "([I)Z"⟩
abbrev cX6_isBuilt : ByteArray := prog_8_method_37_code
def yX6_isBuilt : MethodName := ⟨RX6, "isBuilt", "([I)Z"⟩
abbrev cX6_shares : ByteArray := prog_8_method_38_code
def yX6_shares : MethodName := ⟨RX6, "shares", "(II)Z"⟩
abbrev cX6_isHeld : ByteArray := prog_8_method_39_code
def yX6_isHeld : MethodName := ⟨RX6, "isHeld", "(I)Z"⟩
abbrev cX6_lays : ByteArray := prog_8_method_40_code
def yX6_lays : MethodName := ⟨RX6, "lays", "(I[I)V"⟩
abbrev cX6_merges : ByteArray := prog_8_method_41_code
def yX6_merges : MethodName := ⟨RX6, "merges", "(I)V"⟩
abbrev cX6_tries : ByteArray := prog_8_method_42_code
def yX6_tries : MethodName := ⟨RX6, "tries", "([III)I"⟩
abbrev cX6_step : ByteArray := prog_8_method_43_code
def yX6_step : MethodName := ⟨RX6, "step", "()I"⟩
abbrev cX6_setFrozen : ByteArray := prog_8_method_44_code
def yX6_setFrozen : MethodName := ⟨RX6, "setFrozen", "(IZ)Z"⟩
abbrev cX6_stateOf : ByteArray := prog_8_method_45_code
def yX6_stateOf : MethodName := ⟨RX6, "stateOf", "(I)C"⟩
abbrev cX6_hasFailed : ByteArray := prog_8_method_46_code
def yX6_hasFailed : MethodName := ⟨RX6, "hasFailed", "(I)Z"⟩
abbrev cX6_clashes : ByteArray := prog_8_method_47_code
def yX6_clashes : MethodName := ⟨RX6, "clashes", "(I)I"⟩
abbrev cX6_update : ByteArray := prog_8_method_48_code
def yX6_update : MethodName := ⟨RX6, "update", "(I)I"⟩
abbrev cX6_addTest : ByteArray := prog_8_method_49_code
def yX6_addTest : MethodName := ⟨RX6, "addTest", "(IIIII)I"⟩
abbrev cX6_dropTest : ByteArray := prog_8_method_50_code
def yX6_dropTest : MethodName := ⟨RX6, "dropTest", "(I)I"⟩
abbrev cX6_value : ByteArray := prog_8_method_51_code
def yX6_value : MethodName := ⟨RX6, "value", "(II)I"⟩
abbrev cX6_valueByMerges : ByteArray := prog_8_method_52_code
def yX6_valueByMerges : MethodName := ⟨RX6, "valueByMerges", "(II)I"⟩
abbrev cX6_valueWith : ByteArray := prog_8_method_53_code
def yX6_valueWith : MethodName := ⟨RX6, "valueWith", "(III)I"⟩
abbrev cX6_marks : ByteArray := prog_8_method_54_code
def yX6_marks : MethodName := ⟨RX6, "marks", "(I[Z)I"⟩
abbrev cX6_along : ByteArray := prog_8_method_55_code
def yX6_along : MethodName := ⟨RX6, "along", "(I)I"⟩
abbrev cX6_revert : ByteArray := prog_8_method_56_code
def yX6_revert : MethodName := ⟨RX6, "revert", "(I)I"⟩
abbrev cX6_mergedAt : ByteArray := prog_8_method_57_code
def yX6_mergedAt : MethodName := ⟨RX6, "mergedAt", "(I)I"⟩
abbrev cX6_isGood : ByteArray := prog_8_method_58_code
def yX6_isGood : MethodName := ⟨RX6, "isGood", "(I)Z"⟩
abbrev cX6_builds : ByteArray := prog_8_method_59_code
def yX6_builds : MethodName := ⟨RX6, "builds", "()I"⟩
abbrev cX6_taken : ByteArray := prog_8_method_60_code
def yX6_taken : MethodName := ⟨RX6, "taken", "()J"⟩
abbrev cX6_takenShare : ByteArray := prog_8_method_61_code
def yX6_takenShare : MethodName := ⟨RX6, "takenShare", "()F"⟩
abbrev cX6_meanEdits : ByteArray := prog_8_method_62_code
def yX6_meanEdits : MethodName := ⟨RX6, "meanEdits", "()D"⟩
abbrev cX6_isSound : ByteArray := prog_8_method_63_code
def yX6_isSound : MethodName := ⟨RX6, "isSound", "()Z"⟩
def RJx145de : String := "java/io/Serializable"
def TJx145de : u_T := fun k => match k with
  | _ => ("", "", "", false)
def tyJx145de : Nat → FieldType := fun k => match k with
  | _ => .int
abbrev wsJx145de0 : List Cond := u_ws RJx145de TJx145de 0
theorem nmJx145de : ∀ a, a < 0 → ∀ b, b < 0 → a ≠ b → (TJx145de a).2.1 ≠ (TJx145de b).2.1 := by decide +kernel
theorem tyJx145de_ok : ∀ k, k < 0 → parseFieldDescriptor (TJx145de k).2.2.1 = some (tyJx145de k) := by decide +kernel
def RJx00060 : String := "java/lang/ArrayIndexOutOfBoundsException"
def TJx00060 : u_T := fun k => match k with
  | 0 => ("java/lang/Throwable", "backtrace", "Ljava/lang/Object;", false)
  | 1 => ("java/lang/Throwable", "detailMessage", "Ljava/lang/String;", false)
  | 2 => ("java/lang/Throwable", "cause", "Ljava/lang/Throwable;", false)
  | 3 => ("java/lang/Throwable", "stackTrace", "[Ljava/lang/StackTraceElement;", false)
  | 4 => ("java/lang/Throwable", "depth", "I", false)
  | _ => ("java/lang/Throwable", "suppressedExceptions", "Ljava/util/List;", false)
def tyJx00060 : Nat → FieldType := fun k => match k with
  | 0 => .object "java/lang/Object"
  | 1 => .object "java/lang/String"
  | 2 => .object "java/lang/Throwable"
  | 3 => .array (.object "java/lang/StackTraceElement")
  | 4 => .int
  | _ => .object "java/util/List"
abbrev wsJx000600 : List Cond := u_ws RJx00060 TJx00060 6
theorem nmJx00060 : ∀ a, a < 6 → ∀ b, b < 6 → a ≠ b → (TJx00060 a).2.1 ≠ (TJx00060 b).2.1 := by decide +kernel
theorem tyJx00060_ok : ∀ k, k < 6 → parseFieldDescriptor (TJx00060 k).2.2.1 = some (tyJx00060 k) := by decide +kernel
abbrev cJx00060_init_a7421 : ByteArray := prog_11_method_2_code
def yJx00060_init_a7421 : MethodName := ⟨RJx00060, "<init>", "(Ljava/lang/String;)V"⟩
def RJx8e188 : String := "java/lang/Cloneable"
def TJx8e188 : u_T := fun k => match k with
  | _ => ("", "", "", false)
def tyJx8e188 : Nat → FieldType := fun k => match k with
  | _ => .int
abbrev wsJx8e1880 : List Cond := u_ws RJx8e188 TJx8e188 0
theorem nmJx8e188 : ∀ a, a < 0 → ∀ b, b < 0 → a ≠ b → (TJx8e188 a).2.1 ≠ (TJx8e188 b).2.1 := by decide +kernel
theorem tyJx8e188_ok : ∀ k, k < 0 → parseFieldDescriptor (TJx8e188 k).2.2.1 = some (tyJx8e188 k) := by decide +kernel
def RJ6 : String := "java/lang/Integer"
def TJ6 : u_T := fun k => match k with
  | _ => ("", "", "", false)
def tyJ6 : Nat → FieldType := fun k => match k with
  | _ => .int
abbrev wsJ60 : List Cond := u_ws RJ6 TJ6 0
theorem nmJ6 : ∀ a, a < 0 → ∀ b, b < 0 → a ≠ b → (TJ6 a).2.1 ≠ (TJ6 b).2.1 := by decide +kernel
theorem tyJ6_ok : ∀ k, k < 0 → parseFieldDescriptor (TJ6 k).2.2.1 = some (tyJ6 k) := by decide +kernel
abbrev cJ6_bitCount_0f7a4 : ByteArray := prog_17_method_49_code
def yJ6_bitCount_0f7a4 : MethodName := ⟨RJ6, "bitCount", "(I)I"⟩
def RJxab1ab : String := "java/lang/Iterable"
def TJxab1ab : u_T := fun k => match k with
  | _ => ("", "", "", false)
def tyJxab1ab : Nat → FieldType := fun k => match k with
  | _ => .int
abbrev wsJxab1ab0 : List Cond := u_ws RJxab1ab TJxab1ab 0
theorem nmJxab1ab : ∀ a, a < 0 → ∀ b, b < 0 → a ≠ b → (TJxab1ab a).2.1 ≠ (TJxab1ab b).2.1 := by decide +kernel
theorem tyJxab1ab_ok : ∀ k, k < 0 → parseFieldDescriptor (TJxab1ab k).2.2.1 = some (tyJxab1ab k) := by decide +kernel
def RJ13 : String := "java/lang/Long"
def TJ13 : u_T := fun k => match k with
  | _ => ("", "", "", false)
def tyJ13 : Nat → FieldType := fun k => match k with
  | _ => .int
abbrev wsJ130 : List Cond := u_ws RJ13 TJ13 0
theorem nmJ13 : ∀ a, a < 0 → ∀ b, b < 0 → a ≠ b → (TJ13 a).2.1 ≠ (TJ13 b).2.1 := by decide +kernel
theorem tyJ13_ok : ∀ k, k < 0 → parseFieldDescriptor (TJ13 k).2.2.1 = some (tyJ13 k) := by decide +kernel
abbrev cJ13_bitCount_95d88 : ByteArray := prog_19_method_50_code
def yJ13_bitCount_95d88 : MethodName := ⟨RJ13, "bitCount", "(J)I"⟩
def RJ9 : String := "java/lang/Math"
def TJ9 : u_T := fun k => match k with
  | _ => ("", "", "", false)
def tyJ9 : Nat → FieldType := fun k => match k with
  | _ => .int
abbrev wsJ90 : List Cond := u_ws RJ9 TJ9 0
theorem nmJ9 : ∀ a, a < 0 → ∀ b, b < 0 → a ≠ b → (TJ9 a).2.1 ≠ (TJ9 b).2.1 := by decide +kernel
theorem tyJ9_ok : ∀ k, k < 0 → parseFieldDescriptor (TJ9 k).2.2.1 = some (tyJ9 k) := by decide +kernel
abbrev cJ9_max_7cf53 : ByteArray := prog_20_method_65_code
def yJ9_max_7cf53 : MethodName := ⟨RJ9, "max", "(II)I"⟩
abbrev cJ9_min_7cf53 : ByteArray := prog_20_method_69_code
def yJ9_min_7cf53 : MethodName := ⟨RJ9, "min", "(II)I"⟩
def RJ0 : String := "java/lang/String"
def TJ0 : u_T := fun k => match k with
  | 0 => ("java/lang/String", "value", "[B", true)
  | _ => ("java/lang/String", "coder", "B", true)
def tyJ0 : Nat → FieldType := fun k => match k with
  | 0 => .array .byte
  | _ => .byte
abbrev wsJ00 : List Cond := u_ws RJ0 TJ0 2
theorem nmJ0 : ∀ a, a < 2 → ∀ b, b < 2 → a ≠ b → (TJ0 a).2.1 ≠ (TJ0 b).2.1 := by decide +kernel
theorem tyJ0_ok : ∀ k, k < 2 → parseFieldDescriptor (TJ0 k).2.2.1 = some (tyJ0 k) := by decide +kernel
def RJ10 : String := "java/lang/System"
def TJ10 : u_T := fun k => match k with
  | _ => ("", "", "", false)
def tyJ10 : Nat → FieldType := fun k => match k with
  | _ => .int
abbrev wsJ100 : List Cond := u_ws RJ10 TJ10 0
theorem nmJ10 : ∀ a, a < 0 → ∀ b, b < 0 → a ≠ b → (TJ10 a).2.1 ≠ (TJ10 b).2.1 := by decide +kernel
theorem tyJ10_ok : ∀ k, k < 0 → parseFieldDescriptor (TJ10 k).2.2.1 = some (tyJ10 k) := by decide +kernel
def RJxa1e45 : String := "java/util/AbstractCollection"
def TJxa1e45 : u_T := fun k => match k with
  | _ => ("", "", "", false)
def tyJxa1e45 : Nat → FieldType := fun k => match k with
  | _ => .int
abbrev wsJxa1e450 : List Cond := u_ws RJxa1e45 TJxa1e45 0
theorem nmJxa1e45 : ∀ a, a < 0 → ∀ b, b < 0 → a ≠ b → (TJxa1e45 a).2.1 ≠ (TJxa1e45 b).2.1 := by decide +kernel
theorem tyJxa1e45_ok : ∀ k, k < 0 → parseFieldDescriptor (TJxa1e45 k).2.2.1 = some (tyJxa1e45 k) := by decide +kernel
abbrev cJxa1e45_init_da8c8 : ByteArray := prog_26_method_1_code
def yJxa1e45_init_da8c8 : MethodName := ⟨RJxa1e45, "<init>", "()V"⟩
def RJxc12de : String := "java/util/AbstractList"
def TJxc12de : u_T := fun k => match k with
  | _ => ("", "", "", false)
def tyJxc12de : Nat → FieldType := fun k => match k with
  | _ => .int
abbrev wsJxc12de0 : List Cond := u_ws RJxc12de TJxc12de 0
theorem nmJxc12de : ∀ a, a < 0 → ∀ b, b < 0 → a ≠ b → (TJxc12de a).2.1 ≠ (TJxc12de b).2.1 := by decide +kernel
theorem tyJxc12de_ok : ∀ k, k < 0 → parseFieldDescriptor (TJxc12de k).2.2.1 = some (tyJxc12de k) := by decide +kernel
abbrev cJxc12de_init_da8c8 : ByteArray := prog_27_method_1_code
def yJxc12de_init_da8c8 : MethodName := ⟨RJxc12de, "<init>", "()V"⟩
def RJx35411 : String := "java/util/ArrayList$Itr"
def TJx35411 : u_T := fun k => match k with
  | 0 => ("java/util/ArrayList$Itr", "cursor", "I", false)
  | 1 => ("java/util/ArrayList$Itr", "lastRet", "I", false)
  | 2 => ("java/util/ArrayList$Itr", "expectedModCount", "I", false)
  | _ => ("java/util/ArrayList$Itr", "this$0", "Ljava/util/ArrayList;", true)
def tyJx35411 : Nat → FieldType := fun k => match k with
  | 0 => .int
  | 1 => .int
  | 2 => .int
  | _ => .object "java/util/ArrayList"
abbrev wsJx354110 : List Cond := u_ws RJx35411 TJx35411 4
theorem nmJx35411 : ∀ a, a < 4 → ∀ b, b < 4 → a ≠ b → (TJx35411 a).2.1 ≠ (TJx35411 b).2.1 := by decide +kernel
theorem tyJx35411_ok : ∀ k, k < 4 → parseFieldDescriptor (TJx35411 k).2.2.1 = some (tyJx35411 k) := by decide +kernel
abbrev cJx35411_init_45d68 : ByteArray := prog_29_method_1_code
def yJx35411_init_45d68 : MethodName := ⟨RJx35411, "<init>", "(Ljava/util/ArrayList;)V"⟩
abbrev cJx35411_hasNext_aae02 : ByteArray := prog_29_method_2_code
def yJx35411_hasNext_aae02 : MethodName := ⟨RJx35411, "hasNext", "()Z"⟩
abbrev cJx35411_next_0502b : ByteArray := prog_29_method_3_code
def yJx35411_next_0502b : MethodName := ⟨RJx35411, "next", "()Ljava/lang/Object;"⟩
abbrev cJx35411_checkForComodification_da8c8 : ByteArray := prog_29_method_6_code
def yJx35411_checkForComodification_da8c8 : MethodName := ⟨RJx35411, "checkForComodification", "()V"⟩
def RJx4a65c : String := "java/util/ArrayList"
def TJx4a65c : u_T := fun k => match k with
  | 0 => ("java/util/AbstractList", "modCount", "I", false)
  | 1 => ("java/util/ArrayList", "elementData", "[Ljava/lang/Object;", false)
  | _ => ("java/util/ArrayList", "size", "I", false)
def tyJx4a65c : Nat → FieldType := fun k => match k with
  | 0 => .int
  | 1 => .array (.object "java/lang/Object")
  | _ => .int
abbrev wsJx4a65c0 : List Cond := u_ws RJx4a65c TJx4a65c 3
theorem nmJx4a65c : ∀ a, a < 3 → ∀ b, b < 3 → a ≠ b → (TJx4a65c a).2.1 ≠ (TJx4a65c b).2.1 := by decide +kernel
theorem tyJx4a65c_ok : ∀ k, k < 3 → parseFieldDescriptor (TJx4a65c k).2.2.1 = some (tyJx4a65c k) := by decide +kernel
abbrev cJx4a65c_init_da8c8 : ByteArray := prog_28_method_2_code
def yJx4a65c_init_da8c8 : MethodName := ⟨RJx4a65c, "<init>", "()V"⟩
abbrev cJx4a65c_grow_92f84 : ByteArray := prog_28_method_6_code
def yJx4a65c_grow_92f84 : MethodName := ⟨RJx4a65c, "grow", "(I)[Ljava/lang/Object;"⟩
abbrev cJx4a65c_grow_d5877 : ByteArray := prog_28_method_7_code
def yJx4a65c_grow_d5877 : MethodName := ⟨RJx4a65c, "grow", "()[Ljava/lang/Object;"⟩
abbrev cJx4a65c_add_72be8 : ByteArray := prog_28_method_24_code
def yJx4a65c_add_72be8 : MethodName := ⟨RJx4a65c, "add", "(Ljava/lang/Object;[Ljava/lang/Object;I)V"⟩
abbrev cJx4a65c_add_9ea2d : ByteArray := prog_28_method_25_code
def yJx4a65c_add_9ea2d : MethodName := ⟨RJx4a65c, "add", "(Ljava/lang/Object;)Z"⟩
abbrev cJx4a65c_clear_da8c8 : ByteArray := prog_28_method_40_code
def yJx4a65c_clear_da8c8 : MethodName := ⟨RJx4a65c, "clear", "()V"⟩
abbrev cJx4a65c_iterator_32c93 : ByteArray := prog_28_method_55_code
def yJx4a65c_iterator_32c93 : MethodName := ⟨RJx4a65c, "iterator", "()Ljava/util/Iterator;"⟩
def RJ7 : String := "java/util/Arrays"
def TJ7 : u_T := fun k => match k with
  | _ => ("", "", "", false)
def tyJ7 : Nat → FieldType := fun k => match k with
  | _ => .int
abbrev wsJ70 : List Cond := u_ws RJ7 TJ7 0
theorem nmJ7 : ∀ a, a < 0 → ∀ b, b < 0 → a ≠ b → (TJ7 a).2.1 ≠ (TJ7 b).2.1 := by decide +kernel
theorem tyJ7_ok : ∀ k, k < 0 → parseFieldDescriptor (TJ7 k).2.2.1 = some (tyJ7 k) := by decide +kernel
abbrev cJ7_fill_53178 : ByteArray := prog_30_method_103_code
def yJ7_fill_53178 : MethodName := ⟨RJ7, "fill", "([II)V"⟩
abbrev cJ7_copyOf_1904c : ByteArray := prog_30_method_119_code
def yJ7_copyOf_1904c : MethodName := ⟨RJ7, "copyOf", "([Ljava/lang/Object;I)[Ljava/lang/Object;"⟩
abbrev cJ7_copyOf_6403c : ByteArray := prog_30_method_120_code
def yJ7_copyOf_6403c : MethodName := ⟨RJ7, "copyOf", "([Ljava/lang/Object;ILjava/lang/Class;)[Ljava/lang/Object;"⟩
abbrev cJ7_copyOf_59c91 : ByteArray := prog_30_method_123_code
def yJ7_copyOf_59c91 : MethodName := ⟨RJ7, "copyOf", "([II)[I"⟩
def RJx5ef63 : String := "java/util/Collection"
def TJx5ef63 : u_T := fun k => match k with
  | _ => ("", "", "", false)
def tyJx5ef63 : Nat → FieldType := fun k => match k with
  | _ => .int
abbrev wsJx5ef630 : List Cond := u_ws RJx5ef63 TJx5ef63 0
theorem nmJx5ef63 : ∀ a, a < 0 → ∀ b, b < 0 → a ≠ b → (TJx5ef63 a).2.1 ≠ (TJx5ef63 b).2.1 := by decide +kernel
theorem tyJx5ef63_ok : ∀ k, k < 0 → parseFieldDescriptor (TJx5ef63 k).2.2.1 = some (tyJx5ef63 k) := by decide +kernel
def RJx4d0d8 : String := "java/util/Iterator"
def TJx4d0d8 : u_T := fun k => match k with
  | _ => ("", "", "", false)
def tyJx4d0d8 : Nat → FieldType := fun k => match k with
  | _ => .int
abbrev wsJx4d0d80 : List Cond := u_ws RJx4d0d8 TJx4d0d8 0
theorem nmJx4d0d8 : ∀ a, a < 0 → ∀ b, b < 0 → a ≠ b → (TJx4d0d8 a).2.1 ≠ (TJx4d0d8 b).2.1 := by decide +kernel
theorem tyJx4d0d8_ok : ∀ k, k < 0 → parseFieldDescriptor (TJx4d0d8 k).2.2.1 = some (tyJx4d0d8 k) := by decide +kernel
def RJxbd725 : String := "java/util/List"
def TJxbd725 : u_T := fun k => match k with
  | _ => ("", "", "", false)
def tyJxbd725 : Nat → FieldType := fun k => match k with
  | _ => .int
abbrev wsJxbd7250 : List Cond := u_ws RJxbd725 TJxbd725 0
theorem nmJxbd725 : ∀ a, a < 0 → ∀ b, b < 0 → a ≠ b → (TJxbd725 a).2.1 ≠ (TJxbd725 b).2.1 := by decide +kernel
theorem tyJxbd725_ok : ∀ k, k < 0 → parseFieldDescriptor (TJxbd725 k).2.2.1 = some (tyJxbd725 k) := by decide +kernel
def RJxf0a74 : String := "java/util/RandomAccess"
def TJxf0a74 : u_T := fun k => match k with
  | _ => ("", "", "", false)
def tyJxf0a74 : Nat → FieldType := fun k => match k with
  | _ => .int
abbrev wsJxf0a740 : List Cond := u_ws RJxf0a74 TJxf0a74 0
theorem nmJxf0a74 : ∀ a, a < 0 → ∀ b, b < 0 → a ≠ b → (TJxf0a74 a).2.1 ≠ (TJxf0a74 b).2.1 := by decide +kernel
theorem tyJxf0a74_ok : ∀ k, k < 0 → parseFieldDescriptor (TJxf0a74 k).2.2.1 = some (tyJxf0a74 k) := by decide +kernel
def RJxa66e6 : String := "java/util/SequencedCollection"
def TJxa66e6 : u_T := fun k => match k with
  | _ => ("", "", "", false)
def tyJxa66e6 : Nat → FieldType := fun k => match k with
  | _ => .int
abbrev wsJxa66e60 : List Cond := u_ws RJxa66e6 TJxa66e6 0
theorem nmJxa66e6 : ∀ a, a < 0 → ∀ b, b < 0 → a ≠ b → (TJxa66e6 a).2.1 ≠ (TJxa66e6 b).2.1 := by decide +kernel
theorem tyJxa66e6_ok : ∀ k, k < 0 → parseFieldDescriptor (TJxa66e6 k).2.2.1 = some (tyJxa66e6 k) := by decide +kernel
def RJ8 : String := "jdk/internal/util/ArraysSupport"
def TJ8 : u_T := fun k => match k with
  | _ => ("", "", "", false)
def tyJ8 : Nat → FieldType := fun k => match k with
  | _ => .int
abbrev wsJ80 : List Cond := u_ws RJ8 TJ8 0
theorem nmJ8 : ∀ a, a < 0 → ∀ b, b < 0 → a ≠ b → (TJ8 a).2.1 ≠ (TJ8 b).2.1 := by decide +kernel
theorem tyJ8_ok : ∀ k, k < 0 → parseFieldDescriptor (TJ8 k).2.2.1 = some (tyJ8 k) := by decide +kernel
abbrev cJ8_newLength_cabcc : ByteArray := prog_37_method_27_code
def yJ8_newLength_cabcc : MethodName := ⟨RJ8, "newLength", "(III)I"⟩
abbrev cJ8_hugeLength_7cf53 : ByteArray := prog_37_method_28_code
def yJ8_hugeLength_7cf53 : MethodName := ⟨RJ8, "hugeLength", "(II)I"⟩
def RL : String := "BranchyardLaw"
abbrev cL_setOwner : ByteArray := method_3_code
def yL_setOwner : MethodName := ⟨RL, "setOwner", "(LBranchyard;III[J)I"⟩
abbrev cL_setAway : ByteArray := method_4_code
def yL_setAway : MethodName := ⟨RL, "setAway", "(LBranchyard;IZ[J)I"⟩
abbrev cL_open : ByteArray := method_5_code
def yL_open : MethodName := ⟨RL, "open", "(LBranchyard;I[J)I"⟩
abbrev cL_edit : ByteArray := method_6_code
def yL_edit : MethodName := ⟨RL, "edit", "(LBranchyard;IIII[J)I"⟩
abbrev cL_take : ByteArray := method_7_code
def yL_take : MethodName := ⟨RL, "take", "(LBranchyard;III[J)I"⟩
abbrev cL_close : ByteArray := method_8_code
def yL_close : MethodName := ⟨RL, "close", "(LBranchyard;I[J)I"⟩
abbrev cL_vote : ByteArray := method_9_code
def yL_vote : MethodName := ⟨RL, "vote", "(LBranchyard;IIZ[J)I"⟩
abbrev cL_verdict : ByteArray := method_10_code
def yL_verdict : MethodName := ⟨RL, "verdict", "(LBranchyard;II[J)I"⟩
abbrev cL_asked : ByteArray := method_11_code
def yL_asked : MethodName := ⟨RL, "asked", "(LBranchyard;II[J)I"⟩
abbrev cL_missing : ByteArray := method_12_code
def yL_missing : MethodName := ⟨RL, "missing", "(LBranchyard;I[J)I"⟩
abbrev cL_queue : ByteArray := method_13_code
def yL_queue : MethodName := ⟨RL, "queue", "(LBranchyard;I[J)I"⟩
abbrev cL_unqueue : ByteArray := method_14_code
def yL_unqueue : MethodName := ⟨RL, "unqueue", "(LBranchyard;I[J)I"⟩
abbrev cL_queueAt : ByteArray := method_15_code
def yL_queueAt : MethodName := ⟨RL, "queueAt", "(LBranchyard;I[J)I"⟩
abbrev cL_step : ByteArray := method_16_code
def yL_step : MethodName := ⟨RL, "step", "(LBranchyard;[J)I"⟩
abbrev cL_setFrozen : ByteArray := method_17_code
def yL_setFrozen : MethodName := ⟨RL, "setFrozen", "(LBranchyard;IZ[J)I"⟩
abbrev cL_stateOf : ByteArray := method_18_code
def yL_stateOf : MethodName := ⟨RL, "stateOf", "(LBranchyard;I[J)I"⟩
abbrev cL_hasFailed : ByteArray := method_19_code
def yL_hasFailed : MethodName := ⟨RL, "hasFailed", "(LBranchyard;I[J)I"⟩
abbrev cL_clashes : ByteArray := method_20_code
def yL_clashes : MethodName := ⟨RL, "clashes", "(LBranchyard;I[J)I"⟩
abbrev cL_update : ByteArray := method_21_code
def yL_update : MethodName := ⟨RL, "update", "(LBranchyard;I[J)I"⟩
abbrev cL_addTest : ByteArray := method_22_code
def yL_addTest : MethodName := ⟨RL, "addTest", "(LBranchyard;IIIII[J)I"⟩
abbrev cL_dropTest : ByteArray := method_23_code
def yL_dropTest : MethodName := ⟨RL, "dropTest", "(LBranchyard;I[J)I"⟩
abbrev cL_value : ByteArray := method_24_code
def yL_value : MethodName := ⟨RL, "value", "(LBranchyard;II[J)I"⟩
abbrev cL_valueByMerges : ByteArray := method_25_code
def yL_valueByMerges : MethodName := ⟨RL, "valueByMerges", "(LBranchyard;II[J)I"⟩
abbrev cL_valueWith : ByteArray := method_26_code
def yL_valueWith : MethodName := ⟨RL, "valueWith", "(LBranchyard;III[J)I"⟩
abbrev cL_along : ByteArray := method_27_code
def yL_along : MethodName := ⟨RL, "along", "(LBranchyard;I[J)I"⟩
abbrev cL_revert : ByteArray := method_28_code
def yL_revert : MethodName := ⟨RL, "revert", "(LBranchyard;I[J)I"⟩
abbrev cL_mergedAt : ByteArray := method_29_code
def yL_mergedAt : MethodName := ⟨RL, "mergedAt", "(LBranchyard;I[J)I"⟩
abbrev cL_isGood : ByteArray := method_30_code
def yL_isGood : MethodName := ⟨RL, "isGood", "(LBranchyard;I[J)I"⟩
abbrev cL_takenShare : ByteArray := method_31_code
def yL_takenShare : MethodName := ⟨RL, "takenShare", "(LBranchyard;[D)I"⟩
abbrev cL_meanEdits : ByteArray := method_32_code
def yL_meanEdits : MethodName := ⟨RL, "meanEdits", "(LBranchyard;[D)I"⟩
abbrev cL_law : ByteArray := code
def yL_law : MethodName := ⟨RL, "law", "([I)Z"⟩
