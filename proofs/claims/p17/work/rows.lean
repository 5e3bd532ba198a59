section
/-! ===== BEGIN words of one list among another's, by their places ===== -/
theorem goodIn_r {big : List Cond} (ws : List Cond) (ps : List Nat) (hp : ws = ps.filterMap (fun i => big[i]?)) (h : ws.all goodWord = true) : GoodIn big ws := by
  intro w hw
  have h1 := List.all_eq_true.mp h w hw
  rw [hp] at hw
  obtain ⟨i, -, hi⟩ := List.mem_filterMap.mp hw
  have hm : w ∈ big := by first | exact List.mem_of_getElem? hi | exact List.getElem?_mem hi
  exact ⟨hm, good_of_word h1⟩
theorem goodIn_app {big a b : List Cond} (ha : GoodIn big a) (hb : GoodIn big b) : GoodIn big (a ++ b) := fun w h => (List.mem_append.mp h).elim (ha w) (hb w)
theorem goodIn_ca {big a b : List Cond} {c : Cond} (ha : GoodIn big (c :: a)) (hb : GoodIn big b) : GoodIn big (c :: (a ++ b)) := fun w h => (List.mem_cons.mp h).elim (fun e => ha w (List.mem_cons.mpr (Or.inl e))) (fun h => (List.mem_append.mp h).elim (fun h => ha w (List.mem_cons.mpr (Or.inr h))) (hb w))
theorem goodIn_sub {big ws : List Cond} (hm : ∀ w ∈ ws, w ∈ big) (h : ws.all goodWord = true) : GoodIn big ws := fun w hw => ⟨hm w hw, good_of_word (List.all_eq_true.mp h w hw)⟩
/-! ===== END ===== -/

/-! ===== BEGIN printed: names, fields, word lists, decode rows ===== -/
def RX0 : String := "VersionMerge$Branch"
def TX0 : u_T := fun k => match k with
  | _ => ("VersionMerge$Branch", "head", "LVersionMerge$Version;", false)
def tyX0 : Nat → FieldType := fun k => match k with
  | _ => .object "VersionMerge$Version"
abbrev wsX00 : List Cond := u_ws RX0 TX0 1
theorem nmX0 : ∀ a, a < 1 → ∀ b, b < 1 → a ≠ b → (TX0 a).2.1 ≠ (TX0 b).2.1 := by decide +kernel
theorem tyX0_ok : ∀ k, k < 1 → parseFieldDescriptor (TX0 k).2.2.1 = some (tyX0 k) := by decide +kernel
abbrev cX0_init : ByteArray := prog_2_method_1_code
def yX0_init : MethodName := ⟨RX0, "<init>", "(LVersionMerge$Version;)V"⟩
def RX1 : String := "VersionMerge$TripleSet"
def TX1 : u_T := fun k => match k with
  | _ => ("VersionMerge$TripleSet", "words", "[J", true)
def tyX1 : Nat → FieldType := fun k => match k with
  | _ => .array .long
abbrev wsX10 : List Cond := u_ws RX1 TX1 1
theorem nmX1 : ∀ a, a < 1 → ∀ b, b < 1 → a ≠ b → (TX1 a).2.1 ≠ (TX1 b).2.1 := by decide +kernel
theorem tyX1_ok : ∀ k, k < 1 → parseFieldDescriptor (TX1 k).2.2.1 = some (tyX1 k) := by decide +kernel
abbrev cX1_init : ByteArray := prog_3_method_1_code
def yX1_init : MethodName := ⟨RX1, "<init>", "()V"⟩
abbrev cX1_has : ByteArray := prog_3_method_2_code
def yX1_has : MethodName := ⟨RX1, "has", "(I)Z"⟩
abbrev cX1_change : ByteArray := prog_3_method_3_code
def yX1_change : MethodName := ⟨RX1, "change", "(IZ)V"⟩
abbrev cX1_becomeCopy : ByteArray := prog_3_method_4_code
def yX1_becomeCopy : MethodName := ⟨RX1, "becomeCopy", "(LVersionMerge$TripleSet;)V"⟩
abbrev cX1_becomeDifference : ByteArray := prog_3_method_5_code
def yX1_becomeDifference : MethodName := ⟨RX1, "becomeDifference", "(LVersionMerge$TripleSet;LVersionMerge$TripleSet;)V"⟩
abbrev cX1_becomeMerged : ByteArray := prog_3_method_6_code
def yX1_becomeMerged : MethodName := ⟨RX1, "becomeMerged", "(LVersionMerge$TripleSet;LVersionMerge$TripleSet;LVersionMerge$TripleSet;)V"⟩
abbrev cX1_becomeLaid : ByteArray := prog_3_method_7_code
def yX1_becomeLaid : MethodName := ⟨RX1, "becomeLaid", "(LVersionMerge$TripleSet;LVersionMerge$TripleSet;LVersionMerge$TripleSet;)V"⟩
abbrev cX1_becomeRenamed : ByteArray := prog_3_method_8_code
def yX1_becomeRenamed : MethodName := ⟨RX1, "becomeRenamed", "(LVersionMerge$TripleSet;II)V"⟩
abbrev cX1_renamed : ByteArray := prog_3_method_9_code
def yX1_renamed : MethodName := ⟨RX1, "renamed", "(III)I"⟩
abbrev cX1_subject : ByteArray := prog_3_method_10_code
def yX1_subject : MethodName := ⟨RX1, "subject", "(I)I"⟩
abbrev cX1_property : ByteArray := prog_3_method_11_code
def yX1_property : MethodName := ⟨RX1, "property", "(I)I"⟩
abbrev cX1_object : ByteArray := prog_3_method_12_code
def yX1_object : MethodName := ⟨RX1, "object", "(I)I"⟩
abbrev cX1_mentions : ByteArray := prog_3_method_13_code
def yX1_mentions : MethodName := ⟨RX1, "mentions", "(I)Z"⟩
abbrev cX1_hasAllRemoved : ByteArray := prog_3_method_14_code
def yX1_hasAllRemoved : MethodName := ⟨RX1, "hasAllRemoved", "(LVersionMerge$TripleSet;LVersionMerge$TripleSet;)Z"⟩
abbrev cX1_isSameAs : ByteArray := prog_3_method_15_code
def yX1_isSameAs : MethodName := ⟨RX1, "isSameAs", "(LVersionMerge$TripleSet;)Z"⟩
abbrev cX1_tripleAt : ByteArray := prog_3_method_16_code
def yX1_tripleAt : MethodName := ⟨RX1, "tripleAt", "(I)I"⟩
abbrev cX1_tripleInWord : ByteArray := prog_3_method_17_code
def yX1_tripleInWord : MethodName := ⟨RX1, "tripleInWord", "(II)I"⟩
abbrev cX1_isCrowded : ByteArray := prog_3_method_18_code
def yX1_isCrowded : MethodName := ⟨RX1, "isCrowded", "(I)Z"⟩
abbrev cX1_crowdedKeys : ByteArray := prog_3_method_19_code
def yX1_crowdedKeys : MethodName := ⟨RX1, "crowdedKeys", "()I"⟩
abbrev cX1_crowdedKey : ByteArray := prog_3_method_20_code
def yX1_crowdedKey : MethodName := ⟨RX1, "crowdedKey", "(I)I"⟩
abbrev cX1_leastOfKey : ByteArray := prog_3_method_21_code
def yX1_leastOfKey : MethodName := ⟨RX1, "leastOfKey", "(I)I"⟩
abbrev cX1_greatestOfKey : ByteArray := prog_3_method_22_code
def yX1_greatestOfKey : MethodName := ⟨RX1, "greatestOfKey", "(I)I"⟩
def RX2 : String := "VersionMerge$Version"
def TX2 : u_T := fun k => match k with
  | 0 => ("VersionMerge$Version", "number", "I", true)
  | 1 => ("VersionMerge$Version", "first", "LVersionMerge$Version;", true)
  | 2 => ("VersionMerge$Version", "second", "LVersionMerge$Version;", true)
  | 3 => ("VersionMerge$Version", "triples", "LVersionMerge$TripleSet;", true)
  | _ => ("VersionMerge$Version", "ancestors", "[Z", true)
def tyX2 : Nat → FieldType := fun k => match k with
  | 0 => .int
  | 1 => .object "VersionMerge$Version"
  | 2 => .object "VersionMerge$Version"
  | 3 => .object "VersionMerge$TripleSet"
  | _ => .array .boolean
abbrev wsX20 : List Cond := u_ws RX2 TX2 5
theorem nmX2 : ∀ a, a < 5 → ∀ b, b < 5 → a ≠ b → (TX2 a).2.1 ≠ (TX2 b).2.1 := by decide +kernel
theorem tyX2_ok : ∀ k, k < 5 → parseFieldDescriptor (TX2 k).2.2.1 = some (tyX2 k) := by decide +kernel
abbrev cX2_init : ByteArray := prog_4_method_1_code
def yX2_init : MethodName := ⟨RX2, "<init>", "(ILVersionMerge$Version;LVersionMerge$Version;LVersionMerge$TripleSet;)V"⟩
abbrev cX2_takeAncestors : ByteArray := prog_4_method_2_code
def yX2_takeAncestors : MethodName := ⟨RX2, "takeAncestors", "(LVersionMerge$Version;)V"⟩
abbrev cX2_hasAncestor : ByteArray := prog_4_method_3_code
def yX2_hasAncestor : MethodName := ⟨RX2, "hasAncestor", "(I)Z"⟩
def RX3 : String := "VersionMerge"
def TX3 : u_T := fun k => match k with
  | 0 => ("VersionMerge", "versionRow", "[LVersionMerge$Version;", true)
  | 1 => ("VersionMerge", "branchRow", "[LVersionMerge$Branch;", true)
  | 2 => ("VersionMerge", "versionCount", "I", false)
  | 3 => ("VersionMerge", "branchCount", "I", false)
  | 4 => ("VersionMerge", "nothing", "LVersionMerge$TripleSet;", true)
  | 5 => ("VersionMerge", "merged", "LVersionMerge$TripleSet;", true)
  | _ => ("VersionMerge", "draft", "LVersionMerge$TripleSet;", true)
def tyX3 : Nat → FieldType := fun k => match k with
  | 0 => .array (.object "VersionMerge$Version")
  | 1 => .array (.object "VersionMerge$Branch")
  | 2 => .int
  | 3 => .int
  | 4 => .object "VersionMerge$TripleSet"
  | 5 => .object "VersionMerge$TripleSet"
  | _ => .object "VersionMerge$TripleSet"
abbrev wsX30 : List Cond := u_ws RX3 TX3 7
theorem nmX3 : ∀ a, a < 7 → ∀ b, b < 7 → a ≠ b → (TX3 a).2.1 ≠ (TX3 b).2.1 := by decide +kernel
theorem tyX3_ok : ∀ k, k < 7 → parseFieldDescriptor (TX3 k).2.2.1 = some (tyX3 k) := by decide +kernel
abbrev cX3_init : ByteArray := prog_1_method_1_code
def yX3_init : MethodName := ⟨RX3, "<init>", "()V"⟩
abbrev cX3_branch : ByteArray := prog_1_method_2_code
def yX3_branch : MethodName := ⟨RX3, "branch", "(I)I"⟩
abbrev cX3_put : ByteArray := prog_1_method_3_code
def yX3_put : MethodName := ⟨RX3, "put", "(IIZ)I"⟩
abbrev cX3_blank : ByteArray := prog_1_method_4_code
def yX3_blank : MethodName := ⟨RX3, "blank", "(III)I"⟩
abbrev cX3_head : ByteArray := prog_1_method_5_code
def yX3_head : MethodName := ⟨RX3, "head", "(I)I"⟩
abbrev cX3_base : ByteArray := prog_1_method_6_code
def yX3_base : MethodName := ⟨RX3, "base", "(II)I"⟩
abbrev cX3_merge : ByteArray := prog_1_method_7_code
def yX3_merge : MethodName := ⟨RX3, "merge", "(II)I"⟩
abbrev cX3_conflict : ByteArray := prog_1_method_8_code
def yX3_conflict : MethodName := ⟨RX3, "conflict", "(II)I"⟩
abbrev cX3_patch : ByteArray := prog_1_method_9_code
def yX3_patch : MethodName := ⟨RX3, "patch", "(III)I"⟩
abbrev cX3_inverse : ByteArray := prog_1_method_10_code
def yX3_inverse : MethodName := ⟨RX3, "inverse", "(I)I"⟩
abbrev cX3_apply : ByteArray := prog_1_method_11_code
def yX3_apply : MethodName := ⟨RX3, "apply", "(II)I"⟩
abbrev cX3_revert : ByteArray := prog_1_method_12_code
def yX3_revert : MethodName := ⟨RX3, "revert", "(II)I"⟩
abbrev cX3_history : ByteArray := prog_1_method_13_code
def yX3_history : MethodName := ⟨RX3, "history", "(II)I"⟩
abbrev cX3_report : ByteArray := prog_1_method_14_code
def yX3_report : MethodName := ⟨RX3, "report", "(I)I"⟩
abbrev cX3_list : ByteArray := prog_1_method_15_code
def yX3_list : MethodName := ⟨RX3, "list", "(II)I"⟩
abbrev cX3_versions : ByteArray := prog_1_method_16_code
def yX3_versions : MethodName := ⟨RX3, "versions", "()I"⟩
abbrev cX3_branches : ByteArray := prog_1_method_17_code
def yX3_branches : MethodName := ⟨RX3, "branches", "()I"⟩
abbrev cX3_isTriple : ByteArray := prog_1_method_18_code
def yX3_isTriple : MethodName := ⟨RX3, "isTriple", "(I)Z"⟩
abbrev cX3_isBlank : ByteArray := prog_1_method_19_code
def yX3_isBlank : MethodName := ⟨RX3, "isBlank", "(I)Z"⟩
abbrev cX3_turnedRound : ByteArray := prog_1_method_20_code
def yX3_turnedRound : MethodName := ⟨RX3, "turnedRound", "(I)I"⟩
abbrev cX3_branchAt : ByteArray := prog_1_method_21_code
def yX3_branchAt : MethodName := ⟨RX3, "branchAt", "(I)LVersionMerge$Branch;"⟩
abbrev cX3_versionAt : ByteArray := prog_1_method_22_code
def yX3_versionAt : MethodName := ⟨RX3, "versionAt", "(I)LVersionMerge$Version;"⟩
abbrev cX3_changedBy : ByteArray := prog_1_method_23_code
def yX3_changedBy : MethodName := ⟨RX3, "changedBy", "(I)LVersionMerge$Version;"⟩
abbrev cX3_setBefore : ByteArray := prog_1_method_24_code
def yX3_setBefore : MethodName := ⟨RX3, "setBefore", "(LVersionMerge$Version;)LVersionMerge$TripleSet;"⟩
abbrev cX3_changes : ByteArray := prog_1_method_25_code
def yX3_changes : MethodName := ⟨RX3, "changes", "(LVersionMerge$Version;I)Z"⟩
abbrev cX3_isFull : ByteArray := prog_1_method_26_code
def yX3_isFull : MethodName := ⟨RX3, "isFull", "()Z"⟩
abbrev cX3_addVersion : ByteArray := prog_1_method_27_code
def yX3_addVersion : MethodName := ⟨RX3, "addVersion", "(LVersionMerge$Version;LVersionMerge$Version;LVersionMerge$TripleSet;)LVersionMerge$Version;"⟩
abbrev cX3_addBranch : ByteArray := prog_1_method_28_code
def yX3_addBranch : MethodName := ⟨RX3, "addBranch", "(LVersionMerge$Version;)I"⟩
abbrev cX3_advance : ByteArray := prog_1_method_29_code
def yX3_advance : MethodName := ⟨RX3, "advance", "(LVersionMerge$Branch;LVersionMerge$Version;LVersionMerge$TripleSet;)I"⟩
abbrev cX3_greatestCommon : ByteArray := prog_1_method_30_code
def yX3_greatestCommon : MethodName := ⟨RX3, "greatestCommon", "(LVersionMerge$Version;LVersionMerge$Version;)LVersionMerge$Version;"⟩
abbrev cX3_join : ByteArray := prog_1_method_31_code
def yX3_join : MethodName := ⟨RX3, "join", "(LVersionMerge$Branch;LVersionMerge$Version;)I"⟩
abbrev cX3_lay : ByteArray := prog_1_method_32_code
def yX3_lay : MethodName := ⟨RX3, "lay", "(LVersionMerge$Branch;LVersionMerge$TripleSet;LVersionMerge$TripleSet;)I"⟩
def RX4 : String := "VersionMergeModel"
def TX4 : u_T := fun k => match k with
  | 0 => ("VersionMergeModel", "sets", "[B", true)
  | 1 => ("VersionMergeModel", "firsts", "[I", true)
  | 2 => ("VersionMergeModel", "seconds", "[I", true)
  | 3 => ("VersionMergeModel", "versions", "I", false)
  | 4 => ("VersionMergeModel", "heads", "[I", true)
  | 5 => ("VersionMergeModel", "branches", "I", false)
  | 6 => ("VersionMergeModel", "ones", "[Z", true)
  | 7 => ("VersionMergeModel", "twos", "[Z", true)
  | 8 => ("VersionMergeModel", "hand", "[B", true)
  | 9 => ("VersionMergeModel", "keys", "[I", true)
  | 10 => ("VersionMergeModel", "least", "[I", true)
  | 11 => ("VersionMergeModel", "greatest", "[I", true)
  | _ => ("VersionMergeModel", "conflicts", "I", false)
def tyX4 : Nat → FieldType := fun k => match k with
  | 0 => .array .byte
  | 1 => .array .int
  | 2 => .array .int
  | 3 => .int
  | 4 => .array .int
  | 5 => .int
  | 6 => .array .boolean
  | 7 => .array .boolean
  | 8 => .array .byte
  | 9 => .array .int
  | 10 => .array .int
  | 11 => .array .int
  | _ => .int
abbrev wsX40 : List Cond := u_ws RX4 TX4 13
theorem nmX4 : ∀ a, a < 13 → ∀ b, b < 13 → a ≠ b → (TX4 a).2.1 ≠ (TX4 b).2.1 := by decide +kernel
theorem tyX4_ok : ∀ k, k < 13 → parseFieldDescriptor (TX4 k).2.2.1 = some (tyX4 k) := by decide +kernel
abbrev cX4_init : ByteArray := prog_6_method_1_code
def yX4_init : MethodName := ⟨RX4, "<init>", "()V"⟩
abbrev cX4_isBranch : ByteArray := prog_6_method_2_code
def yX4_isBranch : MethodName := ⟨RX4, "isBranch", "(I)Z"⟩
abbrev cX4_isVersion : ByteArray := prog_6_method_3_code
def yX4_isVersion : MethodName := ⟨RX4, "isVersion", "(I)Z"⟩
abbrev cX4_isTriple : ByteArray := prog_6_method_4_code
def yX4_isTriple : MethodName := ⟨RX4, "isTriple", "(I)Z"⟩
abbrev cX4_has : ByteArray := prog_6_method_5_code
def yX4_has : MethodName := ⟨RX4, "has", "(II)Z"⟩
abbrev cX4_grow : ByteArray := prog_6_method_6_code
def yX4_grow : MethodName := ⟨RX4, "grow", "(II)I"⟩
abbrev cX4_take : ByteArray := prog_6_method_7_code
def yX4_take : MethodName := ⟨RX4, "take", "(I)V"⟩
abbrev cX4_branch : ByteArray := prog_6_method_8_code
def yX4_branch : MethodName := ⟨RX4, "branch", "(I)I"⟩
abbrev cX4_head : ByteArray := prog_6_method_9_code
def yX4_head : MethodName := ⟨RX4, "head", "(I)I"⟩
abbrev cX4_step : ByteArray := prog_6_method_10_code
def yX4_step : MethodName := ⟨RX4, "step", "(I)I"⟩
abbrev cX4_put : ByteArray := prog_6_method_11_code
def yX4_put : MethodName := ⟨RX4, "put", "(IIZ)I"⟩
abbrev cX4_isBlank : ByteArray := prog_6_method_12_code
def yX4_isBlank : MethodName := ⟨RX4, "isBlank", "(I)Z"⟩
abbrev cX4_stands : ByteArray := prog_6_method_13_code
def yX4_stands : MethodName := ⟨RX4, "stands", "(II)Z"⟩
abbrev cX4_turned : ByteArray := prog_6_method_14_code
def yX4_turned : MethodName := ⟨RX4, "turned", "(III)I"⟩
abbrev cX4_blank : ByteArray := prog_6_method_15_code
def yX4_blank : MethodName := ⟨RX4, "blank", "(III)I"⟩
abbrev cX4_mark : ByteArray := prog_6_method_16_code
def yX4_mark : MethodName := ⟨RX4, "mark", "(I[Z)V"⟩
abbrev cX4_common : ByteArray := prog_6_method_17_code
def yX4_common : MethodName := ⟨RX4, "common", "(II)I"⟩
abbrev cX4_base : ByteArray := prog_6_method_18_code
def yX4_base : MethodName := ⟨RX4, "base", "(II)I"⟩
abbrev cX4_merge : ByteArray := prog_6_method_19_code
def yX4_merge : MethodName := ⟨RX4, "merge", "(II)I"⟩
abbrev cX4_look : ByteArray := prog_6_method_20_code
def yX4_look : MethodName := ⟨RX4, "look", "()V"⟩
abbrev cX4_conflict : ByteArray := prog_6_method_21_code
def yX4_conflict : MethodName := ⟨RX4, "conflict", "(II)I"⟩
abbrev cX4_patch : ByteArray := prog_6_method_22_code
def yX4_patch : MethodName := ⟨RX4, "patch", "(III)I"⟩
abbrev cX4_isPatch : ByteArray := prog_6_method_23_code
def yX4_isPatch : MethodName := ⟨RX4, "isPatch", "(I)Z"⟩
abbrev cX4_inverse : ByteArray := prog_6_method_24_code
def yX4_inverse : MethodName := ⟨RX4, "inverse", "(I)I"⟩
abbrev cX4_lay : ByteArray := prog_6_method_25_code
def yX4_lay : MethodName := ⟨RX4, "lay", "(II)Z"⟩
abbrev cX4_laid : ByteArray := prog_6_method_26_code
def yX4_laid : MethodName := ⟨RX4, "laid", "(II)I"⟩
abbrev cX4_apply : ByteArray := prog_6_method_27_code
def yX4_apply : MethodName := ⟨RX4, "apply", "(II)I"⟩
abbrev cX4_revert : ByteArray := prog_6_method_28_code
def yX4_revert : MethodName := ⟨RX4, "revert", "(II)I"⟩
abbrev cX4_history : ByteArray := prog_6_method_29_code
def yX4_history : MethodName := ⟨RX4, "history", "(II)I"⟩
abbrev cX4_report : ByteArray := prog_6_method_30_code
def yX4_report : MethodName := ⟨RX4, "report", "(I)I"⟩
abbrev cX4_list : ByteArray := prog_6_method_31_code
def yX4_list : MethodName := ⟨RX4, "list", "(II)I"⟩
abbrev cX4_versions : ByteArray := prog_6_method_32_code
def yX4_versions : MethodName := ⟨RX4, "versions", "()I"⟩
abbrev cX4_branches : ByteArray := prog_6_method_33_code
def yX4_branches : MethodName := ⟨RX4, "branches", "()I"⟩
def RJ13 : String := "java/lang/Long"
def TJ13 : u_T := fun k => match k with
  | _ => ("", "", "", false)
def tyJ13 : Nat → FieldType := fun k => match k with
  | _ => .int
abbrev wsJ130 : List Cond := u_ws RJ13 TJ13 0
theorem nmJ13 : ∀ a, a < 0 → ∀ b, b < 0 → a ≠ b → (TJ13 a).2.1 ≠ (TJ13 b).2.1 := by decide +kernel
theorem tyJ13_ok : ∀ k, k < 0 → parseFieldDescriptor (TJ13 k).2.2.1 = some (tyJ13 k) := by decide +kernel
abbrev cJ13_bitCount_95d88 : ByteArray := prog_7_method_50_code
def yJ13_bitCount_95d88 : MethodName := ⟨RJ13, "bitCount", "(J)I"⟩
def RJ9 : String := "java/lang/Math"
def TJ9 : u_T := fun k => match k with
  | _ => ("", "", "", false)
def tyJ9 : Nat → FieldType := fun k => match k with
  | _ => .int
abbrev wsJ90 : List Cond := u_ws RJ9 TJ9 0
theorem nmJ9 : ∀ a, a < 0 → ∀ b, b < 0 → a ≠ b → (TJ9 a).2.1 ≠ (TJ9 b).2.1 := by decide +kernel
theorem tyJ9_ok : ∀ k, k < 0 → parseFieldDescriptor (TJ9 k).2.2.1 = some (tyJ9 k) := by decide +kernel
abbrev cJ9_min_7cf53 : ByteArray := prog_8_method_69_code
def yJ9_min_7cf53 : MethodName := ⟨RJ9, "min", "(II)I"⟩
def RJ10 : String := "java/lang/System"
def TJ10 : u_T := fun k => match k with
  | _ => ("", "", "", false)
def tyJ10 : Nat → FieldType := fun k => match k with
  | _ => .int
abbrev wsJ100 : List Cond := u_ws RJ10 TJ10 0
theorem nmJ10 : ∀ a, a < 0 → ∀ b, b < 0 → a ≠ b → (TJ10 a).2.1 ≠ (TJ10 b).2.1 := by decide +kernel
theorem tyJ10_ok : ∀ k, k < 0 → parseFieldDescriptor (TJ10 k).2.2.1 = some (tyJ10 k) := by decide +kernel
def RL : String := "VersionMergeLaw"
abbrev cL_law : ByteArray := code
def yL_law : MethodName := ⟨RL, "law", "([I)Z"⟩
def wsX0_init : List Cond := .code yX0_init cX0_init 2 none :: ([.methodLink RX0 1 objectInit, .instanceMethod objectInit, .code objectInit ⟨#[0xb1]⟩ 1 none, .fieldLink RX0 7 "VersionMerge$Branch" "head" "LVersionMerge$Version;"] ++ wsX00)
def wsX1_init : List Cond := .code yX1_init cX1_init 1 none :: ([.methodLink RX1 3 objectInit, .instanceMethod objectInit, .code objectInit ⟨#[0xb1]⟩ 1 none, .arrayClass .long, .fieldLink RX1 9 "VersionMerge$TripleSet" "words" "[J"] ++ wsX10)
def wsX3_isTriple : List Cond := .code yX3_isTriple cX3_isTriple 1 (some .boolean) :: ([])
def wsX1_has : List Cond := .code yX1_has cX1_has 2 (some .boolean) :: ([.fieldLink RX1 9 "VersionMerge$TripleSet" "words" "[J", .static yX3_isTriple, .initialized RX3, .code yX3_isTriple cX3_isTriple 1 (some .boolean)] ++ wsX10)
def wsX1_change : List Cond := .code yX1_change cX1_change 5 none :: ([.fieldLink RX1 9 "VersionMerge$TripleSet" "words" "[J", .constantLong RX1 19 (-1), .static yX3_isTriple, .initialized RX3, .code yX3_isTriple cX3_isTriple 1 (some .boolean)] ++ wsX10)
def wsX1_becomeCopy : List Cond := .code yX1_becomeCopy cX1_becomeCopy 2 none :: ([.fieldLink RX1 9 "VersionMerge$TripleSet" "words" "[J", .methodLink RX1 21 arraycopyName, .native arraycopyName, .static arraycopyName, .initialized "java/lang/System"] ++ wsX10)
def wsX1_becomeDifference : List Cond := .code yX1_becomeDifference cX1_becomeDifference 4 none :: ([.fieldLink RX1 9 "VersionMerge$TripleSet" "words" "[J"] ++ wsX10)
def wsX1_becomeMerged : List Cond := .code yX1_becomeMerged cX1_becomeMerged 7 none :: ([.fieldLink RX1 9 "VersionMerge$TripleSet" "words" "[J", .constantLong RX1 19 (-1)] ++ wsX10)
def wsX1_becomeLaid : List Cond := .code yX1_becomeLaid cX1_becomeLaid 9 none :: ([.fieldLink RX1 9 "VersionMerge$TripleSet" "words" "[J", .constantLong RX1 19 (-1)] ++ wsX10)
def wsX1_subject : List Cond := .code yX1_subject cX1_subject 1 (some .int) :: ([])
def wsX1_property : List Cond := .code yX1_property cX1_property 1 (some .int) :: ([])
def wsX1_object : List Cond := .code yX1_object cX1_object 1 (some .int) :: ([])
def wsX1_renamed : List Cond := .code yX1_renamed cX1_renamed 6 (some .int) :: ([.methodLink RX1 38 yX1_subject, .static yX1_subject, .initialized RX1, .code yX1_subject cX1_subject 1 (some .int), .methodLink RX1 42 yX1_property, .static yX1_property, .code yX1_property cX1_property 1 (some .int), .methodLink RX1 45 yX1_object, .static yX1_object, .code yX1_object cX1_object 1 (some .int)])
def wsX1_becomeRenamed_r1 : List Cond := [Cond.fieldLink RX1 9 "VersionMerge$TripleSet" "words" "[J", Cond.methodLink RX1 27 yX1_has, Cond.instanceMethod yX1_has, Cond.selects RX1 yX1_has yX1_has, Cond.initialized RX1, Cond.code yX1_has cX1_has 2 (some .boolean), Cond.static yX3_isTriple, Cond.initialized RX3, Cond.code yX3_isTriple cX3_isTriple 1 (some .boolean), Cond.methodLink RX1 30 yX1_renamed, Cond.static yX1_renamed, Cond.code yX1_renamed cX1_renamed 6 (some .int), Cond.methodLink RX1 38 yX1_subject, Cond.static yX1_subject, Cond.code yX1_subject cX1_subject 1 (some .int), Cond.methodLink RX1 42 yX1_property, Cond.static yX1_property, Cond.code yX1_property cX1_property 1 (some .int), Cond.methodLink RX1 45 yX1_object, Cond.static yX1_object, Cond.code yX1_object cX1_object 1 (some .int), Cond.methodLink RX1 34 yX1_change, Cond.instanceMethod yX1_change, Cond.selects RX1 yX1_change yX1_change]
def wsX1_becomeRenamed_r2 : List Cond := [Cond.code yX1_change cX1_change 5 none, Cond.constantLong RX1 19 (-1)]
def wsX1_becomeRenamed : List Cond := .code yX1_becomeRenamed cX1_becomeRenamed 5 none :: ((wsX1_becomeRenamed_r1 ++ wsX1_becomeRenamed_r2) ++ wsX10)
def wsX1_mentions : List Cond := .code yX1_mentions cX1_mentions 3 (some .boolean) :: ([.methodLink RX1 27 yX1_has, .instanceMethod yX1_has, .selects RX1 yX1_has yX1_has, .initialized RX1, .code yX1_has cX1_has 2 (some .boolean), .fieldLink RX1 9 "VersionMerge$TripleSet" "words" "[J", .static yX3_isTriple, .initialized RX3, .code yX3_isTriple cX3_isTriple 1 (some .boolean), .methodLink RX1 38 yX1_subject, .static yX1_subject, .code yX1_subject cX1_subject 1 (some .int), .methodLink RX1 42 yX1_property, .static yX1_property, .code yX1_property cX1_property 1 (some .int), .methodLink RX1 45 yX1_object, .static yX1_object, .code yX1_object cX1_object 1 (some .int)] ++ wsX10)
def wsX1_hasAllRemoved : List Cond := .code yX1_hasAllRemoved cX1_hasAllRemoved 6 (some .boolean) :: ([.fieldLink RX1 9 "VersionMerge$TripleSet" "words" "[J", .constantLong RX1 19 (-1)] ++ wsX10)
def wsX1_isSameAs : List Cond := .code yX1_isSameAs cX1_isSameAs 3 (some .boolean) :: ([.fieldLink RX1 9 "VersionMerge$TripleSet" "words" "[J"] ++ wsX10)
def wsJ13_bitCount_95d88 : List Cond := .code yJ13_bitCount_95d88 cJ13_bitCount_95d88 2 (some .int) :: ([.constantLong RJ13 314 (6148914691236517205), .constantLong RJ13 316 (3689348814741910323), .constantLong RJ13 318 (1085102592571150095)])
def wsX1_tripleInWord : List Cond := .code yX1_tripleInWord cX1_tripleInWord 5 (some .int) :: ([.methodLink RX1 27 yX1_has, .instanceMethod yX1_has, .selects RX1 yX1_has yX1_has, .initialized RX1, .code yX1_has cX1_has 2 (some .boolean), .fieldLink RX1 9 "VersionMerge$TripleSet" "words" "[J", .static yX3_isTriple, .initialized RX3, .code yX3_isTriple cX3_isTriple 1 (some .boolean)] ++ wsX10)
def wsX1_tripleAt : List Cond := .code yX1_tripleAt cX1_tripleAt 5 (some .int) :: ([.fieldLink RX1 9 "VersionMerge$TripleSet" "words" "[J", .methodLink RX1 48 yJ13_bitCount_95d88, .static yJ13_bitCount_95d88, .initialized RJ13, .code yJ13_bitCount_95d88 cJ13_bitCount_95d88 2 (some .int), .constantLong RJ13 314 (6148914691236517205), .constantLong RJ13 316 (3689348814741910323), .constantLong RJ13 318 (1085102592571150095), .methodLink RX1 54 yX1_tripleInWord, .instanceMethod yX1_tripleInWord, .selects RX1 yX1_tripleInWord yX1_tripleInWord, .initialized RX1, .code yX1_tripleInWord cX1_tripleInWord 5 (some .int), .methodLink RX1 27 yX1_has, .instanceMethod yX1_has, .selects RX1 yX1_has yX1_has, .code yX1_has cX1_has 2 (some .boolean), .static yX3_isTriple, .initialized RX3, .code yX3_isTriple cX3_isTriple 1 (some .boolean)] ++ wsX10)
def wsX1_isCrowded : List Cond := .code yX1_isCrowded cX1_isCrowded 4 (some .boolean) :: ([.methodLink RX1 27 yX1_has, .instanceMethod yX1_has, .selects RX1 yX1_has yX1_has, .initialized RX1, .code yX1_has cX1_has 2 (some .boolean), .fieldLink RX1 9 "VersionMerge$TripleSet" "words" "[J", .static yX3_isTriple, .initialized RX3, .code yX3_isTriple cX3_isTriple 1 (some .boolean)] ++ wsX10)
def wsX1_crowdedKeys : List Cond := .code yX1_crowdedKeys cX1_crowdedKeys 3 (some .int) :: ([.methodLink RX1 58 yX1_isCrowded, .instanceMethod yX1_isCrowded, .selects RX1 yX1_isCrowded yX1_isCrowded, .initialized RX1, .code yX1_isCrowded cX1_isCrowded 4 (some .boolean), .methodLink RX1 27 yX1_has, .instanceMethod yX1_has, .selects RX1 yX1_has yX1_has, .code yX1_has cX1_has 2 (some .boolean), .fieldLink RX1 9 "VersionMerge$TripleSet" "words" "[J", .static yX3_isTriple, .initialized RX3, .code yX3_isTriple cX3_isTriple 1 (some .boolean)] ++ wsX10)
def wsX1_crowdedKey : List Cond := .code yX1_crowdedKey cX1_crowdedKey 4 (some .int) :: ([.methodLink RX1 58 yX1_isCrowded, .instanceMethod yX1_isCrowded, .selects RX1 yX1_isCrowded yX1_isCrowded, .initialized RX1, .code yX1_isCrowded cX1_isCrowded 4 (some .boolean), .methodLink RX1 27 yX1_has, .instanceMethod yX1_has, .selects RX1 yX1_has yX1_has, .code yX1_has cX1_has 2 (some .boolean), .fieldLink RX1 9 "VersionMerge$TripleSet" "words" "[J", .static yX3_isTriple, .initialized RX3, .code yX3_isTriple cX3_isTriple 1 (some .boolean)] ++ wsX10)
def wsX1_leastOfKey : List Cond := .code yX1_leastOfKey cX1_leastOfKey 3 (some .int) :: ([.methodLink RX1 27 yX1_has, .instanceMethod yX1_has, .selects RX1 yX1_has yX1_has, .initialized RX1, .code yX1_has cX1_has 2 (some .boolean), .fieldLink RX1 9 "VersionMerge$TripleSet" "words" "[J", .static yX3_isTriple, .initialized RX3, .code yX3_isTriple cX3_isTriple 1 (some .boolean)] ++ wsX10)
def wsX1_greatestOfKey : List Cond := .code yX1_greatestOfKey cX1_greatestOfKey 3 (some .int) :: ([.methodLink RX1 27 yX1_has, .instanceMethod yX1_has, .selects RX1 yX1_has yX1_has, .initialized RX1, .code yX1_has cX1_has 2 (some .boolean), .fieldLink RX1 9 "VersionMerge$TripleSet" "words" "[J", .static yX3_isTriple, .initialized RX3, .code yX3_isTriple cX3_isTriple 1 (some .boolean)] ++ wsX10)
def wsX2_takeAncestors : List Cond := .code yX2_takeAncestors cX2_takeAncestors 3 none :: ([.fieldLink RX2 18 "VersionMerge$Version" "ancestors" "[Z"] ++ wsX20)
def wsX2_init_r1 : List Cond := [Cond.methodLink RX2 3 objectInit, Cond.instanceMethod objectInit, Cond.code objectInit ⟨#[0xb1]⟩ 1 none, Cond.classLink RX2 9 RX1, Cond.instantiable RX1 1, Cond.initialized RX1, Cond.fieldLink RX2 12 "VersionMerge$Version" "triples" "LVersionMerge$TripleSet;", Cond.arrayClass .boolean, Cond.fieldLink RX2 18 "VersionMerge$Version" "ancestors" "[Z", Cond.fieldLink RX2 22 "VersionMerge$Version" "number" "I", Cond.fieldLink RX2 26 "VersionMerge$Version" "first" "LVersionMerge$Version;", Cond.fieldLink RX2 30 "VersionMerge$Version" "second" "LVersionMerge$Version;", Cond.instanceMethod yX1_init, Cond.code yX1_init cX1_init 1 none, Cond.methodLink RX1 3 objectInit, Cond.arrayClass .long, Cond.fieldLink RX1 9 "VersionMerge$TripleSet" "words" "[J", Cond.instanceMethod yX1_becomeCopy, Cond.selects RX1 yX1_becomeCopy yX1_becomeCopy, Cond.code yX1_becomeCopy cX1_becomeCopy 2 none, Cond.methodLink RX1 21 arraycopyName, Cond.native arraycopyName, Cond.static arraycopyName, Cond.initialized "java/lang/System"]
def wsX2_init_r2 : List Cond := [Cond.methodLink RX2 37 yX2_takeAncestors, Cond.instanceMethod yX2_takeAncestors, Cond.selects RX2 yX2_takeAncestors yX2_takeAncestors, Cond.initialized RX2, Cond.code yX2_takeAncestors cX2_takeAncestors 3 none]
def wsX2_init : List Cond := .code yX2_init cX2_init 5 none :: ((wsX2_init_r1 ++ wsX2_init_r2) ++ wsX10 ++ wsX20)
def wsX2_hasAncestor : List Cond := .code yX2_hasAncestor cX2_hasAncestor 2 (some .boolean) :: ([.fieldLink RX2 18 "VersionMerge$Version" "ancestors" "[Z"] ++ wsX20)
def wsX3_addVersion_r1 : List Cond := [Cond.fieldLink RX3 146 "VersionMerge" "versionCount" "I", Cond.classLink RX3 9 RX2, Cond.instantiable RX2 5, Cond.initialized RX2, Cond.fieldLink RX3 11 "VersionMerge" "versionRow" "[LVersionMerge$Version;", Cond.instanceMethod yX2_init, Cond.code yX2_init cX2_init 5 none, Cond.methodLink RX2 3 objectInit, Cond.instanceMethod objectInit, Cond.code objectInit ⟨#[0xb1]⟩ 1 none, Cond.classLink RX2 9 RX1, Cond.instantiable RX1 1, Cond.initialized RX1, Cond.fieldLink RX2 12 "VersionMerge$Version" "triples" "LVersionMerge$TripleSet;", Cond.arrayClass .boolean, Cond.fieldLink RX2 18 "VersionMerge$Version" "ancestors" "[Z", Cond.fieldLink RX2 22 "VersionMerge$Version" "number" "I", Cond.fieldLink RX2 26 "VersionMerge$Version" "first" "LVersionMerge$Version;", Cond.fieldLink RX2 30 "VersionMerge$Version" "second" "LVersionMerge$Version;", Cond.instanceMethod yX1_init, Cond.code yX1_init cX1_init 1 none, Cond.methodLink RX1 3 objectInit, Cond.arrayClass .long, Cond.fieldLink RX1 9 "VersionMerge$TripleSet" "words" "[J"]
def wsX3_addVersion_r2 : List Cond := [Cond.instanceMethod yX1_becomeCopy, Cond.selects RX1 yX1_becomeCopy yX1_becomeCopy, Cond.code yX1_becomeCopy cX1_becomeCopy 2 none, Cond.methodLink RX1 21 arraycopyName, Cond.native arraycopyName, Cond.static arraycopyName, Cond.initialized "java/lang/System", Cond.methodLink RX2 37 yX2_takeAncestors, Cond.instanceMethod yX2_takeAncestors, Cond.selects RX2 yX2_takeAncestors yX2_takeAncestors, Cond.code yX2_takeAncestors cX2_takeAncestors 3 none]
def wsX3_addVersion : List Cond := .code yX3_addVersion cX3_addVersion 5 (some (.object "VersionMerge$Version")) :: ((wsX3_addVersion_r1 ++ wsX3_addVersion_r2) ++ wsX30 ++ wsX20 ++ wsX10)
def wsX3_addBranch : List Cond := .code yX3_addBranch cX3_addBranch 3 (some .int) :: ([.fieldLink RX3 46 "VersionMerge" "branchCount" "I", .fieldLink RX3 17 "VersionMerge" "branchRow" "[LVersionMerge$Branch;", .classLink RX3 15 RX0, .instantiable RX0 1, .initialized RX0, .instanceMethod yX0_init, .code yX0_init cX0_init 2 none, .methodLink RX0 1 objectInit, .instanceMethod objectInit, .code objectInit ⟨#[0xb1]⟩ 1 none, .fieldLink RX0 7 "VersionMerge$Branch" "head" "LVersionMerge$Version;"] ++ wsX30 ++ wsX00)
def wsX3_init_r1 : List Cond := [Cond.methodLink RX3 1 objectInit, Cond.instanceMethod objectInit, Cond.code objectInit ⟨#[0xb1]⟩ 1 none, Cond.classLink RX3 9 RX2, Cond.fieldLink RX3 11 "VersionMerge" "versionRow" "[LVersionMerge$Version;", Cond.classLink RX3 15 RX0, Cond.fieldLink RX3 17 "VersionMerge" "branchRow" "[LVersionMerge$Branch;", Cond.classLink RX3 21 RX1, Cond.instantiable RX1 1, Cond.initialized RX1, Cond.fieldLink RX3 24 "VersionMerge" "nothing" "LVersionMerge$TripleSet;", Cond.fieldLink RX3 28 "VersionMerge" "merged" "LVersionMerge$TripleSet;", Cond.fieldLink RX3 31 "VersionMerge" "draft" "LVersionMerge$TripleSet;", Cond.instanceMethod yX1_init, Cond.code yX1_init cX1_init 1 none, Cond.methodLink RX1 3 objectInit, Cond.arrayClass .long, Cond.fieldLink RX1 9 "VersionMerge$TripleSet" "words" "[J", Cond.methodLink RX3 34 yX3_addVersion, Cond.instanceMethod yX3_addVersion, Cond.selects RX3 yX3_addVersion yX3_addVersion, Cond.initialized RX3, Cond.code yX3_addVersion cX3_addVersion 5 (some (.object "VersionMerge$Version")), Cond.fieldLink RX3 146 "VersionMerge" "versionCount" "I"]
def wsX3_init_r2 : List Cond := [Cond.instantiable RX2 5, Cond.initialized RX2, Cond.instanceMethod yX2_init, Cond.code yX2_init cX2_init 5 none, Cond.methodLink RX2 3 objectInit, Cond.classLink RX2 9 RX1, Cond.fieldLink RX2 12 "VersionMerge$Version" "triples" "LVersionMerge$TripleSet;", Cond.arrayClass .boolean, Cond.fieldLink RX2 18 "VersionMerge$Version" "ancestors" "[Z", Cond.fieldLink RX2 22 "VersionMerge$Version" "number" "I", Cond.fieldLink RX2 26 "VersionMerge$Version" "first" "LVersionMerge$Version;", Cond.fieldLink RX2 30 "VersionMerge$Version" "second" "LVersionMerge$Version;", Cond.instanceMethod yX1_becomeCopy, Cond.selects RX1 yX1_becomeCopy yX1_becomeCopy, Cond.code yX1_becomeCopy cX1_becomeCopy 2 none, Cond.methodLink RX1 21 arraycopyName, Cond.native arraycopyName, Cond.static arraycopyName, Cond.initialized "java/lang/System", Cond.methodLink RX2 37 yX2_takeAncestors, Cond.instanceMethod yX2_takeAncestors, Cond.selects RX2 yX2_takeAncestors yX2_takeAncestors, Cond.code yX2_takeAncestors cX2_takeAncestors 3 none, Cond.methodLink RX3 38 yX3_addBranch]
def wsX3_init_r3 : List Cond := [Cond.instanceMethod yX3_addBranch, Cond.selects RX3 yX3_addBranch yX3_addBranch, Cond.code yX3_addBranch cX3_addBranch 3 (some .int), Cond.fieldLink RX3 46 "VersionMerge" "branchCount" "I", Cond.instantiable RX0 1, Cond.initialized RX0, Cond.instanceMethod yX0_init, Cond.code yX0_init cX0_init 2 none, Cond.methodLink RX0 1 objectInit, Cond.fieldLink RX0 7 "VersionMerge$Branch" "head" "LVersionMerge$Version;"]
def wsX3_init : List Cond := .code yX3_init cX3_init 1 none :: ((wsX3_init_r1 ++ (wsX3_init_r2 ++ wsX3_init_r3)) ++ wsX30 ++ wsX10 ++ wsX20 ++ wsX00)
def wsX3_branchAt : List Cond := .code yX3_branchAt cX3_branchAt 2 (some (.object "VersionMerge$Branch")) :: ([.fieldLink RX3 46 "VersionMerge" "branchCount" "I", .fieldLink RX3 17 "VersionMerge" "branchRow" "[LVersionMerge$Branch;"] ++ wsX30)
def wsX3_branch_r1 : List Cond := [Cond.fieldLink RX3 46 "VersionMerge" "branchCount" "I", Cond.fieldLink RX3 24 "VersionMerge" "nothing" "LVersionMerge$TripleSet;", Cond.methodLink RX3 42 yX3_branchAt, Cond.instanceMethod yX3_branchAt, Cond.selects RX3 yX3_branchAt yX3_branchAt, Cond.initialized RX3, Cond.code yX3_branchAt cX3_branchAt 2 (some (.object "VersionMerge$Branch")), Cond.fieldLink RX3 17 "VersionMerge" "branchRow" "[LVersionMerge$Branch;", Cond.methodLink RX3 34 yX3_addVersion, Cond.instanceMethod yX3_addVersion, Cond.selects RX3 yX3_addVersion yX3_addVersion, Cond.code yX3_addVersion cX3_addVersion 5 (some (.object "VersionMerge$Version")), Cond.fieldLink RX3 146 "VersionMerge" "versionCount" "I", Cond.classLink RX3 9 RX2, Cond.instantiable RX2 5, Cond.initialized RX2, Cond.fieldLink RX3 11 "VersionMerge" "versionRow" "[LVersionMerge$Version;", Cond.instanceMethod yX2_init, Cond.code yX2_init cX2_init 5 none, Cond.methodLink RX2 3 objectInit, Cond.instanceMethod objectInit, Cond.code objectInit ⟨#[0xb1]⟩ 1 none, Cond.classLink RX2 9 RX1, Cond.instantiable RX1 1]
def wsX3_branch_r2 : List Cond := [Cond.initialized RX1, Cond.fieldLink RX2 12 "VersionMerge$Version" "triples" "LVersionMerge$TripleSet;", Cond.arrayClass .boolean, Cond.fieldLink RX2 18 "VersionMerge$Version" "ancestors" "[Z", Cond.fieldLink RX2 22 "VersionMerge$Version" "number" "I", Cond.fieldLink RX2 26 "VersionMerge$Version" "first" "LVersionMerge$Version;", Cond.fieldLink RX2 30 "VersionMerge$Version" "second" "LVersionMerge$Version;", Cond.instanceMethod yX1_init, Cond.code yX1_init cX1_init 1 none, Cond.methodLink RX1 3 objectInit, Cond.arrayClass .long, Cond.fieldLink RX1 9 "VersionMerge$TripleSet" "words" "[J", Cond.instanceMethod yX1_becomeCopy, Cond.selects RX1 yX1_becomeCopy yX1_becomeCopy, Cond.code yX1_becomeCopy cX1_becomeCopy 2 none, Cond.methodLink RX1 21 arraycopyName, Cond.native arraycopyName, Cond.static arraycopyName, Cond.initialized "java/lang/System", Cond.methodLink RX2 37 yX2_takeAncestors, Cond.instanceMethod yX2_takeAncestors, Cond.selects RX2 yX2_takeAncestors yX2_takeAncestors, Cond.code yX2_takeAncestors cX2_takeAncestors 3 none, Cond.methodLink RX3 38 yX3_addBranch]
def wsX3_branch_r3 : List Cond := [Cond.instanceMethod yX3_addBranch, Cond.selects RX3 yX3_addBranch yX3_addBranch, Cond.code yX3_addBranch cX3_addBranch 3 (some .int), Cond.classLink RX3 15 RX0, Cond.instantiable RX0 1, Cond.initialized RX0, Cond.instanceMethod yX0_init, Cond.code yX0_init cX0_init 2 none, Cond.methodLink RX0 1 objectInit, Cond.fieldLink RX0 7 "VersionMerge$Branch" "head" "LVersionMerge$Version;"]
def wsX3_branch : List Cond := .code yX3_branch cX3_branch 3 (some .int) :: ((wsX3_branch_r1 ++ (wsX3_branch_r2 ++ wsX3_branch_r3)) ++ wsX30 ++ wsX00 ++ wsX20 ++ wsX10)
def wsX3_advance_r1 : List Cond := [Cond.methodLink RX3 34 yX3_addVersion, Cond.instanceMethod yX3_addVersion, Cond.selects RX3 yX3_addVersion yX3_addVersion, Cond.initialized RX3, Cond.code yX3_addVersion cX3_addVersion 5 (some (.object "VersionMerge$Version")), Cond.fieldLink RX3 146 "VersionMerge" "versionCount" "I", Cond.classLink RX3 9 RX2, Cond.instantiable RX2 5, Cond.initialized RX2, Cond.fieldLink RX3 11 "VersionMerge" "versionRow" "[LVersionMerge$Version;", Cond.instanceMethod yX2_init, Cond.code yX2_init cX2_init 5 none, Cond.methodLink RX2 3 objectInit, Cond.instanceMethod objectInit, Cond.code objectInit ⟨#[0xb1]⟩ 1 none, Cond.classLink RX2 9 RX1, Cond.instantiable RX1 1, Cond.initialized RX1, Cond.fieldLink RX2 12 "VersionMerge$Version" "triples" "LVersionMerge$TripleSet;", Cond.arrayClass .boolean, Cond.fieldLink RX2 18 "VersionMerge$Version" "ancestors" "[Z", Cond.fieldLink RX2 22 "VersionMerge$Version" "number" "I", Cond.fieldLink RX2 26 "VersionMerge$Version" "first" "LVersionMerge$Version;", Cond.fieldLink RX2 30 "VersionMerge$Version" "second" "LVersionMerge$Version;"]
def wsX3_advance_r2 : List Cond := [Cond.instanceMethod yX1_init, Cond.code yX1_init cX1_init 1 none, Cond.methodLink RX1 3 objectInit, Cond.arrayClass .long, Cond.fieldLink RX1 9 "VersionMerge$TripleSet" "words" "[J", Cond.instanceMethod yX1_becomeCopy, Cond.selects RX1 yX1_becomeCopy yX1_becomeCopy, Cond.code yX1_becomeCopy cX1_becomeCopy 2 none, Cond.methodLink RX1 21 arraycopyName, Cond.native arraycopyName, Cond.static arraycopyName, Cond.initialized "java/lang/System", Cond.methodLink RX2 37 yX2_takeAncestors, Cond.instanceMethod yX2_takeAncestors, Cond.selects RX2 yX2_takeAncestors yX2_takeAncestors, Cond.code yX2_takeAncestors cX2_takeAncestors 3 none]
def wsX3_advance : List Cond := .code yX3_advance cX3_advance 5 (some .int) :: ((wsX3_advance_r1 ++ wsX3_advance_r2) ++ wsX00 ++ wsX20 ++ wsX30 ++ wsX10)
def wsX3_put_r1 : List Cond := [Cond.fieldLink RX3 31 "VersionMerge" "draft" "LVersionMerge$TripleSet;", Cond.methodLink RX3 42 yX3_branchAt, Cond.instanceMethod yX3_branchAt, Cond.selects RX3 yX3_branchAt yX3_branchAt, Cond.initialized RX3, Cond.code yX3_branchAt cX3_branchAt 2 (some (.object "VersionMerge$Branch")), Cond.fieldLink RX3 46 "VersionMerge" "branchCount" "I", Cond.fieldLink RX3 17 "VersionMerge" "branchRow" "[LVersionMerge$Branch;", Cond.methodLink RX3 54 yX3_isTriple, Cond.static yX3_isTriple, Cond.code yX3_isTriple cX3_isTriple 1 (some .boolean), Cond.instanceMethod yX1_has, Cond.initialized RX1, Cond.selects RX1 yX1_has yX1_has, Cond.code yX1_has cX1_has 2 (some .boolean), Cond.fieldLink RX1 9 "VersionMerge$TripleSet" "words" "[J", Cond.instanceMethod yX1_becomeCopy, Cond.selects RX1 yX1_becomeCopy yX1_becomeCopy, Cond.code yX1_becomeCopy cX1_becomeCopy 2 none, Cond.methodLink RX1 21 arraycopyName, Cond.native arraycopyName, Cond.static arraycopyName, Cond.initialized "java/lang/System", Cond.instanceMethod yX1_change]
def wsX3_put_r2 : List Cond := [Cond.selects RX1 yX1_change yX1_change, Cond.code yX1_change cX1_change 5 none, Cond.constantLong RX1 19 (-1), Cond.methodLink RX3 72 yX3_advance, Cond.instanceMethod yX3_advance, Cond.selects RX3 yX3_advance yX3_advance, Cond.code yX3_advance cX3_advance 5 (some .int), Cond.methodLink RX3 34 yX3_addVersion, Cond.instanceMethod yX3_addVersion, Cond.selects RX3 yX3_addVersion yX3_addVersion, Cond.code yX3_addVersion cX3_addVersion 5 (some (.object "VersionMerge$Version")), Cond.fieldLink RX3 146 "VersionMerge" "versionCount" "I", Cond.classLink RX3 9 RX2, Cond.instantiable RX2 5, Cond.initialized RX2, Cond.fieldLink RX3 11 "VersionMerge" "versionRow" "[LVersionMerge$Version;", Cond.instanceMethod yX2_init, Cond.code yX2_init cX2_init 5 none, Cond.methodLink RX2 3 objectInit, Cond.instanceMethod objectInit, Cond.code objectInit ⟨#[0xb1]⟩ 1 none, Cond.classLink RX2 9 RX1, Cond.instantiable RX1 1, Cond.fieldLink RX2 12 "VersionMerge$Version" "triples" "LVersionMerge$TripleSet;"]
def wsX3_put_r3 : List Cond := [Cond.arrayClass .boolean, Cond.fieldLink RX2 18 "VersionMerge$Version" "ancestors" "[Z", Cond.fieldLink RX2 22 "VersionMerge$Version" "number" "I", Cond.fieldLink RX2 26 "VersionMerge$Version" "first" "LVersionMerge$Version;", Cond.fieldLink RX2 30 "VersionMerge$Version" "second" "LVersionMerge$Version;", Cond.instanceMethod yX1_init, Cond.code yX1_init cX1_init 1 none, Cond.methodLink RX1 3 objectInit, Cond.arrayClass .long, Cond.methodLink RX2 37 yX2_takeAncestors, Cond.instanceMethod yX2_takeAncestors, Cond.selects RX2 yX2_takeAncestors yX2_takeAncestors, Cond.code yX2_takeAncestors cX2_takeAncestors 3 none]
def wsX3_put : List Cond := .code yX3_put cX3_put 5 (some .int) :: ((wsX3_put_r1 ++ (wsX3_put_r2 ++ wsX3_put_r3)) ++ wsX00 ++ wsX20 ++ wsX30 ++ wsX10)
def wsX3_isBlank : List Cond := .code yX3_isBlank cX3_isBlank 1 (some .boolean) :: ([])
def wsX3_blank_r1 : List Cond := [Cond.fieldLink RX3 31 "VersionMerge" "draft" "LVersionMerge$TripleSet;", Cond.methodLink RX3 42 yX3_branchAt, Cond.instanceMethod yX3_branchAt, Cond.selects RX3 yX3_branchAt yX3_branchAt, Cond.initialized RX3, Cond.code yX3_branchAt cX3_branchAt 2 (some (.object "VersionMerge$Branch")), Cond.fieldLink RX3 46 "VersionMerge" "branchCount" "I", Cond.fieldLink RX3 17 "VersionMerge" "branchRow" "[LVersionMerge$Branch;", Cond.methodLink RX3 76 yX3_isBlank, Cond.static yX3_isBlank, Cond.code yX3_isBlank cX3_isBlank 1 (some .boolean), Cond.instanceMethod yX1_mentions, Cond.initialized RX1, Cond.selects RX1 yX1_mentions yX1_mentions, Cond.code yX1_mentions cX1_mentions 3 (some .boolean), Cond.methodLink RX1 27 yX1_has, Cond.instanceMethod yX1_has, Cond.selects RX1 yX1_has yX1_has, Cond.code yX1_has cX1_has 2 (some .boolean), Cond.fieldLink RX1 9 "VersionMerge$TripleSet" "words" "[J", Cond.static yX3_isTriple, Cond.code yX3_isTriple cX3_isTriple 1 (some .boolean), Cond.methodLink RX1 38 yX1_subject, Cond.static yX1_subject]
def wsX3_blank_r2 : List Cond := [Cond.code yX1_subject cX1_subject 1 (some .int), Cond.methodLink RX1 42 yX1_property, Cond.static yX1_property, Cond.code yX1_property cX1_property 1 (some .int), Cond.methodLink RX1 45 yX1_object, Cond.static yX1_object, Cond.code yX1_object cX1_object 1 (some .int), Cond.instanceMethod yX1_becomeRenamed, Cond.selects RX1 yX1_becomeRenamed yX1_becomeRenamed, Cond.code yX1_becomeRenamed cX1_becomeRenamed 5 none, Cond.methodLink RX1 30 yX1_renamed, Cond.static yX1_renamed, Cond.code yX1_renamed cX1_renamed 6 (some .int), Cond.methodLink RX1 34 yX1_change, Cond.instanceMethod yX1_change, Cond.selects RX1 yX1_change yX1_change, Cond.code yX1_change cX1_change 5 none, Cond.constantLong RX1 19 (-1), Cond.methodLink RX3 72 yX3_advance, Cond.instanceMethod yX3_advance, Cond.selects RX3 yX3_advance yX3_advance, Cond.code yX3_advance cX3_advance 5 (some .int), Cond.methodLink RX3 34 yX3_addVersion, Cond.instanceMethod yX3_addVersion]
def wsX3_blank_r3 : List Cond := [Cond.selects RX3 yX3_addVersion yX3_addVersion, Cond.code yX3_addVersion cX3_addVersion 5 (some (.object "VersionMerge$Version")), Cond.fieldLink RX3 146 "VersionMerge" "versionCount" "I", Cond.classLink RX3 9 RX2, Cond.instantiable RX2 5, Cond.initialized RX2, Cond.fieldLink RX3 11 "VersionMerge" "versionRow" "[LVersionMerge$Version;", Cond.instanceMethod yX2_init, Cond.code yX2_init cX2_init 5 none, Cond.methodLink RX2 3 objectInit, Cond.instanceMethod objectInit, Cond.code objectInit ⟨#[0xb1]⟩ 1 none, Cond.classLink RX2 9 RX1, Cond.instantiable RX1 1, Cond.fieldLink RX2 12 "VersionMerge$Version" "triples" "LVersionMerge$TripleSet;", Cond.arrayClass .boolean, Cond.fieldLink RX2 18 "VersionMerge$Version" "ancestors" "[Z", Cond.fieldLink RX2 22 "VersionMerge$Version" "number" "I", Cond.fieldLink RX2 26 "VersionMerge$Version" "first" "LVersionMerge$Version;", Cond.fieldLink RX2 30 "VersionMerge$Version" "second" "LVersionMerge$Version;", Cond.instanceMethod yX1_init, Cond.code yX1_init cX1_init 1 none, Cond.methodLink RX1 3 objectInit, Cond.arrayClass .long]
def wsX3_blank_r4 : List Cond := [Cond.instanceMethod yX1_becomeCopy, Cond.selects RX1 yX1_becomeCopy yX1_becomeCopy, Cond.code yX1_becomeCopy cX1_becomeCopy 2 none, Cond.methodLink RX1 21 arraycopyName, Cond.native arraycopyName, Cond.static arraycopyName, Cond.initialized "java/lang/System", Cond.methodLink RX2 37 yX2_takeAncestors, Cond.instanceMethod yX2_takeAncestors, Cond.selects RX2 yX2_takeAncestors yX2_takeAncestors, Cond.code yX2_takeAncestors cX2_takeAncestors 3 none]
def wsX3_blank : List Cond := .code yX3_blank cX3_blank 6 (some .int) :: ((wsX3_blank_r1 ++ (wsX3_blank_r2 ++ (wsX3_blank_r3 ++ wsX3_blank_r4))) ++ wsX00 ++ wsX20 ++ wsX30 ++ wsX10)
def wsX3_head : List Cond := .code yX3_head cX3_head 3 (some .int) :: ([.methodLink RX3 42 yX3_branchAt, .instanceMethod yX3_branchAt, .selects RX3 yX3_branchAt yX3_branchAt, .initialized RX3, .code yX3_branchAt cX3_branchAt 2 (some (.object "VersionMerge$Branch")), .fieldLink RX3 46 "VersionMerge" "branchCount" "I", .fieldLink RX3 17 "VersionMerge" "branchRow" "[LVersionMerge$Branch;"] ++ wsX00 ++ wsX20 ++ wsX30)
def wsX3_versionAt : List Cond := .code yX3_versionAt cX3_versionAt 2 (some (.object "VersionMerge$Version")) :: ([.fieldLink RX3 146 "VersionMerge" "versionCount" "I", .fieldLink RX3 11 "VersionMerge" "versionRow" "[LVersionMerge$Version;"] ++ wsX30)
def wsX3_greatestCommon : List Cond := .code yX3_greatestCommon cX3_greatestCommon 4 (some (.object "VersionMerge$Version")) :: ([.methodLink RX3 158 Lib.Math.min.name, .static Lib.Math.min.name, .initialized "java/lang/Math", .code Lib.Math.min.name Lib.Math.min.code 2 (some .int), .instanceMethod yX2_hasAncestor, .initialized RX2, .selects RX2 yX2_hasAncestor yX2_hasAncestor, .code yX2_hasAncestor cX2_hasAncestor 2 (some .boolean), .fieldLink RX2 18 "VersionMerge$Version" "ancestors" "[Z", .methodLink RX3 110 yX3_versionAt, .instanceMethod yX3_versionAt, .selects RX3 yX3_versionAt yX3_versionAt, .initialized RX3, .code yX3_versionAt cX3_versionAt 2 (some (.object "VersionMerge$Version")), .fieldLink RX3 146 "VersionMerge" "versionCount" "I", .fieldLink RX3 11 "VersionMerge" "versionRow" "[LVersionMerge$Version;"] ++ wsX20 ++ wsX30)
def wsX3_base_r1 : List Cond := [Cond.methodLink RX3 42 yX3_branchAt, Cond.instanceMethod yX3_branchAt, Cond.selects RX3 yX3_branchAt yX3_branchAt, Cond.initialized RX3, Cond.code yX3_branchAt cX3_branchAt 2 (some (.object "VersionMerge$Branch")), Cond.fieldLink RX3 46 "VersionMerge" "branchCount" "I", Cond.fieldLink RX3 17 "VersionMerge" "branchRow" "[LVersionMerge$Branch;", Cond.methodLink RX3 89 yX3_greatestCommon, Cond.instanceMethod yX3_greatestCommon, Cond.selects RX3 yX3_greatestCommon yX3_greatestCommon, Cond.code yX3_greatestCommon cX3_greatestCommon 4 (some (.object "VersionMerge$Version")), Cond.methodLink RX3 158 Lib.Math.min.name, Cond.static Lib.Math.min.name, Cond.initialized "java/lang/Math", Cond.code Lib.Math.min.name Lib.Math.min.code 2 (some .int), Cond.instanceMethod yX2_hasAncestor, Cond.initialized RX2, Cond.selects RX2 yX2_hasAncestor yX2_hasAncestor, Cond.code yX2_hasAncestor cX2_hasAncestor 2 (some .boolean), Cond.fieldLink RX2 18 "VersionMerge$Version" "ancestors" "[Z", Cond.methodLink RX3 110 yX3_versionAt, Cond.instanceMethod yX3_versionAt, Cond.selects RX3 yX3_versionAt yX3_versionAt, Cond.code yX3_versionAt cX3_versionAt 2 (some (.object "VersionMerge$Version"))]
def wsX3_base_r2 : List Cond := [Cond.fieldLink RX3 146 "VersionMerge" "versionCount" "I", Cond.fieldLink RX3 11 "VersionMerge" "versionRow" "[LVersionMerge$Version;"]
def wsX3_base : List Cond := .code yX3_base cX3_base 6 (some .int) :: ((wsX3_base_r1 ++ wsX3_base_r2) ++ wsX00 ++ wsX20 ++ wsX30)
def wsX3_isFull : List Cond := .code yX3_isFull cX3_isFull 1 (some .boolean) :: ([.fieldLink RX3 146 "VersionMerge" "versionCount" "I"] ++ wsX30)
def wsX3_join_r1 : List Cond := [Cond.fieldLink RX3 24 "VersionMerge" "nothing" "LVersionMerge$TripleSet;", Cond.fieldLink RX3 28 "VersionMerge" "merged" "LVersionMerge$TripleSet;", Cond.methodLink RX3 164 yX3_isFull, Cond.instanceMethod yX3_isFull, Cond.selects RX3 yX3_isFull yX3_isFull, Cond.initialized RX3, Cond.code yX3_isFull cX3_isFull 1 (some .boolean), Cond.fieldLink RX3 146 "VersionMerge" "versionCount" "I", Cond.methodLink RX3 89 yX3_greatestCommon, Cond.instanceMethod yX3_greatestCommon, Cond.selects RX3 yX3_greatestCommon yX3_greatestCommon, Cond.code yX3_greatestCommon cX3_greatestCommon 4 (some (.object "VersionMerge$Version")), Cond.methodLink RX3 158 Lib.Math.min.name, Cond.static Lib.Math.min.name, Cond.initialized "java/lang/Math", Cond.code Lib.Math.min.name Lib.Math.min.code 2 (some .int), Cond.instanceMethod yX2_hasAncestor, Cond.initialized RX2, Cond.selects RX2 yX2_hasAncestor yX2_hasAncestor, Cond.code yX2_hasAncestor cX2_hasAncestor 2 (some .boolean), Cond.fieldLink RX2 18 "VersionMerge$Version" "ancestors" "[Z", Cond.methodLink RX3 110 yX3_versionAt, Cond.instanceMethod yX3_versionAt, Cond.selects RX3 yX3_versionAt yX3_versionAt]
def wsX3_join_r2 : List Cond := [Cond.code yX3_versionAt cX3_versionAt 2 (some (.object "VersionMerge$Version")), Cond.fieldLink RX3 11 "VersionMerge" "versionRow" "[LVersionMerge$Version;", Cond.instanceMethod yX1_becomeMerged, Cond.initialized RX1, Cond.selects RX1 yX1_becomeMerged yX1_becomeMerged, Cond.code yX1_becomeMerged cX1_becomeMerged 7 none, Cond.fieldLink RX1 9 "VersionMerge$TripleSet" "words" "[J", Cond.constantLong RX1 19 (-1), Cond.instanceMethod yX1_crowdedKeys, Cond.selects RX1 yX1_crowdedKeys yX1_crowdedKeys, Cond.code yX1_crowdedKeys cX1_crowdedKeys 3 (some .int), Cond.methodLink RX1 58 yX1_isCrowded, Cond.instanceMethod yX1_isCrowded, Cond.selects RX1 yX1_isCrowded yX1_isCrowded, Cond.code yX1_isCrowded cX1_isCrowded 4 (some .boolean), Cond.methodLink RX1 27 yX1_has, Cond.instanceMethod yX1_has, Cond.selects RX1 yX1_has yX1_has, Cond.code yX1_has cX1_has 2 (some .boolean), Cond.static yX3_isTriple, Cond.code yX3_isTriple cX3_isTriple 1 (some .boolean), Cond.methodLink RX3 72 yX3_advance, Cond.instanceMethod yX3_advance, Cond.selects RX3 yX3_advance yX3_advance]
def wsX3_join_r3 : List Cond := [Cond.code yX3_advance cX3_advance 5 (some .int), Cond.methodLink RX3 34 yX3_addVersion, Cond.instanceMethod yX3_addVersion, Cond.selects RX3 yX3_addVersion yX3_addVersion, Cond.code yX3_addVersion cX3_addVersion 5 (some (.object "VersionMerge$Version")), Cond.classLink RX3 9 RX2, Cond.instantiable RX2 5, Cond.instanceMethod yX2_init, Cond.code yX2_init cX2_init 5 none, Cond.methodLink RX2 3 objectInit, Cond.instanceMethod objectInit, Cond.code objectInit ⟨#[0xb1]⟩ 1 none, Cond.classLink RX2 9 RX1, Cond.instantiable RX1 1, Cond.fieldLink RX2 12 "VersionMerge$Version" "triples" "LVersionMerge$TripleSet;", Cond.arrayClass .boolean, Cond.fieldLink RX2 22 "VersionMerge$Version" "number" "I", Cond.fieldLink RX2 26 "VersionMerge$Version" "first" "LVersionMerge$Version;", Cond.fieldLink RX2 30 "VersionMerge$Version" "second" "LVersionMerge$Version;", Cond.instanceMethod yX1_init, Cond.code yX1_init cX1_init 1 none, Cond.methodLink RX1 3 objectInit, Cond.arrayClass .long, Cond.instanceMethod yX1_becomeCopy]
def wsX3_join_r4 : List Cond := [Cond.selects RX1 yX1_becomeCopy yX1_becomeCopy, Cond.code yX1_becomeCopy cX1_becomeCopy 2 none, Cond.methodLink RX1 21 arraycopyName, Cond.native arraycopyName, Cond.static arraycopyName, Cond.initialized "java/lang/System", Cond.methodLink RX2 37 yX2_takeAncestors, Cond.instanceMethod yX2_takeAncestors, Cond.selects RX2 yX2_takeAncestors yX2_takeAncestors, Cond.code yX2_takeAncestors cX2_takeAncestors 3 none]
def wsX3_join : List Cond := .code yX3_join cX3_join 6 (some .int) :: ((wsX3_join_r1 ++ (wsX3_join_r2 ++ (wsX3_join_r3 ++ wsX3_join_r4))) ++ wsX00 ++ wsX30 ++ wsX20 ++ wsX10)
def wsX3_merge_r1 : List Cond := [Cond.fieldLink RX3 28 "VersionMerge" "merged" "LVersionMerge$TripleSet;", Cond.fieldLink RX3 24 "VersionMerge" "nothing" "LVersionMerge$TripleSet;", Cond.methodLink RX3 42 yX3_branchAt, Cond.instanceMethod yX3_branchAt, Cond.selects RX3 yX3_branchAt yX3_branchAt, Cond.initialized RX3, Cond.code yX3_branchAt cX3_branchAt 2 (some (.object "VersionMerge$Branch")), Cond.fieldLink RX3 46 "VersionMerge" "branchCount" "I", Cond.fieldLink RX3 17 "VersionMerge" "branchRow" "[LVersionMerge$Branch;", Cond.instanceMethod yX2_hasAncestor, Cond.initialized RX2, Cond.selects RX2 yX2_hasAncestor yX2_hasAncestor, Cond.code yX2_hasAncestor cX2_hasAncestor 2 (some .boolean), Cond.fieldLink RX2 18 "VersionMerge$Version" "ancestors" "[Z", Cond.instanceMethod yX1_becomeCopy, Cond.initialized RX1, Cond.selects RX1 yX1_becomeCopy yX1_becomeCopy, Cond.code yX1_becomeCopy cX1_becomeCopy 2 none, Cond.fieldLink RX1 9 "VersionMerge$TripleSet" "words" "[J", Cond.methodLink RX1 21 arraycopyName, Cond.native arraycopyName, Cond.static arraycopyName, Cond.initialized "java/lang/System", Cond.methodLink RX3 96 yX3_join]
def wsX3_merge_r2 : List Cond := [Cond.instanceMethod yX3_join, Cond.selects RX3 yX3_join yX3_join, Cond.code yX3_join cX3_join 6 (some .int), Cond.methodLink RX3 164 yX3_isFull, Cond.instanceMethod yX3_isFull, Cond.selects RX3 yX3_isFull yX3_isFull, Cond.code yX3_isFull cX3_isFull 1 (some .boolean), Cond.fieldLink RX3 146 "VersionMerge" "versionCount" "I", Cond.methodLink RX3 89 yX3_greatestCommon, Cond.instanceMethod yX3_greatestCommon, Cond.selects RX3 yX3_greatestCommon yX3_greatestCommon, Cond.code yX3_greatestCommon cX3_greatestCommon 4 (some (.object "VersionMerge$Version")), Cond.methodLink RX3 158 Lib.Math.min.name, Cond.static Lib.Math.min.name, Cond.initialized "java/lang/Math", Cond.code Lib.Math.min.name Lib.Math.min.code 2 (some .int), Cond.methodLink RX3 110 yX3_versionAt, Cond.instanceMethod yX3_versionAt, Cond.selects RX3 yX3_versionAt yX3_versionAt, Cond.code yX3_versionAt cX3_versionAt 2 (some (.object "VersionMerge$Version")), Cond.fieldLink RX3 11 "VersionMerge" "versionRow" "[LVersionMerge$Version;", Cond.instanceMethod yX1_becomeMerged, Cond.selects RX1 yX1_becomeMerged yX1_becomeMerged, Cond.code yX1_becomeMerged cX1_becomeMerged 7 none]
def wsX3_merge_r3 : List Cond := [Cond.constantLong RX1 19 (-1), Cond.instanceMethod yX1_crowdedKeys, Cond.selects RX1 yX1_crowdedKeys yX1_crowdedKeys, Cond.code yX1_crowdedKeys cX1_crowdedKeys 3 (some .int), Cond.methodLink RX1 58 yX1_isCrowded, Cond.instanceMethod yX1_isCrowded, Cond.selects RX1 yX1_isCrowded yX1_isCrowded, Cond.code yX1_isCrowded cX1_isCrowded 4 (some .boolean), Cond.methodLink RX1 27 yX1_has, Cond.instanceMethod yX1_has, Cond.selects RX1 yX1_has yX1_has, Cond.code yX1_has cX1_has 2 (some .boolean), Cond.static yX3_isTriple, Cond.code yX3_isTriple cX3_isTriple 1 (some .boolean), Cond.methodLink RX3 72 yX3_advance, Cond.instanceMethod yX3_advance, Cond.selects RX3 yX3_advance yX3_advance, Cond.code yX3_advance cX3_advance 5 (some .int), Cond.methodLink RX3 34 yX3_addVersion, Cond.instanceMethod yX3_addVersion, Cond.selects RX3 yX3_addVersion yX3_addVersion, Cond.code yX3_addVersion cX3_addVersion 5 (some (.object "VersionMerge$Version")), Cond.classLink RX3 9 RX2, Cond.instantiable RX2 5]
def wsX3_merge_r4 : List Cond := [Cond.instanceMethod yX2_init, Cond.code yX2_init cX2_init 5 none, Cond.methodLink RX2 3 objectInit, Cond.instanceMethod objectInit, Cond.code objectInit ⟨#[0xb1]⟩ 1 none, Cond.classLink RX2 9 RX1, Cond.instantiable RX1 1, Cond.fieldLink RX2 12 "VersionMerge$Version" "triples" "LVersionMerge$TripleSet;", Cond.arrayClass .boolean, Cond.fieldLink RX2 22 "VersionMerge$Version" "number" "I", Cond.fieldLink RX2 26 "VersionMerge$Version" "first" "LVersionMerge$Version;", Cond.fieldLink RX2 30 "VersionMerge$Version" "second" "LVersionMerge$Version;", Cond.instanceMethod yX1_init, Cond.code yX1_init cX1_init 1 none, Cond.methodLink RX1 3 objectInit, Cond.arrayClass .long, Cond.methodLink RX2 37 yX2_takeAncestors, Cond.instanceMethod yX2_takeAncestors, Cond.selects RX2 yX2_takeAncestors yX2_takeAncestors, Cond.code yX2_takeAncestors cX2_takeAncestors 3 none]
def wsX3_merge : List Cond := .code yX3_merge cX3_merge 7 (some .int) :: ((wsX3_merge_r1 ++ (wsX3_merge_r2 ++ (wsX3_merge_r3 ++ wsX3_merge_r4))) ++ wsX00 ++ wsX20 ++ wsX30 ++ wsX10)
def wsX3_conflict : List Cond := .code yX3_conflict cX3_conflict 4 (some .int) :: ([.fieldLink RX3 28 "VersionMerge" "merged" "LVersionMerge$TripleSet;", .instanceMethod yX1_crowdedKey, .initialized RX1, .selects RX1 yX1_crowdedKey yX1_crowdedKey, .code yX1_crowdedKey cX1_crowdedKey 4 (some .int), .methodLink RX1 58 yX1_isCrowded, .instanceMethod yX1_isCrowded, .selects RX1 yX1_isCrowded yX1_isCrowded, .code yX1_isCrowded cX1_isCrowded 4 (some .boolean), .methodLink RX1 27 yX1_has, .instanceMethod yX1_has, .selects RX1 yX1_has yX1_has, .code yX1_has cX1_has 2 (some .boolean), .fieldLink RX1 9 "VersionMerge$TripleSet" "words" "[J", .static yX3_isTriple, .initialized RX3, .code yX3_isTriple cX3_isTriple 1 (some .boolean), .instanceMethod yX1_leastOfKey, .selects RX1 yX1_leastOfKey yX1_leastOfKey, .code yX1_leastOfKey cX1_leastOfKey 3 (some .int), .instanceMethod yX1_greatestOfKey, .selects RX1 yX1_greatestOfKey yX1_greatestOfKey, .code yX1_greatestOfKey cX1_greatestOfKey 3 (some .int)] ++ wsX30 ++ wsX10)
def wsX3_patch_r1 : List Cond := [Cond.fieldLink RX3 31 "VersionMerge" "draft" "LVersionMerge$TripleSet;", Cond.methodLink RX3 110 yX3_versionAt, Cond.instanceMethod yX3_versionAt, Cond.selects RX3 yX3_versionAt yX3_versionAt, Cond.initialized RX3, Cond.code yX3_versionAt cX3_versionAt 2 (some (.object "VersionMerge$Version")), Cond.fieldLink RX3 146 "VersionMerge" "versionCount" "I", Cond.fieldLink RX3 11 "VersionMerge" "versionRow" "[LVersionMerge$Version;", Cond.instanceMethod yX1_becomeDifference, Cond.initialized RX1, Cond.selects RX1 yX1_becomeDifference yX1_becomeDifference, Cond.code yX1_becomeDifference cX1_becomeDifference 4 none, Cond.fieldLink RX1 9 "VersionMerge$TripleSet" "words" "[J", Cond.instanceMethod yX1_tripleAt, Cond.selects RX1 yX1_tripleAt yX1_tripleAt, Cond.code yX1_tripleAt cX1_tripleAt 5 (some .int), Cond.methodLink RX1 48 yJ13_bitCount_95d88, Cond.static yJ13_bitCount_95d88, Cond.initialized RJ13, Cond.code yJ13_bitCount_95d88 cJ13_bitCount_95d88 2 (some .int), Cond.constantLong RJ13 314 (6148914691236517205), Cond.constantLong RJ13 316 (3689348814741910323), Cond.constantLong RJ13 318 (1085102592571150095), Cond.methodLink RX1 54 yX1_tripleInWord]
def wsX3_patch_r2 : List Cond := [Cond.instanceMethod yX1_tripleInWord, Cond.selects RX1 yX1_tripleInWord yX1_tripleInWord, Cond.code yX1_tripleInWord cX1_tripleInWord 5 (some .int), Cond.methodLink RX1 27 yX1_has, Cond.instanceMethod yX1_has, Cond.selects RX1 yX1_has yX1_has, Cond.code yX1_has cX1_has 2 (some .boolean), Cond.static yX3_isTriple, Cond.code yX3_isTriple cX3_isTriple 1 (some .boolean)]
def wsX3_patch : List Cond := .code yX3_patch cX3_patch 7 (some .int) :: ((wsX3_patch_r1 ++ wsX3_patch_r2) ++ wsX30 ++ wsX20 ++ wsX10)
def wsX3_turnedRound : List Cond := .code yX3_turnedRound cX3_turnedRound 1 (some .int) :: ([])
def wsX3_changedBy : List Cond := .code yX3_changedBy cX3_changedBy 2 (some (.object "VersionMerge$Version")) :: ([.methodLink RX3 124 yX3_turnedRound, .static yX3_turnedRound, .initialized RX3, .code yX3_turnedRound cX3_turnedRound 1 (some .int), .methodLink RX3 110 yX3_versionAt, .instanceMethod yX3_versionAt, .selects RX3 yX3_versionAt yX3_versionAt, .code yX3_versionAt cX3_versionAt 2 (some (.object "VersionMerge$Version")), .fieldLink RX3 146 "VersionMerge" "versionCount" "I", .fieldLink RX3 11 "VersionMerge" "versionRow" "[LVersionMerge$Version;"] ++ wsX30)
def wsX3_inverse : List Cond := .code yX3_inverse cX3_inverse 2 (some .int) :: ([.methodLink RX3 121 yX3_changedBy, .instanceMethod yX3_changedBy, .selects RX3 yX3_changedBy yX3_changedBy, .initialized RX3, .code yX3_changedBy cX3_changedBy 2 (some (.object "VersionMerge$Version")), .methodLink RX3 124 yX3_turnedRound, .static yX3_turnedRound, .code yX3_turnedRound cX3_turnedRound 1 (some .int), .methodLink RX3 110 yX3_versionAt, .instanceMethod yX3_versionAt, .selects RX3 yX3_versionAt yX3_versionAt, .code yX3_versionAt cX3_versionAt 2 (some (.object "VersionMerge$Version")), .fieldLink RX3 146 "VersionMerge" "versionCount" "I", .fieldLink RX3 11 "VersionMerge" "versionRow" "[LVersionMerge$Version;"] ++ wsX30)
def wsX3_setBefore : List Cond := .code yX3_setBefore cX3_setBefore 2 (some (.object "VersionMerge$TripleSet")) :: ([.fieldLink RX3 24 "VersionMerge" "nothing" "LVersionMerge$TripleSet;"] ++ wsX20 ++ wsX30)
def wsX3_lay_r1 : List Cond := [Cond.fieldLink RX3 31 "VersionMerge" "draft" "LVersionMerge$TripleSet;", Cond.instanceMethod yX1_hasAllRemoved, Cond.initialized RX1, Cond.selects RX1 yX1_hasAllRemoved yX1_hasAllRemoved, Cond.code yX1_hasAllRemoved cX1_hasAllRemoved 6 (some .boolean), Cond.fieldLink RX1 9 "VersionMerge$TripleSet" "words" "[J", Cond.constantLong RX1 19 (-1), Cond.methodLink RX3 164 yX3_isFull, Cond.instanceMethod yX3_isFull, Cond.selects RX3 yX3_isFull yX3_isFull, Cond.initialized RX3, Cond.code yX3_isFull cX3_isFull 1 (some .boolean), Cond.fieldLink RX3 146 "VersionMerge" "versionCount" "I", Cond.instanceMethod yX1_becomeLaid, Cond.selects RX1 yX1_becomeLaid yX1_becomeLaid, Cond.code yX1_becomeLaid cX1_becomeLaid 9 none, Cond.instanceMethod yX1_isSameAs, Cond.selects RX1 yX1_isSameAs yX1_isSameAs, Cond.code yX1_isSameAs cX1_isSameAs 3 (some .boolean), Cond.methodLink RX3 72 yX3_advance, Cond.instanceMethod yX3_advance, Cond.selects RX3 yX3_advance yX3_advance, Cond.code yX3_advance cX3_advance 5 (some .int), Cond.methodLink RX3 34 yX3_addVersion]
def wsX3_lay_r2 : List Cond := [Cond.instanceMethod yX3_addVersion, Cond.selects RX3 yX3_addVersion yX3_addVersion, Cond.code yX3_addVersion cX3_addVersion 5 (some (.object "VersionMerge$Version")), Cond.classLink RX3 9 RX2, Cond.instantiable RX2 5, Cond.initialized RX2, Cond.fieldLink RX3 11 "VersionMerge" "versionRow" "[LVersionMerge$Version;", Cond.instanceMethod yX2_init, Cond.code yX2_init cX2_init 5 none, Cond.methodLink RX2 3 objectInit, Cond.instanceMethod objectInit, Cond.code objectInit ⟨#[0xb1]⟩ 1 none, Cond.classLink RX2 9 RX1, Cond.instantiable RX1 1, Cond.fieldLink RX2 12 "VersionMerge$Version" "triples" "LVersionMerge$TripleSet;", Cond.arrayClass .boolean, Cond.fieldLink RX2 18 "VersionMerge$Version" "ancestors" "[Z", Cond.fieldLink RX2 22 "VersionMerge$Version" "number" "I", Cond.fieldLink RX2 26 "VersionMerge$Version" "first" "LVersionMerge$Version;", Cond.fieldLink RX2 30 "VersionMerge$Version" "second" "LVersionMerge$Version;", Cond.instanceMethod yX1_init, Cond.code yX1_init cX1_init 1 none, Cond.methodLink RX1 3 objectInit, Cond.arrayClass .long]
def wsX3_lay_r3 : List Cond := [Cond.instanceMethod yX1_becomeCopy, Cond.selects RX1 yX1_becomeCopy yX1_becomeCopy, Cond.code yX1_becomeCopy cX1_becomeCopy 2 none, Cond.methodLink RX1 21 arraycopyName, Cond.native arraycopyName, Cond.static arraycopyName, Cond.initialized "java/lang/System", Cond.methodLink RX2 37 yX2_takeAncestors, Cond.instanceMethod yX2_takeAncestors, Cond.selects RX2 yX2_takeAncestors yX2_takeAncestors, Cond.code yX2_takeAncestors cX2_takeAncestors 3 none]
def wsX3_lay : List Cond := .code yX3_lay cX3_lay 5 (some .int) :: ((wsX3_lay_r1 ++ (wsX3_lay_r2 ++ wsX3_lay_r3)) ++ wsX00 ++ wsX20 ++ wsX30 ++ wsX10)
def wsX3_apply_r1 : List Cond := [Cond.methodLink RX3 42 yX3_branchAt, Cond.instanceMethod yX3_branchAt, Cond.selects RX3 yX3_branchAt yX3_branchAt, Cond.initialized RX3, Cond.code yX3_branchAt cX3_branchAt 2 (some (.object "VersionMerge$Branch")), Cond.fieldLink RX3 46 "VersionMerge" "branchCount" "I", Cond.fieldLink RX3 17 "VersionMerge" "branchRow" "[LVersionMerge$Branch;", Cond.methodLink RX3 121 yX3_changedBy, Cond.instanceMethod yX3_changedBy, Cond.selects RX3 yX3_changedBy yX3_changedBy, Cond.code yX3_changedBy cX3_changedBy 2 (some (.object "VersionMerge$Version")), Cond.methodLink RX3 124 yX3_turnedRound, Cond.static yX3_turnedRound, Cond.code yX3_turnedRound cX3_turnedRound 1 (some .int), Cond.methodLink RX3 110 yX3_versionAt, Cond.instanceMethod yX3_versionAt, Cond.selects RX3 yX3_versionAt yX3_versionAt, Cond.code yX3_versionAt cX3_versionAt 2 (some (.object "VersionMerge$Version")), Cond.fieldLink RX3 146 "VersionMerge" "versionCount" "I", Cond.fieldLink RX3 11 "VersionMerge" "versionRow" "[LVersionMerge$Version;", Cond.methodLink RX3 127 yX3_setBefore, Cond.instanceMethod yX3_setBefore, Cond.selects RX3 yX3_setBefore yX3_setBefore, Cond.code yX3_setBefore cX3_setBefore 2 (some (.object "VersionMerge$TripleSet"))]
def wsX3_apply_r2 : List Cond := [Cond.fieldLink RX3 24 "VersionMerge" "nothing" "LVersionMerge$TripleSet;", Cond.methodLink RX3 131 yX3_lay, Cond.instanceMethod yX3_lay, Cond.selects RX3 yX3_lay yX3_lay, Cond.code yX3_lay cX3_lay 5 (some .int), Cond.fieldLink RX3 31 "VersionMerge" "draft" "LVersionMerge$TripleSet;", Cond.instanceMethod yX1_hasAllRemoved, Cond.initialized RX1, Cond.selects RX1 yX1_hasAllRemoved yX1_hasAllRemoved, Cond.code yX1_hasAllRemoved cX1_hasAllRemoved 6 (some .boolean), Cond.fieldLink RX1 9 "VersionMerge$TripleSet" "words" "[J", Cond.constantLong RX1 19 (-1), Cond.methodLink RX3 164 yX3_isFull, Cond.instanceMethod yX3_isFull, Cond.selects RX3 yX3_isFull yX3_isFull, Cond.code yX3_isFull cX3_isFull 1 (some .boolean), Cond.instanceMethod yX1_becomeLaid, Cond.selects RX1 yX1_becomeLaid yX1_becomeLaid, Cond.code yX1_becomeLaid cX1_becomeLaid 9 none, Cond.instanceMethod yX1_isSameAs, Cond.selects RX1 yX1_isSameAs yX1_isSameAs, Cond.code yX1_isSameAs cX1_isSameAs 3 (some .boolean), Cond.methodLink RX3 72 yX3_advance, Cond.instanceMethod yX3_advance]
def wsX3_apply_r3 : List Cond := [Cond.selects RX3 yX3_advance yX3_advance, Cond.code yX3_advance cX3_advance 5 (some .int), Cond.methodLink RX3 34 yX3_addVersion, Cond.instanceMethod yX3_addVersion, Cond.selects RX3 yX3_addVersion yX3_addVersion, Cond.code yX3_addVersion cX3_addVersion 5 (some (.object "VersionMerge$Version")), Cond.classLink RX3 9 RX2, Cond.instantiable RX2 5, Cond.initialized RX2, Cond.instanceMethod yX2_init, Cond.code yX2_init cX2_init 5 none, Cond.methodLink RX2 3 objectInit, Cond.instanceMethod objectInit, Cond.code objectInit ⟨#[0xb1]⟩ 1 none, Cond.classLink RX2 9 RX1, Cond.instantiable RX1 1, Cond.fieldLink RX2 12 "VersionMerge$Version" "triples" "LVersionMerge$TripleSet;", Cond.arrayClass .boolean, Cond.fieldLink RX2 18 "VersionMerge$Version" "ancestors" "[Z", Cond.fieldLink RX2 22 "VersionMerge$Version" "number" "I", Cond.fieldLink RX2 26 "VersionMerge$Version" "first" "LVersionMerge$Version;", Cond.fieldLink RX2 30 "VersionMerge$Version" "second" "LVersionMerge$Version;", Cond.instanceMethod yX1_init, Cond.code yX1_init cX1_init 1 none]
def wsX3_apply_r4 : List Cond := [Cond.methodLink RX1 3 objectInit, Cond.arrayClass .long, Cond.instanceMethod yX1_becomeCopy, Cond.selects RX1 yX1_becomeCopy yX1_becomeCopy, Cond.code yX1_becomeCopy cX1_becomeCopy 2 none, Cond.methodLink RX1 21 arraycopyName, Cond.native arraycopyName, Cond.static arraycopyName, Cond.initialized "java/lang/System", Cond.methodLink RX2 37 yX2_takeAncestors, Cond.instanceMethod yX2_takeAncestors, Cond.selects RX2 yX2_takeAncestors yX2_takeAncestors, Cond.code yX2_takeAncestors cX2_takeAncestors 3 none]
def wsX3_apply : List Cond := .code yX3_apply cX3_apply 5 (some .int) :: ((wsX3_apply_r1 ++ (wsX3_apply_r2 ++ (wsX3_apply_r3 ++ wsX3_apply_r4))) ++ wsX20 ++ wsX30 ++ wsX00 ++ wsX10)
def wsX3_revert_r1 : List Cond := [Cond.methodLink RX3 42 yX3_branchAt, Cond.instanceMethod yX3_branchAt, Cond.selects RX3 yX3_branchAt yX3_branchAt, Cond.initialized RX3, Cond.code yX3_branchAt cX3_branchAt 2 (some (.object "VersionMerge$Branch")), Cond.fieldLink RX3 46 "VersionMerge" "branchCount" "I", Cond.fieldLink RX3 17 "VersionMerge" "branchRow" "[LVersionMerge$Branch;", Cond.methodLink RX3 110 yX3_versionAt, Cond.instanceMethod yX3_versionAt, Cond.selects RX3 yX3_versionAt yX3_versionAt, Cond.code yX3_versionAt cX3_versionAt 2 (some (.object "VersionMerge$Version")), Cond.fieldLink RX3 146 "VersionMerge" "versionCount" "I", Cond.fieldLink RX3 11 "VersionMerge" "versionRow" "[LVersionMerge$Version;", Cond.instanceMethod yX2_hasAncestor, Cond.initialized RX2, Cond.selects RX2 yX2_hasAncestor yX2_hasAncestor, Cond.code yX2_hasAncestor cX2_hasAncestor 2 (some .boolean), Cond.fieldLink RX2 18 "VersionMerge$Version" "ancestors" "[Z", Cond.methodLink RX3 127 yX3_setBefore, Cond.instanceMethod yX3_setBefore, Cond.selects RX3 yX3_setBefore yX3_setBefore, Cond.code yX3_setBefore cX3_setBefore 2 (some (.object "VersionMerge$TripleSet")), Cond.fieldLink RX3 24 "VersionMerge" "nothing" "LVersionMerge$TripleSet;", Cond.methodLink RX3 131 yX3_lay]
def wsX3_revert_r2 : List Cond := [Cond.instanceMethod yX3_lay, Cond.selects RX3 yX3_lay yX3_lay, Cond.code yX3_lay cX3_lay 5 (some .int), Cond.fieldLink RX3 31 "VersionMerge" "draft" "LVersionMerge$TripleSet;", Cond.instanceMethod yX1_hasAllRemoved, Cond.initialized RX1, Cond.selects RX1 yX1_hasAllRemoved yX1_hasAllRemoved, Cond.code yX1_hasAllRemoved cX1_hasAllRemoved 6 (some .boolean), Cond.fieldLink RX1 9 "VersionMerge$TripleSet" "words" "[J", Cond.constantLong RX1 19 (-1), Cond.methodLink RX3 164 yX3_isFull, Cond.instanceMethod yX3_isFull, Cond.selects RX3 yX3_isFull yX3_isFull, Cond.code yX3_isFull cX3_isFull 1 (some .boolean), Cond.instanceMethod yX1_becomeLaid, Cond.selects RX1 yX1_becomeLaid yX1_becomeLaid, Cond.code yX1_becomeLaid cX1_becomeLaid 9 none, Cond.instanceMethod yX1_isSameAs, Cond.selects RX1 yX1_isSameAs yX1_isSameAs, Cond.code yX1_isSameAs cX1_isSameAs 3 (some .boolean), Cond.methodLink RX3 72 yX3_advance, Cond.instanceMethod yX3_advance, Cond.selects RX3 yX3_advance yX3_advance, Cond.code yX3_advance cX3_advance 5 (some .int)]
def wsX3_revert_r3 : List Cond := [Cond.methodLink RX3 34 yX3_addVersion, Cond.instanceMethod yX3_addVersion, Cond.selects RX3 yX3_addVersion yX3_addVersion, Cond.code yX3_addVersion cX3_addVersion 5 (some (.object "VersionMerge$Version")), Cond.classLink RX3 9 RX2, Cond.instantiable RX2 5, Cond.instanceMethod yX2_init, Cond.code yX2_init cX2_init 5 none, Cond.methodLink RX2 3 objectInit, Cond.instanceMethod objectInit, Cond.code objectInit ⟨#[0xb1]⟩ 1 none, Cond.classLink RX2 9 RX1, Cond.instantiable RX1 1, Cond.fieldLink RX2 12 "VersionMerge$Version" "triples" "LVersionMerge$TripleSet;", Cond.arrayClass .boolean, Cond.fieldLink RX2 22 "VersionMerge$Version" "number" "I", Cond.fieldLink RX2 26 "VersionMerge$Version" "first" "LVersionMerge$Version;", Cond.fieldLink RX2 30 "VersionMerge$Version" "second" "LVersionMerge$Version;", Cond.instanceMethod yX1_init, Cond.code yX1_init cX1_init 1 none, Cond.methodLink RX1 3 objectInit, Cond.arrayClass .long, Cond.instanceMethod yX1_becomeCopy, Cond.selects RX1 yX1_becomeCopy yX1_becomeCopy]
def wsX3_revert_r4 : List Cond := [Cond.code yX1_becomeCopy cX1_becomeCopy 2 none, Cond.methodLink RX1 21 arraycopyName, Cond.native arraycopyName, Cond.static arraycopyName, Cond.initialized "java/lang/System", Cond.methodLink RX2 37 yX2_takeAncestors, Cond.instanceMethod yX2_takeAncestors, Cond.selects RX2 yX2_takeAncestors yX2_takeAncestors, Cond.code yX2_takeAncestors cX2_takeAncestors 3 none]
def wsX3_revert : List Cond := .code yX3_revert cX3_revert 5 (some .int) :: ((wsX3_revert_r1 ++ (wsX3_revert_r2 ++ (wsX3_revert_r3 ++ wsX3_revert_r4))) ++ wsX00 ++ wsX20 ++ wsX30 ++ wsX10)
def wsX3_changes : List Cond := .code yX3_changes cX3_changes 3 (some .boolean) :: ([.instanceMethod yX1_has, .initialized RX1, .selects RX1 yX1_has yX1_has, .code yX1_has cX1_has 2 (some .boolean), .fieldLink RX1 9 "VersionMerge$TripleSet" "words" "[J", .static yX3_isTriple, .initialized RX3, .code yX3_isTriple cX3_isTriple 1 (some .boolean), .methodLink RX3 127 yX3_setBefore, .instanceMethod yX3_setBefore, .selects RX3 yX3_setBefore yX3_setBefore, .code yX3_setBefore cX3_setBefore 2 (some (.object "VersionMerge$TripleSet")), .fieldLink RX3 24 "VersionMerge" "nothing" "LVersionMerge$TripleSet;"] ++ wsX20 ++ wsX10 ++ wsX30)
def wsX3_history : List Cond := .code yX3_history cX3_history 6 (some .int) :: ([.methodLink RX3 54 yX3_isTriple, .static yX3_isTriple, .initialized RX3, .code yX3_isTriple cX3_isTriple 1 (some .boolean), .methodLink RX3 110 yX3_versionAt, .instanceMethod yX3_versionAt, .selects RX3 yX3_versionAt yX3_versionAt, .code yX3_versionAt cX3_versionAt 2 (some (.object "VersionMerge$Version")), .fieldLink RX3 146 "VersionMerge" "versionCount" "I", .fieldLink RX3 11 "VersionMerge" "versionRow" "[LVersionMerge$Version;", .methodLink RX3 138 yX3_changes, .instanceMethod yX3_changes, .selects RX3 yX3_changes yX3_changes, .code yX3_changes cX3_changes 3 (some .boolean), .instanceMethod yX1_has, .initialized RX1, .selects RX1 yX1_has yX1_has, .code yX1_has cX1_has 2 (some .boolean), .fieldLink RX1 9 "VersionMerge$TripleSet" "words" "[J", .methodLink RX3 127 yX3_setBefore, .instanceMethod yX3_setBefore, .selects RX3 yX3_setBefore yX3_setBefore, .code yX3_setBefore cX3_setBefore 2 (some (.object "VersionMerge$TripleSet")), .fieldLink RX3 24 "VersionMerge" "nothing" "LVersionMerge$TripleSet;"] ++ wsX20 ++ wsX30 ++ wsX10)
def wsX3_report : List Cond := .code yX3_report cX3_report 3 (some .int) :: ([.methodLink RX3 42 yX3_branchAt, .instanceMethod yX3_branchAt, .selects RX3 yX3_branchAt yX3_branchAt, .initialized RX3, .code yX3_branchAt cX3_branchAt 2 (some (.object "VersionMerge$Branch")), .fieldLink RX3 46 "VersionMerge" "branchCount" "I", .fieldLink RX3 17 "VersionMerge" "branchRow" "[LVersionMerge$Branch;", .instanceMethod yX1_crowdedKeys, .initialized RX1, .selects RX1 yX1_crowdedKeys yX1_crowdedKeys, .code yX1_crowdedKeys cX1_crowdedKeys 3 (some .int), .methodLink RX1 58 yX1_isCrowded, .instanceMethod yX1_isCrowded, .selects RX1 yX1_isCrowded yX1_isCrowded, .code yX1_isCrowded cX1_isCrowded 4 (some .boolean), .methodLink RX1 27 yX1_has, .instanceMethod yX1_has, .selects RX1 yX1_has yX1_has, .code yX1_has cX1_has 2 (some .boolean), .fieldLink RX1 9 "VersionMerge$TripleSet" "words" "[J", .static yX3_isTriple, .code yX3_isTriple cX3_isTriple 1 (some .boolean)] ++ wsX00 ++ wsX20 ++ wsX30 ++ wsX10)
def wsX3_list_r1 : List Cond := [Cond.methodLink RX3 42 yX3_branchAt, Cond.instanceMethod yX3_branchAt, Cond.selects RX3 yX3_branchAt yX3_branchAt, Cond.initialized RX3, Cond.code yX3_branchAt cX3_branchAt 2 (some (.object "VersionMerge$Branch")), Cond.fieldLink RX3 46 "VersionMerge" "branchCount" "I", Cond.fieldLink RX3 17 "VersionMerge" "branchRow" "[LVersionMerge$Branch;", Cond.instanceMethod yX1_tripleAt, Cond.initialized RX1, Cond.selects RX1 yX1_tripleAt yX1_tripleAt, Cond.code yX1_tripleAt cX1_tripleAt 5 (some .int), Cond.fieldLink RX1 9 "VersionMerge$TripleSet" "words" "[J", Cond.methodLink RX1 48 yJ13_bitCount_95d88, Cond.static yJ13_bitCount_95d88, Cond.initialized RJ13, Cond.code yJ13_bitCount_95d88 cJ13_bitCount_95d88 2 (some .int), Cond.constantLong RJ13 314 (6148914691236517205), Cond.constantLong RJ13 316 (3689348814741910323), Cond.constantLong RJ13 318 (1085102592571150095), Cond.methodLink RX1 54 yX1_tripleInWord, Cond.instanceMethod yX1_tripleInWord, Cond.selects RX1 yX1_tripleInWord yX1_tripleInWord, Cond.code yX1_tripleInWord cX1_tripleInWord 5 (some .int), Cond.methodLink RX1 27 yX1_has]
def wsX3_list_r2 : List Cond := [Cond.instanceMethod yX1_has, Cond.selects RX1 yX1_has yX1_has, Cond.code yX1_has cX1_has 2 (some .boolean), Cond.static yX3_isTriple, Cond.code yX3_isTriple cX3_isTriple 1 (some .boolean)]
def wsX3_list : List Cond := .code yX3_list cX3_list 5 (some .int) :: ((wsX3_list_r1 ++ wsX3_list_r2) ++ wsX00 ++ wsX20 ++ wsX30 ++ wsX10)
def wsX3_versions : List Cond := .code yX3_versions cX3_versions 1 (some .int) :: ([.fieldLink RX3 146 "VersionMerge" "versionCount" "I"] ++ wsX30)
def wsX3_branches : List Cond := .code yX3_branches cX3_branches 1 (some .int) :: ([.fieldLink RX3 46 "VersionMerge" "branchCount" "I"] ++ wsX30)
def wsX4_init : List Cond := .code yX4_init cX4_init 1 none :: ([.methodLink RX4 1 objectInit, .instanceMethod objectInit, .code objectInit ⟨#[0xb1]⟩ 1 none, .constant RX4 7 (1638400), .arrayClass .byte, .fieldLink RX4 8 "VersionMergeModel" "sets" "[B", .arrayClass .int, .fieldLink RX4 14 "VersionMergeModel" "firsts" "[I", .fieldLink RX4 18 "VersionMergeModel" "seconds" "[I", .fieldLink RX4 21 "VersionMergeModel" "heads" "[I", .arrayClass .boolean, .fieldLink RX4 24 "VersionMergeModel" "ones" "[Z", .fieldLink RX4 28 "VersionMergeModel" "twos" "[Z", .fieldLink RX4 31 "VersionMergeModel" "hand" "[B", .fieldLink RX4 34 "VersionMergeModel" "keys" "[I", .fieldLink RX4 37 "VersionMergeModel" "least" "[I", .fieldLink RX4 40 "VersionMergeModel" "greatest" "[I", .fieldLink RX4 43 "VersionMergeModel" "versions" "I", .fieldLink RX4 47 "VersionMergeModel" "branches" "I"] ++ wsX40)
def wsX4_isBranch : List Cond := .code yX4_isBranch cX4_isBranch 2 (some .boolean) :: ([.fieldLink RX4 47 "VersionMergeModel" "branches" "I"] ++ wsX40)
def wsX4_isVersion : List Cond := .code yX4_isVersion cX4_isVersion 2 (some .boolean) :: ([.fieldLink RX4 43 "VersionMergeModel" "versions" "I"] ++ wsX40)
def wsX4_isTriple : List Cond := .code yX4_isTriple cX4_isTriple 1 (some .boolean) :: ([])
def wsX4_has : List Cond := .code yX4_has cX4_has 3 (some .boolean) :: ([.fieldLink RX4 8 "VersionMergeModel" "sets" "[B"] ++ wsX40)
def wsX4_grow : List Cond := .code yX4_grow cX4_grow 4 (some .int) :: ([.fieldLink RX4 14 "VersionMergeModel" "firsts" "[I", .fieldLink RX4 43 "VersionMergeModel" "versions" "I", .fieldLink RX4 18 "VersionMergeModel" "seconds" "[I", .fieldLink RX4 8 "VersionMergeModel" "sets" "[B", .fieldLink RX4 31 "VersionMergeModel" "hand" "[B"] ++ wsX40)
def wsX4_take : List Cond := .code yX4_take cX4_take 3 none :: ([.fieldLink RX4 31 "VersionMergeModel" "hand" "[B", .methodLink RX4 50 yX4_has, .instanceMethod yX4_has, .selects RX4 yX4_has yX4_has, .initialized RX4, .code yX4_has cX4_has 3 (some .boolean), .fieldLink RX4 8 "VersionMergeModel" "sets" "[B"] ++ wsX40)
def wsX4_branch : List Cond := .code yX4_branch cX4_branch 2 (some .int) :: ([.fieldLink RX4 47 "VersionMergeModel" "branches" "I", .fieldLink RX4 43 "VersionMergeModel" "versions" "I", .fieldLink RX4 21 "VersionMergeModel" "heads" "[I", .methodLink RX4 54 yX4_isBranch, .instanceMethod yX4_isBranch, .selects RX4 yX4_isBranch yX4_isBranch, .initialized RX4, .code yX4_isBranch cX4_isBranch 2 (some .boolean), .methodLink RX4 58 yX4_take, .instanceMethod yX4_take, .selects RX4 yX4_take yX4_take, .code yX4_take cX4_take 3 none, .fieldLink RX4 31 "VersionMergeModel" "hand" "[B", .methodLink RX4 50 yX4_has, .instanceMethod yX4_has, .selects RX4 yX4_has yX4_has, .code yX4_has cX4_has 3 (some .boolean), .fieldLink RX4 8 "VersionMergeModel" "sets" "[B", .methodLink RX4 62 yX4_grow, .instanceMethod yX4_grow, .selects RX4 yX4_grow yX4_grow, .code yX4_grow cX4_grow 4 (some .int), .fieldLink RX4 14 "VersionMergeModel" "firsts" "[I", .fieldLink RX4 18 "VersionMergeModel" "seconds" "[I"] ++ wsX40)
def wsX4_head : List Cond := .code yX4_head cX4_head 2 (some .int) :: ([.fieldLink RX4 21 "VersionMergeModel" "heads" "[I", .methodLink RX4 54 yX4_isBranch, .instanceMethod yX4_isBranch, .selects RX4 yX4_isBranch yX4_isBranch, .initialized RX4, .code yX4_isBranch cX4_isBranch 2 (some .boolean), .fieldLink RX4 47 "VersionMergeModel" "branches" "I"] ++ wsX40)
def wsX4_step : List Cond := .code yX4_step cX4_step 2 (some .int) :: ([.fieldLink RX4 21 "VersionMergeModel" "heads" "[I", .methodLink RX4 62 yX4_grow, .instanceMethod yX4_grow, .selects RX4 yX4_grow yX4_grow, .initialized RX4, .code yX4_grow cX4_grow 4 (some .int), .fieldLink RX4 14 "VersionMergeModel" "firsts" "[I", .fieldLink RX4 43 "VersionMergeModel" "versions" "I", .fieldLink RX4 18 "VersionMergeModel" "seconds" "[I", .fieldLink RX4 8 "VersionMergeModel" "sets" "[B", .fieldLink RX4 31 "VersionMergeModel" "hand" "[B"] ++ wsX40)
def wsX4_put_r1 : List Cond := [Cond.fieldLink RX4 21 "VersionMergeModel" "heads" "[I", Cond.fieldLink RX4 43 "VersionMergeModel" "versions" "I", Cond.fieldLink RX4 31 "VersionMergeModel" "hand" "[B", Cond.methodLink RX4 54 yX4_isBranch, Cond.instanceMethod yX4_isBranch, Cond.selects RX4 yX4_isBranch yX4_isBranch, Cond.initialized RX4, Cond.code yX4_isBranch cX4_isBranch 2 (some .boolean), Cond.fieldLink RX4 47 "VersionMergeModel" "branches" "I", Cond.methodLink RX4 66 yX4_isTriple, Cond.static yX4_isTriple, Cond.code yX4_isTriple cX4_isTriple 1 (some .boolean), Cond.methodLink RX4 50 yX4_has, Cond.instanceMethod yX4_has, Cond.selects RX4 yX4_has yX4_has, Cond.code yX4_has cX4_has 3 (some .boolean), Cond.fieldLink RX4 8 "VersionMergeModel" "sets" "[B", Cond.methodLink RX4 58 yX4_take, Cond.instanceMethod yX4_take, Cond.selects RX4 yX4_take yX4_take, Cond.code yX4_take cX4_take 3 none, Cond.methodLink RX4 69 yX4_step, Cond.instanceMethod yX4_step, Cond.selects RX4 yX4_step yX4_step]
def wsX4_put_r2 : List Cond := [Cond.code yX4_step cX4_step 2 (some .int), Cond.methodLink RX4 62 yX4_grow, Cond.instanceMethod yX4_grow, Cond.selects RX4 yX4_grow yX4_grow, Cond.code yX4_grow cX4_grow 4 (some .int), Cond.fieldLink RX4 14 "VersionMergeModel" "firsts" "[I", Cond.fieldLink RX4 18 "VersionMergeModel" "seconds" "[I"]
def wsX4_put : List Cond := .code yX4_put cX4_put 4 (some .int) :: ((wsX4_put_r1 ++ wsX4_put_r2) ++ wsX40)
def wsX4_isBlank : List Cond := .code yX4_isBlank cX4_isBlank 1 (some .boolean) :: ([])
def wsX4_stands : List Cond := .code yX4_stands cX4_stands 5 (some .boolean) :: ([.methodLink RX4 50 yX4_has, .instanceMethod yX4_has, .selects RX4 yX4_has yX4_has, .initialized RX4, .code yX4_has cX4_has 3 (some .boolean), .fieldLink RX4 8 "VersionMergeModel" "sets" "[B"] ++ wsX40)
def wsX4_turned : List Cond := .code yX4_turned cX4_turned 3 (some .int) :: ([])
def wsX4_blank_r1 : List Cond := [Cond.fieldLink RX4 21 "VersionMergeModel" "heads" "[I", Cond.fieldLink RX4 43 "VersionMergeModel" "versions" "I", Cond.fieldLink RX4 31 "VersionMergeModel" "hand" "[B", Cond.methodLink RX4 54 yX4_isBranch, Cond.instanceMethod yX4_isBranch, Cond.selects RX4 yX4_isBranch yX4_isBranch, Cond.initialized RX4, Cond.code yX4_isBranch cX4_isBranch 2 (some .boolean), Cond.fieldLink RX4 47 "VersionMergeModel" "branches" "I", Cond.methodLink RX4 73 yX4_isBlank, Cond.static yX4_isBlank, Cond.code yX4_isBlank cX4_isBlank 1 (some .boolean), Cond.methodLink RX4 76 yX4_stands, Cond.instanceMethod yX4_stands, Cond.selects RX4 yX4_stands yX4_stands, Cond.code yX4_stands cX4_stands 5 (some .boolean), Cond.methodLink RX4 50 yX4_has, Cond.instanceMethod yX4_has, Cond.selects RX4 yX4_has yX4_has, Cond.code yX4_has cX4_has 3 (some .boolean), Cond.fieldLink RX4 8 "VersionMergeModel" "sets" "[B", Cond.methodLink RX4 58 yX4_take, Cond.instanceMethod yX4_take, Cond.selects RX4 yX4_take yX4_take]
def wsX4_blank_r2 : List Cond := [Cond.code yX4_take cX4_take 3 none, Cond.methodLink RX4 79 yX4_turned, Cond.static yX4_turned, Cond.code yX4_turned cX4_turned 3 (some .int), Cond.methodLink RX4 69 yX4_step, Cond.instanceMethod yX4_step, Cond.selects RX4 yX4_step yX4_step, Cond.code yX4_step cX4_step 2 (some .int), Cond.methodLink RX4 62 yX4_grow, Cond.instanceMethod yX4_grow, Cond.selects RX4 yX4_grow yX4_grow, Cond.code yX4_grow cX4_grow 4 (some .int), Cond.fieldLink RX4 14 "VersionMergeModel" "firsts" "[I", Cond.fieldLink RX4 18 "VersionMergeModel" "seconds" "[I"]
def wsX4_blank : List Cond := .code yX4_blank cX4_blank 5 (some .int) :: ((wsX4_blank_r1 ++ wsX4_blank_r2) ++ wsX40)
def wsX4_mark : List Cond := .code yX4_mark cX4_mark 4 none :: ([.fieldLink RX4 43 "VersionMergeModel" "versions" "I", .fieldLink RX4 14 "VersionMergeModel" "firsts" "[I", .fieldLink RX4 18 "VersionMergeModel" "seconds" "[I"] ++ wsX40)
def wsX4_common : List Cond := .code yX4_common cX4_common 4 (some .int) :: ([.fieldLink RX4 24 "VersionMergeModel" "ones" "[Z", .fieldLink RX4 28 "VersionMergeModel" "twos" "[Z", .fieldLink RX4 43 "VersionMergeModel" "versions" "I", .methodLink RX4 83 yX4_mark, .instanceMethod yX4_mark, .selects RX4 yX4_mark yX4_mark, .initialized RX4, .code yX4_mark cX4_mark 4 none, .fieldLink RX4 14 "VersionMergeModel" "firsts" "[I", .fieldLink RX4 18 "VersionMergeModel" "seconds" "[I"] ++ wsX40)
def wsX4_base : List Cond := .code yX4_base cX4_base 4 (some .int) :: ([.fieldLink RX4 21 "VersionMergeModel" "heads" "[I", .methodLink RX4 54 yX4_isBranch, .instanceMethod yX4_isBranch, .selects RX4 yX4_isBranch yX4_isBranch, .initialized RX4, .code yX4_isBranch cX4_isBranch 2 (some .boolean), .fieldLink RX4 47 "VersionMergeModel" "branches" "I", .methodLink RX4 87 yX4_common, .instanceMethod yX4_common, .selects RX4 yX4_common yX4_common, .code yX4_common cX4_common 4 (some .int), .fieldLink RX4 24 "VersionMergeModel" "ones" "[Z", .fieldLink RX4 28 "VersionMergeModel" "twos" "[Z", .fieldLink RX4 43 "VersionMergeModel" "versions" "I", .methodLink RX4 83 yX4_mark, .instanceMethod yX4_mark, .selects RX4 yX4_mark yX4_mark, .code yX4_mark cX4_mark 4 none, .fieldLink RX4 14 "VersionMergeModel" "firsts" "[I", .fieldLink RX4 18 "VersionMergeModel" "seconds" "[I"] ++ wsX40)
def wsX4_look : List Cond := .code yX4_look cX4_look 6 none :: ([.fieldLink RX4 90 "VersionMergeModel" "conflicts" "I", .fieldLink RX4 31 "VersionMergeModel" "hand" "[B", .fieldLink RX4 34 "VersionMergeModel" "keys" "[I", .fieldLink RX4 37 "VersionMergeModel" "least" "[I", .fieldLink RX4 40 "VersionMergeModel" "greatest" "[I"] ++ wsX40)
def wsX4_merge_r1 : List Cond := [Cond.fieldLink RX4 21 "VersionMergeModel" "heads" "[I", Cond.fieldLink RX4 90 "VersionMergeModel" "conflicts" "I", Cond.fieldLink RX4 43 "VersionMergeModel" "versions" "I", Cond.fieldLink RX4 31 "VersionMergeModel" "hand" "[B", Cond.methodLink RX4 54 yX4_isBranch, Cond.instanceMethod yX4_isBranch, Cond.selects RX4 yX4_isBranch yX4_isBranch, Cond.initialized RX4, Cond.code yX4_isBranch cX4_isBranch 2 (some .boolean), Cond.fieldLink RX4 47 "VersionMergeModel" "branches" "I", Cond.methodLink RX4 87 yX4_common, Cond.instanceMethod yX4_common, Cond.selects RX4 yX4_common yX4_common, Cond.code yX4_common cX4_common 4 (some .int), Cond.fieldLink RX4 24 "VersionMergeModel" "ones" "[Z", Cond.fieldLink RX4 28 "VersionMergeModel" "twos" "[Z", Cond.methodLink RX4 83 yX4_mark, Cond.instanceMethod yX4_mark, Cond.selects RX4 yX4_mark yX4_mark, Cond.code yX4_mark cX4_mark 4 none, Cond.fieldLink RX4 14 "VersionMergeModel" "firsts" "[I", Cond.fieldLink RX4 18 "VersionMergeModel" "seconds" "[I", Cond.methodLink RX4 50 yX4_has, Cond.instanceMethod yX4_has]
def wsX4_merge_r2 : List Cond := [Cond.selects RX4 yX4_has yX4_has, Cond.code yX4_has cX4_has 3 (some .boolean), Cond.fieldLink RX4 8 "VersionMergeModel" "sets" "[B", Cond.methodLink RX4 93 yX4_look, Cond.instanceMethod yX4_look, Cond.selects RX4 yX4_look yX4_look, Cond.code yX4_look cX4_look 6 none, Cond.fieldLink RX4 34 "VersionMergeModel" "keys" "[I", Cond.fieldLink RX4 37 "VersionMergeModel" "least" "[I", Cond.fieldLink RX4 40 "VersionMergeModel" "greatest" "[I", Cond.methodLink RX4 62 yX4_grow, Cond.instanceMethod yX4_grow, Cond.selects RX4 yX4_grow yX4_grow, Cond.code yX4_grow cX4_grow 4 (some .int)]
def wsX4_merge : List Cond := .code yX4_merge cX4_merge 9 (some .int) :: ((wsX4_merge_r1 ++ wsX4_merge_r2) ++ wsX40)
def wsX4_conflict : List Cond := .code yX4_conflict cX4_conflict 3 (some .int) :: ([.fieldLink RX4 90 "VersionMergeModel" "conflicts" "I", .fieldLink RX4 34 "VersionMergeModel" "keys" "[I", .fieldLink RX4 37 "VersionMergeModel" "least" "[I", .fieldLink RX4 40 "VersionMergeModel" "greatest" "[I"] ++ wsX40)
def wsX4_patch : List Cond := .code yX4_patch cX4_patch 6 (some .int) :: ([.methodLink RX4 96 yX4_isVersion, .instanceMethod yX4_isVersion, .selects RX4 yX4_isVersion yX4_isVersion, .initialized RX4, .code yX4_isVersion cX4_isVersion 2 (some .boolean), .fieldLink RX4 43 "VersionMergeModel" "versions" "I", .methodLink RX4 50 yX4_has, .instanceMethod yX4_has, .selects RX4 yX4_has yX4_has, .code yX4_has cX4_has 3 (some .boolean), .fieldLink RX4 8 "VersionMergeModel" "sets" "[B"] ++ wsX40)
def wsX4_isPatch : List Cond := .code yX4_isPatch cX4_isPatch 2 (some .boolean) :: ([.methodLink RX4 96 yX4_isVersion, .instanceMethod yX4_isVersion, .selects RX4 yX4_isVersion yX4_isVersion, .initialized RX4, .code yX4_isVersion cX4_isVersion 2 (some .boolean), .fieldLink RX4 43 "VersionMergeModel" "versions" "I"] ++ wsX40)
def wsX4_inverse : List Cond := .code yX4_inverse cX4_inverse 2 (some .int) :: ([.methodLink RX4 99 yX4_isPatch, .instanceMethod yX4_isPatch, .selects RX4 yX4_isPatch yX4_isPatch, .initialized RX4, .code yX4_isPatch cX4_isPatch 2 (some .boolean), .methodLink RX4 96 yX4_isVersion, .instanceMethod yX4_isVersion, .selects RX4 yX4_isVersion yX4_isVersion, .code yX4_isVersion cX4_isVersion 2 (some .boolean), .fieldLink RX4 43 "VersionMergeModel" "versions" "I"] ++ wsX40)
def wsX4_lay : List Cond := .code yX4_lay cX4_lay 12 (some .boolean) :: ([.fieldLink RX4 14 "VersionMergeModel" "firsts" "[I", .fieldLink RX4 31 "VersionMergeModel" "hand" "[B", .methodLink RX4 50 yX4_has, .instanceMethod yX4_has, .selects RX4 yX4_has yX4_has, .initialized RX4, .code yX4_has cX4_has 3 (some .boolean), .fieldLink RX4 8 "VersionMergeModel" "sets" "[B"] ++ wsX40)
def wsX4_laid : List Cond := .code yX4_laid cX4_laid 3 (some .int) :: ([.fieldLink RX4 21 "VersionMergeModel" "heads" "[I", .fieldLink RX4 43 "VersionMergeModel" "versions" "I", .methodLink RX4 102 yX4_lay, .instanceMethod yX4_lay, .selects RX4 yX4_lay yX4_lay, .initialized RX4, .code yX4_lay cX4_lay 12 (some .boolean), .fieldLink RX4 14 "VersionMergeModel" "firsts" "[I", .fieldLink RX4 31 "VersionMergeModel" "hand" "[B", .methodLink RX4 50 yX4_has, .instanceMethod yX4_has, .selects RX4 yX4_has yX4_has, .code yX4_has cX4_has 3 (some .boolean), .fieldLink RX4 8 "VersionMergeModel" "sets" "[B", .methodLink RX4 69 yX4_step, .instanceMethod yX4_step, .selects RX4 yX4_step yX4_step, .code yX4_step cX4_step 2 (some .int), .methodLink RX4 62 yX4_grow, .instanceMethod yX4_grow, .selects RX4 yX4_grow yX4_grow, .code yX4_grow cX4_grow 4 (some .int), .fieldLink RX4 18 "VersionMergeModel" "seconds" "[I"] ++ wsX40)
def wsX4_apply_r1 : List Cond := [Cond.methodLink RX4 54 yX4_isBranch, Cond.instanceMethod yX4_isBranch, Cond.selects RX4 yX4_isBranch yX4_isBranch, Cond.initialized RX4, Cond.code yX4_isBranch cX4_isBranch 2 (some .boolean), Cond.fieldLink RX4 47 "VersionMergeModel" "branches" "I", Cond.methodLink RX4 99 yX4_isPatch, Cond.instanceMethod yX4_isPatch, Cond.selects RX4 yX4_isPatch yX4_isPatch, Cond.code yX4_isPatch cX4_isPatch 2 (some .boolean), Cond.methodLink RX4 96 yX4_isVersion, Cond.instanceMethod yX4_isVersion, Cond.selects RX4 yX4_isVersion yX4_isVersion, Cond.code yX4_isVersion cX4_isVersion 2 (some .boolean), Cond.fieldLink RX4 43 "VersionMergeModel" "versions" "I", Cond.methodLink RX4 105 yX4_laid, Cond.instanceMethod yX4_laid, Cond.selects RX4 yX4_laid yX4_laid, Cond.code yX4_laid cX4_laid 3 (some .int), Cond.fieldLink RX4 21 "VersionMergeModel" "heads" "[I", Cond.methodLink RX4 102 yX4_lay, Cond.instanceMethod yX4_lay, Cond.selects RX4 yX4_lay yX4_lay, Cond.code yX4_lay cX4_lay 12 (some .boolean)]
def wsX4_apply_r2 : List Cond := [Cond.fieldLink RX4 14 "VersionMergeModel" "firsts" "[I", Cond.fieldLink RX4 31 "VersionMergeModel" "hand" "[B", Cond.methodLink RX4 50 yX4_has, Cond.instanceMethod yX4_has, Cond.selects RX4 yX4_has yX4_has, Cond.code yX4_has cX4_has 3 (some .boolean), Cond.fieldLink RX4 8 "VersionMergeModel" "sets" "[B", Cond.methodLink RX4 69 yX4_step, Cond.instanceMethod yX4_step, Cond.selects RX4 yX4_step yX4_step, Cond.code yX4_step cX4_step 2 (some .int), Cond.methodLink RX4 62 yX4_grow, Cond.instanceMethod yX4_grow, Cond.selects RX4 yX4_grow yX4_grow, Cond.code yX4_grow cX4_grow 4 (some .int), Cond.fieldLink RX4 18 "VersionMergeModel" "seconds" "[I"]
def wsX4_apply : List Cond := .code yX4_apply cX4_apply 3 (some .int) :: ((wsX4_apply_r1 ++ wsX4_apply_r2) ++ wsX40)
def wsX4_revert_r1 : List Cond := [Cond.fieldLink RX4 21 "VersionMergeModel" "heads" "[I", Cond.fieldLink RX4 24 "VersionMergeModel" "ones" "[Z", Cond.fieldLink RX4 18 "VersionMergeModel" "seconds" "[I", Cond.methodLink RX4 54 yX4_isBranch, Cond.instanceMethod yX4_isBranch, Cond.selects RX4 yX4_isBranch yX4_isBranch, Cond.initialized RX4, Cond.code yX4_isBranch cX4_isBranch 2 (some .boolean), Cond.fieldLink RX4 47 "VersionMergeModel" "branches" "I", Cond.methodLink RX4 96 yX4_isVersion, Cond.instanceMethod yX4_isVersion, Cond.selects RX4 yX4_isVersion yX4_isVersion, Cond.code yX4_isVersion cX4_isVersion 2 (some .boolean), Cond.fieldLink RX4 43 "VersionMergeModel" "versions" "I", Cond.methodLink RX4 83 yX4_mark, Cond.instanceMethod yX4_mark, Cond.selects RX4 yX4_mark yX4_mark, Cond.code yX4_mark cX4_mark 4 none, Cond.fieldLink RX4 14 "VersionMergeModel" "firsts" "[I", Cond.methodLink RX4 105 yX4_laid, Cond.instanceMethod yX4_laid, Cond.selects RX4 yX4_laid yX4_laid, Cond.code yX4_laid cX4_laid 3 (some .int), Cond.methodLink RX4 102 yX4_lay]
def wsX4_revert_r2 : List Cond := [Cond.instanceMethod yX4_lay, Cond.selects RX4 yX4_lay yX4_lay, Cond.code yX4_lay cX4_lay 12 (some .boolean), Cond.fieldLink RX4 31 "VersionMergeModel" "hand" "[B", Cond.methodLink RX4 50 yX4_has, Cond.instanceMethod yX4_has, Cond.selects RX4 yX4_has yX4_has, Cond.code yX4_has cX4_has 3 (some .boolean), Cond.fieldLink RX4 8 "VersionMergeModel" "sets" "[B", Cond.methodLink RX4 69 yX4_step, Cond.instanceMethod yX4_step, Cond.selects RX4 yX4_step yX4_step, Cond.code yX4_step cX4_step 2 (some .int), Cond.methodLink RX4 62 yX4_grow, Cond.instanceMethod yX4_grow, Cond.selects RX4 yX4_grow yX4_grow, Cond.code yX4_grow cX4_grow 4 (some .int)]
def wsX4_revert : List Cond := .code yX4_revert cX4_revert 3 (some .int) :: ((wsX4_revert_r1 ++ wsX4_revert_r2) ++ wsX40)
def wsX4_history : List Cond := .code yX4_history cX4_history 5 (some .int) :: ([.fieldLink RX4 43 "VersionMergeModel" "versions" "I", .fieldLink RX4 18 "VersionMergeModel" "seconds" "[I", .fieldLink RX4 14 "VersionMergeModel" "firsts" "[I", .methodLink RX4 66 yX4_isTriple, .static yX4_isTriple, .initialized RX4, .code yX4_isTriple cX4_isTriple 1 (some .boolean), .methodLink RX4 50 yX4_has, .instanceMethod yX4_has, .selects RX4 yX4_has yX4_has, .code yX4_has cX4_has 3 (some .boolean), .fieldLink RX4 8 "VersionMergeModel" "sets" "[B"] ++ wsX40)
def wsX4_report : List Cond := .code yX4_report cX4_report 6 (some .int) :: ([.fieldLink RX4 21 "VersionMergeModel" "heads" "[I", .methodLink RX4 54 yX4_isBranch, .instanceMethod yX4_isBranch, .selects RX4 yX4_isBranch yX4_isBranch, .initialized RX4, .code yX4_isBranch cX4_isBranch 2 (some .boolean), .fieldLink RX4 47 "VersionMergeModel" "branches" "I", .methodLink RX4 50 yX4_has, .instanceMethod yX4_has, .selects RX4 yX4_has yX4_has, .code yX4_has cX4_has 3 (some .boolean), .fieldLink RX4 8 "VersionMergeModel" "sets" "[B"] ++ wsX40)
def wsX4_list : List Cond := .code yX4_list cX4_list 5 (some .int) :: ([.fieldLink RX4 21 "VersionMergeModel" "heads" "[I", .methodLink RX4 54 yX4_isBranch, .instanceMethod yX4_isBranch, .selects RX4 yX4_isBranch yX4_isBranch, .initialized RX4, .code yX4_isBranch cX4_isBranch 2 (some .boolean), .fieldLink RX4 47 "VersionMergeModel" "branches" "I", .methodLink RX4 50 yX4_has, .instanceMethod yX4_has, .selects RX4 yX4_has yX4_has, .code yX4_has cX4_has 3 (some .boolean), .fieldLink RX4 8 "VersionMergeModel" "sets" "[B"] ++ wsX40)
def wsX4_versions : List Cond := .code yX4_versions cX4_versions 1 (some .int) :: ([.fieldLink RX4 43 "VersionMergeModel" "versions" "I"] ++ wsX40)
def wsX4_branches : List Cond := .code yX4_branches cX4_branches 1 (some .int) :: ([.fieldLink RX4 47 "VersionMergeModel" "branches" "I"] ++ wsX40)
def wsJ9_min_7cf53 : List Cond := .code yJ9_min_7cf53 cJ9_min_7cf53 2 (some .int) :: ([])
abbrev vwCl : List vw_C := [(RX0, TX0, 1), (RX1, TX1, 1), (RX2, TX2, 5), (RX3, TX3, 7), (RX4, TX4, 13)]
end
section
theorem dX0_init_0 : decode cX0_init 0 = .ok (.aload_n 0, 1) := by decide +kernel
theorem dX0_init_1 : decode cX0_init 1 = .ok (.invokespecial 1, 3) := by decide +kernel
theorem dX0_init_4 : decode cX0_init 4 = .ok (.aload_n 0, 1) := by decide +kernel
theorem dX0_init_5 : decode cX0_init 5 = .ok (.aload_n 1, 1) := by decide +kernel
theorem dX0_init_6 : decode cX0_init 6 = .ok (.putfield 7, 3) := by decide +kernel
theorem dX0_init_9 : decode cX0_init 9 = .ok (.return_, 1) := by decide +kernel
theorem dX1_init_0 : decode cX1_init 0 = .ok (.aload_n 0, 1) := by decide +kernel
theorem dX1_init_1 : decode cX1_init 1 = .ok (.invokespecial 3, 3) := by decide +kernel
theorem dX1_init_4 : decode cX1_init 4 = .ok (.aload_n 0, 1) := by decide +kernel
theorem dX1_init_5 : decode cX1_init 5 = .ok (.bipush 64, 2) := by decide +kernel
theorem dX1_init_7 : decode cX1_init 7 = .ok (.newarray .long, 2) := by decide +kernel
theorem dX1_init_9 : decode cX1_init 9 = .ok (.putfield 9, 3) := by decide +kernel
theorem dX1_init_12 : decode cX1_init 12 = .ok (.return_, 1) := by decide +kernel
set_option maxRecDepth 20000 in
theorem ggX1_has_X3_isTriple : GoodIn wsX1_has wsX3_isTriple := goodIn_r _ [4] (by decide +kernel) (by decide +kernel)
set_option maxRecDepth 20000 in
theorem gX1_has_X3_isTriple_n15 : GoodIn wsX1_has (wsX3_isTriple) := ggX1_has_X3_isTriple
theorem dX1_has_0 : decode cX1_has 0 = .ok (.iload_n 1, 1) := by decide +kernel
theorem dX1_has_1 : decode cX1_has 1 = .ok (.invokestatic 15, 3) := by decide +kernel
theorem dX1_has_4 : decode cX1_has 4 = .ok (.ifCond .eq 28, 3) := by decide +kernel
theorem dX1_has_7 : decode cX1_has 7 = .ok (.aload_n 0, 1) := by decide +kernel
theorem dX1_has_8 : decode cX1_has 8 = .ok (.getfield 9, 3) := by decide +kernel
theorem dX1_has_11 : decode cX1_has 11 = .ok (.iload_n 1, 1) := by decide +kernel
theorem dX1_has_12 : decode cX1_has 12 = .ok (.bipush 6, 2) := by decide +kernel
theorem dX1_has_14 : decode cX1_has 14 = .ok (.ishr, 1) := by decide +kernel
theorem dX1_has_15 : decode cX1_has 15 = .ok (.laload, 1) := by decide +kernel
theorem dX1_has_16 : decode cX1_has 16 = .ok (.iload_n 1, 1) := by decide +kernel
theorem dX1_has_17 : decode cX1_has 17 = .ok (.bipush 63, 2) := by decide +kernel
theorem dX1_has_19 : decode cX1_has 19 = .ok (.iand, 1) := by decide +kernel
theorem dX1_has_20 : decode cX1_has 20 = .ok (.lushr, 1) := by decide +kernel
theorem dX1_has_21 : decode cX1_has 21 = .ok (.lconst 1, 1) := by decide +kernel
theorem dX1_has_22 : decode cX1_has 22 = .ok (.land, 1) := by decide +kernel
theorem dX1_has_23 : decode cX1_has 23 = .ok (.lconst 0, 1) := by decide +kernel
theorem dX1_has_24 : decode cX1_has 24 = .ok (.lcmp, 1) := by decide +kernel
theorem dX1_has_25 : decode cX1_has 25 = .ok (.ifCond .eq 7, 3) := by decide +kernel
theorem dX1_has_28 : decode cX1_has 28 = .ok (.iconst 1, 1) := by decide +kernel
theorem dX1_has_29 : decode cX1_has 29 = .ok (.goto 4, 3) := by decide +kernel
theorem dX1_has_32 : decode cX1_has 32 = .ok (.iconst 0, 1) := by decide +kernel
theorem dX1_has_33 : decode cX1_has 33 = .ok (.ireturn, 1) := by decide +kernel
set_option maxRecDepth 20000 in
theorem ggX1_change_X3_isTriple : GoodIn wsX1_change wsX3_isTriple := goodIn_r _ [5] (by decide +kernel) (by decide +kernel)
set_option maxRecDepth 20000 in
theorem gX1_change_X3_isTriple_n15 : GoodIn wsX1_change (wsX3_isTriple) := ggX1_change_X3_isTriple
theorem dX1_change_0 : decode cX1_change 0 = .ok (.iload_n 1, 1) := by decide +kernel
theorem dX1_change_1 : decode cX1_change 1 = .ok (.invokestatic 15, 3) := by decide +kernel
theorem dX1_change_4 : decode cX1_change 4 = .ok (.ifCond .ne 4, 3) := by decide +kernel
theorem dX1_change_7 : decode cX1_change 7 = .ok (.return_, 1) := by decide +kernel
theorem dX1_change_8 : decode cX1_change 8 = .ok (.lconst 1, 1) := by decide +kernel
theorem dX1_change_9 : decode cX1_change 9 = .ok (.iload_n 1, 1) := by decide +kernel
theorem dX1_change_10 : decode cX1_change 10 = .ok (.bipush 63, 2) := by decide +kernel
theorem dX1_change_12 : decode cX1_change 12 = .ok (.iand, 1) := by decide +kernel
theorem dX1_change_13 : decode cX1_change 13 = .ok (.lshl, 1) := by decide +kernel
theorem dX1_change_14 : decode cX1_change 14 = .ok (.lstore_n 3, 1) := by decide +kernel
theorem dX1_change_15 : decode cX1_change 15 = .ok (.iload_n 2, 1) := by decide +kernel
theorem dX1_change_16 : decode cX1_change 16 = .ok (.ifCond .eq 19, 3) := by decide +kernel
theorem dX1_change_19 : decode cX1_change 19 = .ok (.aload_n 0, 1) := by decide +kernel
theorem dX1_change_20 : decode cX1_change 20 = .ok (.getfield 9, 3) := by decide +kernel
theorem dX1_change_23 : decode cX1_change 23 = .ok (.iload_n 1, 1) := by decide +kernel
theorem dX1_change_24 : decode cX1_change 24 = .ok (.bipush 6, 2) := by decide +kernel
theorem dX1_change_26 : decode cX1_change 26 = .ok (.ishr, 1) := by decide +kernel
theorem dX1_change_27 : decode cX1_change 27 = .ok (.dup2, 1) := by decide +kernel
theorem dX1_change_28 : decode cX1_change 28 = .ok (.laload, 1) := by decide +kernel
theorem dX1_change_29 : decode cX1_change 29 = .ok (.lload_n 3, 1) := by decide +kernel
theorem dX1_change_30 : decode cX1_change 30 = .ok (.lor, 1) := by decide +kernel
theorem dX1_change_31 : decode cX1_change 31 = .ok (.lastore, 1) := by decide +kernel
theorem dX1_change_32 : decode cX1_change 32 = .ok (.goto 20, 3) := by decide +kernel
theorem dX1_change_35 : decode cX1_change 35 = .ok (.aload_n 0, 1) := by decide +kernel
theorem dX1_change_36 : decode cX1_change 36 = .ok (.getfield 9, 3) := by decide +kernel
theorem dX1_change_39 : decode cX1_change 39 = .ok (.iload_n 1, 1) := by decide +kernel
theorem dX1_change_40 : decode cX1_change 40 = .ok (.bipush 6, 2) := by decide +kernel
theorem dX1_change_42 : decode cX1_change 42 = .ok (.ishr, 1) := by decide +kernel
theorem dX1_change_43 : decode cX1_change 43 = .ok (.dup2, 1) := by decide +kernel
theorem dX1_change_44 : decode cX1_change 44 = .ok (.laload, 1) := by decide +kernel
theorem dX1_change_45 : decode cX1_change 45 = .ok (.lload_n 3, 1) := by decide +kernel
theorem dX1_change_46 : decode cX1_change 46 = .ok (.ldc2_w 19, 3) := by decide +kernel
theorem dX1_change_49 : decode cX1_change 49 = .ok (.lxor, 1) := by decide +kernel
theorem dX1_change_50 : decode cX1_change 50 = .ok (.land, 1) := by decide +kernel
theorem dX1_change_51 : decode cX1_change 51 = .ok (.lastore, 1) := by decide +kernel
theorem dX1_change_52 : decode cX1_change 52 = .ok (.return_, 1) := by decide +kernel
theorem dX1_becomeCopy_0 : decode cX1_becomeCopy 0 = .ok (.aload_n 1, 1) := by decide +kernel
theorem dX1_becomeCopy_1 : decode cX1_becomeCopy 1 = .ok (.getfield 9, 3) := by decide +kernel
theorem dX1_becomeCopy_4 : decode cX1_becomeCopy 4 = .ok (.iconst 0, 1) := by decide +kernel
theorem dX1_becomeCopy_5 : decode cX1_becomeCopy 5 = .ok (.aload_n 0, 1) := by decide +kernel
theorem dX1_becomeCopy_6 : decode cX1_becomeCopy 6 = .ok (.getfield 9, 3) := by decide +kernel
theorem dX1_becomeCopy_9 : decode cX1_becomeCopy 9 = .ok (.iconst 0, 1) := by decide +kernel
theorem dX1_becomeCopy_10 : decode cX1_becomeCopy 10 = .ok (.bipush 64, 2) := by decide +kernel
theorem dX1_becomeCopy_12 : decode cX1_becomeCopy 12 = .ok (.invokestatic 21, 3) := by decide +kernel
theorem dX1_becomeCopy_15 : decode cX1_becomeCopy 15 = .ok (.return_, 1) := by decide +kernel
theorem dX1_becomeDifference_0 : decode cX1_becomeDifference 0 = .ok (.iconst 0, 1) := by decide +kernel
theorem dX1_becomeDifference_1 : decode cX1_becomeDifference 1 = .ok (.istore_n 3, 1) := by decide +kernel
theorem dX1_becomeDifference_2 : decode cX1_becomeDifference 2 = .ok (.iload_n 3, 1) := by decide +kernel
theorem dX1_becomeDifference_3 : decode cX1_becomeDifference 3 = .ok (.bipush 64, 2) := by decide +kernel
theorem dX1_becomeDifference_5 : decode cX1_becomeDifference 5 = .ok (.if_icmp .ge 28, 3) := by decide +kernel
theorem dX1_becomeDifference_8 : decode cX1_becomeDifference 8 = .ok (.aload_n 0, 1) := by decide +kernel
theorem dX1_becomeDifference_9 : decode cX1_becomeDifference 9 = .ok (.getfield 9, 3) := by decide +kernel
theorem dX1_becomeDifference_12 : decode cX1_becomeDifference 12 = .ok (.iload_n 3, 1) := by decide +kernel
theorem dX1_becomeDifference_13 : decode cX1_becomeDifference 13 = .ok (.aload_n 1, 1) := by decide +kernel
theorem dX1_becomeDifference_14 : decode cX1_becomeDifference 14 = .ok (.getfield 9, 3) := by decide +kernel
theorem dX1_becomeDifference_17 : decode cX1_becomeDifference 17 = .ok (.iload_n 3, 1) := by decide +kernel
theorem dX1_becomeDifference_18 : decode cX1_becomeDifference 18 = .ok (.laload, 1) := by decide +kernel
theorem dX1_becomeDifference_19 : decode cX1_becomeDifference 19 = .ok (.aload_n 2, 1) := by decide +kernel
theorem dX1_becomeDifference_20 : decode cX1_becomeDifference 20 = .ok (.getfield 9, 3) := by decide +kernel
theorem dX1_becomeDifference_23 : decode cX1_becomeDifference 23 = .ok (.iload_n 3, 1) := by decide +kernel
theorem dX1_becomeDifference_24 : decode cX1_becomeDifference 24 = .ok (.laload, 1) := by decide +kernel
theorem dX1_becomeDifference_25 : decode cX1_becomeDifference 25 = .ok (.lxor, 1) := by decide +kernel
theorem dX1_becomeDifference_26 : decode cX1_becomeDifference 26 = .ok (.lastore, 1) := by decide +kernel
theorem dX1_becomeDifference_27 : decode cX1_becomeDifference 27 = .ok (.iinc 3 1, 3) := by decide +kernel
theorem dX1_becomeDifference_30 : decode cX1_becomeDifference 30 = .ok (.goto (-28), 3) := by decide +kernel
theorem dX1_becomeDifference_33 : decode cX1_becomeDifference 33 = .ok (.return_, 1) := by decide +kernel
theorem dX1_becomeMerged_0 : decode cX1_becomeMerged 0 = .ok (.iconst 0, 1) := by decide +kernel
theorem dX1_becomeMerged_1 : decode cX1_becomeMerged 1 = .ok (.istore 4, 2) := by decide +kernel
theorem dX1_becomeMerged_3 : decode cX1_becomeMerged 3 = .ok (.iload 4, 2) := by decide +kernel
theorem dX1_becomeMerged_5 : decode cX1_becomeMerged 5 = .ok (.bipush 64, 2) := by decide +kernel
theorem dX1_becomeMerged_7 : decode cX1_becomeMerged 7 = .ok (.if_icmp .ge 63, 3) := by decide +kernel
theorem dX1_becomeMerged_10 : decode cX1_becomeMerged 10 = .ok (.aload_n 1, 1) := by decide +kernel
theorem dX1_becomeMerged_11 : decode cX1_becomeMerged 11 = .ok (.getfield 9, 3) := by decide +kernel
theorem dX1_becomeMerged_14 : decode cX1_becomeMerged 14 = .ok (.iload 4, 2) := by decide +kernel
theorem dX1_becomeMerged_16 : decode cX1_becomeMerged 16 = .ok (.laload, 1) := by decide +kernel
theorem dX1_becomeMerged_17 : decode cX1_becomeMerged 17 = .ok (.aload_n 2, 1) := by decide +kernel
theorem dX1_becomeMerged_18 : decode cX1_becomeMerged 18 = .ok (.getfield 9, 3) := by decide +kernel
theorem dX1_becomeMerged_21 : decode cX1_becomeMerged 21 = .ok (.iload 4, 2) := by decide +kernel
theorem dX1_becomeMerged_23 : decode cX1_becomeMerged 23 = .ok (.laload, 1) := by decide +kernel
theorem dX1_becomeMerged_24 : decode cX1_becomeMerged 24 = .ok (.lor, 1) := by decide +kernel
theorem dX1_becomeMerged_25 : decode cX1_becomeMerged 25 = .ok (.aload_n 3, 1) := by decide +kernel
theorem dX1_becomeMerged_26 : decode cX1_becomeMerged 26 = .ok (.getfield 9, 3) := by decide +kernel
theorem dX1_becomeMerged_29 : decode cX1_becomeMerged 29 = .ok (.iload 4, 2) := by decide +kernel
theorem dX1_becomeMerged_31 : decode cX1_becomeMerged 31 = .ok (.laload, 1) := by decide +kernel
theorem dX1_becomeMerged_32 : decode cX1_becomeMerged 32 = .ok (.ldc2_w 19, 3) := by decide +kernel
theorem dX1_becomeMerged_35 : decode cX1_becomeMerged 35 = .ok (.lxor, 1) := by decide +kernel
theorem dX1_becomeMerged_36 : decode cX1_becomeMerged 36 = .ok (.land, 1) := by decide +kernel
theorem dX1_becomeMerged_37 : decode cX1_becomeMerged 37 = .ok (.lstore 5, 2) := by decide +kernel
theorem dX1_becomeMerged_39 : decode cX1_becomeMerged 39 = .ok (.aload_n 0, 1) := by decide +kernel
theorem dX1_becomeMerged_40 : decode cX1_becomeMerged 40 = .ok (.getfield 9, 3) := by decide +kernel
theorem dX1_becomeMerged_43 : decode cX1_becomeMerged 43 = .ok (.iload 4, 2) := by decide +kernel
theorem dX1_becomeMerged_45 : decode cX1_becomeMerged 45 = .ok (.lload 5, 2) := by decide +kernel
theorem dX1_becomeMerged_47 : decode cX1_becomeMerged 47 = .ok (.aload_n 1, 1) := by decide +kernel
theorem dX1_becomeMerged_48 : decode cX1_becomeMerged 48 = .ok (.getfield 9, 3) := by decide +kernel
theorem dX1_becomeMerged_51 : decode cX1_becomeMerged 51 = .ok (.iload 4, 2) := by decide +kernel
theorem dX1_becomeMerged_53 : decode cX1_becomeMerged 53 = .ok (.laload, 1) := by decide +kernel
theorem dX1_becomeMerged_54 : decode cX1_becomeMerged 54 = .ok (.aload_n 2, 1) := by decide +kernel
theorem dX1_becomeMerged_55 : decode cX1_becomeMerged 55 = .ok (.getfield 9, 3) := by decide +kernel
theorem dX1_becomeMerged_58 : decode cX1_becomeMerged 58 = .ok (.iload 4, 2) := by decide +kernel
theorem dX1_becomeMerged_60 : decode cX1_becomeMerged 60 = .ok (.laload, 1) := by decide +kernel
theorem dX1_becomeMerged_61 : decode cX1_becomeMerged 61 = .ok (.land, 1) := by decide +kernel
theorem dX1_becomeMerged_62 : decode cX1_becomeMerged 62 = .ok (.lor, 1) := by decide +kernel
theorem dX1_becomeMerged_63 : decode cX1_becomeMerged 63 = .ok (.lastore, 1) := by decide +kernel
theorem dX1_becomeMerged_64 : decode cX1_becomeMerged 64 = .ok (.iinc 4 1, 3) := by decide +kernel
theorem dX1_becomeMerged_67 : decode cX1_becomeMerged 67 = .ok (.goto (-64), 3) := by decide +kernel
theorem dX1_becomeMerged_70 : decode cX1_becomeMerged 70 = .ok (.return_, 1) := by decide +kernel
theorem dX1_becomeLaid_0 : decode cX1_becomeLaid 0 = .ok (.iconst 0, 1) := by decide +kernel
theorem dX1_becomeLaid_1 : decode cX1_becomeLaid 1 = .ok (.istore 4, 2) := by decide +kernel
theorem dX1_becomeLaid_3 : decode cX1_becomeLaid 3 = .ok (.iload 4, 2) := by decide +kernel
theorem dX1_becomeLaid_5 : decode cX1_becomeLaid 5 = .ok (.bipush 64, 2) := by decide +kernel
theorem dX1_becomeLaid_7 : decode cX1_becomeLaid 7 = .ok (.if_icmp .ge 75, 3) := by decide +kernel
theorem dX1_becomeLaid_10 : decode cX1_becomeLaid 10 = .ok (.aload_n 2, 1) := by decide +kernel
theorem dX1_becomeLaid_11 : decode cX1_becomeLaid 11 = .ok (.getfield 9, 3) := by decide +kernel
theorem dX1_becomeLaid_14 : decode cX1_becomeLaid 14 = .ok (.iload 4, 2) := by decide +kernel
theorem dX1_becomeLaid_16 : decode cX1_becomeLaid 16 = .ok (.laload, 1) := by decide +kernel
theorem dX1_becomeLaid_17 : decode cX1_becomeLaid 17 = .ok (.aload_n 3, 1) := by decide +kernel
theorem dX1_becomeLaid_18 : decode cX1_becomeLaid 18 = .ok (.getfield 9, 3) := by decide +kernel
theorem dX1_becomeLaid_21 : decode cX1_becomeLaid 21 = .ok (.iload 4, 2) := by decide +kernel
theorem dX1_becomeLaid_23 : decode cX1_becomeLaid 23 = .ok (.laload, 1) := by decide +kernel
theorem dX1_becomeLaid_24 : decode cX1_becomeLaid 24 = .ok (.ldc2_w 19, 3) := by decide +kernel
theorem dX1_becomeLaid_27 : decode cX1_becomeLaid 27 = .ok (.lxor, 1) := by decide +kernel
theorem dX1_becomeLaid_28 : decode cX1_becomeLaid 28 = .ok (.land, 1) := by decide +kernel
theorem dX1_becomeLaid_29 : decode cX1_becomeLaid 29 = .ok (.lstore 5, 2) := by decide +kernel
theorem dX1_becomeLaid_31 : decode cX1_becomeLaid 31 = .ok (.aload_n 3, 1) := by decide +kernel
theorem dX1_becomeLaid_32 : decode cX1_becomeLaid 32 = .ok (.getfield 9, 3) := by decide +kernel
theorem dX1_becomeLaid_35 : decode cX1_becomeLaid 35 = .ok (.iload 4, 2) := by decide +kernel
theorem dX1_becomeLaid_37 : decode cX1_becomeLaid 37 = .ok (.laload, 1) := by decide +kernel
theorem dX1_becomeLaid_38 : decode cX1_becomeLaid 38 = .ok (.aload_n 2, 1) := by decide +kernel
theorem dX1_becomeLaid_39 : decode cX1_becomeLaid 39 = .ok (.getfield 9, 3) := by decide +kernel
theorem dX1_becomeLaid_42 : decode cX1_becomeLaid 42 = .ok (.iload 4, 2) := by decide +kernel
theorem dX1_becomeLaid_44 : decode cX1_becomeLaid 44 = .ok (.laload, 1) := by decide +kernel
theorem dX1_becomeLaid_45 : decode cX1_becomeLaid 45 = .ok (.ldc2_w 19, 3) := by decide +kernel
theorem dX1_becomeLaid_48 : decode cX1_becomeLaid 48 = .ok (.lxor, 1) := by decide +kernel
theorem dX1_becomeLaid_49 : decode cX1_becomeLaid 49 = .ok (.land, 1) := by decide +kernel
theorem dX1_becomeLaid_50 : decode cX1_becomeLaid 50 = .ok (.lstore 7, 2) := by decide +kernel
theorem dX1_becomeLaid_52 : decode cX1_becomeLaid 52 = .ok (.aload_n 0, 1) := by decide +kernel
theorem dX1_becomeLaid_53 : decode cX1_becomeLaid 53 = .ok (.getfield 9, 3) := by decide +kernel
theorem dX1_becomeLaid_56 : decode cX1_becomeLaid 56 = .ok (.iload 4, 2) := by decide +kernel
theorem dX1_becomeLaid_58 : decode cX1_becomeLaid 58 = .ok (.aload_n 1, 1) := by decide +kernel
theorem dX1_becomeLaid_59 : decode cX1_becomeLaid 59 = .ok (.getfield 9, 3) := by decide +kernel
theorem dX1_becomeLaid_62 : decode cX1_becomeLaid 62 = .ok (.iload 4, 2) := by decide +kernel
theorem dX1_becomeLaid_64 : decode cX1_becomeLaid 64 = .ok (.laload, 1) := by decide +kernel
theorem dX1_becomeLaid_65 : decode cX1_becomeLaid 65 = .ok (.lload 5, 2) := by decide +kernel
theorem dX1_becomeLaid_67 : decode cX1_becomeLaid 67 = .ok (.ldc2_w 19, 3) := by decide +kernel
theorem dX1_becomeLaid_70 : decode cX1_becomeLaid 70 = .ok (.lxor, 1) := by decide +kernel
theorem dX1_becomeLaid_71 : decode cX1_becomeLaid 71 = .ok (.land, 1) := by decide +kernel
theorem dX1_becomeLaid_72 : decode cX1_becomeLaid 72 = .ok (.lload 7, 2) := by decide +kernel
theorem dX1_becomeLaid_74 : decode cX1_becomeLaid 74 = .ok (.lor, 1) := by decide +kernel
theorem dX1_becomeLaid_75 : decode cX1_becomeLaid 75 = .ok (.lastore, 1) := by decide +kernel
theorem dX1_becomeLaid_76 : decode cX1_becomeLaid 76 = .ok (.iinc 4 1, 3) := by decide +kernel
theorem dX1_becomeLaid_79 : decode cX1_becomeLaid 79 = .ok (.goto (-76), 3) := by decide +kernel
theorem dX1_becomeLaid_82 : decode cX1_becomeLaid 82 = .ok (.return_, 1) := by decide +kernel
set_option maxRecDepth 20000 in
theorem ggX1_becomeRenamed_X1_has : GoodIn wsX1_becomeRenamed wsX1_has := goodIn_r _ [6, 1, 7, 8, 9, 27] (by decide +kernel) (by decide +kernel)
set_option maxRecDepth 20000 in
theorem gX1_becomeRenamed_X1_has : GoodIn wsX1_becomeRenamed (wsV RX1 27 RX1 yX1_has wsX1_has) := goodIn_app (goodIn_of _ (by decide +kernel)) ggX1_becomeRenamed_X1_has
set_option maxRecDepth 20000 in
theorem ggX1_becomeRenamed_X1_renamed : GoodIn wsX1_becomeRenamed wsX1_renamed := goodIn_r _ [12, 13, 14, 5, 15, 16, 17, 18, 19, 20, 21] (by decide +kernel) (by decide +kernel)
set_option maxRecDepth 20000 in
theorem gX1_becomeRenamed_X1_renamed : GoodIn wsX1_becomeRenamed (va_wsS RX1 30 yX1_renamed wsX1_renamed) := goodIn_app (goodIn_of _ (by decide +kernel)) ggX1_becomeRenamed_X1_renamed
set_option maxRecDepth 20000 in
theorem ggX1_becomeRenamed_X1_change : GoodIn wsX1_becomeRenamed wsX1_change := goodIn_r _ [25, 1, 26, 7, 8, 9, 27] (by decide +kernel) (by decide +kernel)
set_option maxRecDepth 20000 in
theorem gX1_becomeRenamed_X1_change : GoodIn wsX1_becomeRenamed (wsV RX1 34 RX1 yX1_change wsX1_change) := goodIn_app (goodIn_of _ (by decide +kernel)) ggX1_becomeRenamed_X1_change
theorem dX1_becomeRenamed_0 : decode cX1_becomeRenamed 0 = .ok (.iconst 0, 1) := by decide +kernel
theorem dX1_becomeRenamed_1 : decode cX1_becomeRenamed 1 = .ok (.istore 4, 2) := by decide +kernel
theorem dX1_becomeRenamed_3 : decode cX1_becomeRenamed 3 = .ok (.iload 4, 2) := by decide +kernel
theorem dX1_becomeRenamed_5 : decode cX1_becomeRenamed 5 = .ok (.bipush 64, 2) := by decide +kernel
theorem dX1_becomeRenamed_7 : decode cX1_becomeRenamed 7 = .ok (.if_icmp .ge 17, 3) := by decide +kernel
theorem dX1_becomeRenamed_10 : decode cX1_becomeRenamed 10 = .ok (.aload_n 0, 1) := by decide +kernel
theorem dX1_becomeRenamed_11 : decode cX1_becomeRenamed 11 = .ok (.getfield 9, 3) := by decide +kernel
theorem dX1_becomeRenamed_14 : decode cX1_becomeRenamed 14 = .ok (.iload 4, 2) := by decide +kernel
theorem dX1_becomeRenamed_16 : decode cX1_becomeRenamed 16 = .ok (.lconst 0, 1) := by decide +kernel
theorem dX1_becomeRenamed_17 : decode cX1_becomeRenamed 17 = .ok (.lastore, 1) := by decide +kernel
theorem dX1_becomeRenamed_18 : decode cX1_becomeRenamed 18 = .ok (.iinc 4 1, 3) := by decide +kernel
theorem dX1_becomeRenamed_21 : decode cX1_becomeRenamed 21 = .ok (.goto (-18), 3) := by decide +kernel
theorem dX1_becomeRenamed_24 : decode cX1_becomeRenamed 24 = .ok (.iconst 0, 1) := by decide +kernel
theorem dX1_becomeRenamed_25 : decode cX1_becomeRenamed 25 = .ok (.istore 4, 2) := by decide +kernel
theorem dX1_becomeRenamed_27 : decode cX1_becomeRenamed 27 = .ok (.iload 4, 2) := by decide +kernel
theorem dX1_becomeRenamed_29 : decode cX1_becomeRenamed 29 = .ok (.sipush 4096, 3) := by decide +kernel
theorem dX1_becomeRenamed_32 : decode cX1_becomeRenamed 32 = .ok (.if_icmp .ge 30, 3) := by decide +kernel
theorem dX1_becomeRenamed_35 : decode cX1_becomeRenamed 35 = .ok (.aload_n 1, 1) := by decide +kernel
theorem dX1_becomeRenamed_36 : decode cX1_becomeRenamed 36 = .ok (.iload 4, 2) := by decide +kernel
theorem dX1_becomeRenamed_38 : decode cX1_becomeRenamed 38 = .ok (.invokevirtual 27, 3) := by decide +kernel
theorem dX1_becomeRenamed_41 : decode cX1_becomeRenamed 41 = .ok (.ifCond .eq 15, 3) := by decide +kernel
theorem dX1_becomeRenamed_44 : decode cX1_becomeRenamed 44 = .ok (.aload_n 0, 1) := by decide +kernel
theorem dX1_becomeRenamed_45 : decode cX1_becomeRenamed 45 = .ok (.iload 4, 2) := by decide +kernel
theorem dX1_becomeRenamed_47 : decode cX1_becomeRenamed 47 = .ok (.iload_n 2, 1) := by decide +kernel
theorem dX1_becomeRenamed_48 : decode cX1_becomeRenamed 48 = .ok (.iload_n 3, 1) := by decide +kernel
theorem dX1_becomeRenamed_49 : decode cX1_becomeRenamed 49 = .ok (.invokestatic 30, 3) := by decide +kernel
theorem dX1_becomeRenamed_52 : decode cX1_becomeRenamed 52 = .ok (.iconst 1, 1) := by decide +kernel
theorem dX1_becomeRenamed_53 : decode cX1_becomeRenamed 53 = .ok (.invokevirtual 34, 3) := by decide +kernel
theorem dX1_becomeRenamed_56 : decode cX1_becomeRenamed 56 = .ok (.iinc 4 1, 3) := by decide +kernel
theorem dX1_becomeRenamed_59 : decode cX1_becomeRenamed 59 = .ok (.goto (-32), 3) := by decide +kernel
theorem dX1_becomeRenamed_62 : decode cX1_becomeRenamed 62 = .ok (.return_, 1) := by decide +kernel
set_option maxRecDepth 20000 in
theorem ggX1_renamed_X1_subject : GoodIn wsX1_renamed wsX1_subject := goodIn_r _ [4] (by decide +kernel) (by decide +kernel)
set_option maxRecDepth 20000 in
theorem gX1_renamed_X1_subject : GoodIn wsX1_renamed (va_wsS RX1 38 yX1_subject wsX1_subject) := goodIn_app (goodIn_of _ (by decide +kernel)) ggX1_renamed_X1_subject
set_option maxRecDepth 20000 in
theorem ggX1_renamed_X1_property : GoodIn wsX1_renamed wsX1_property := goodIn_r _ [7] (by decide +kernel) (by decide +kernel)
set_option maxRecDepth 20000 in
theorem gX1_renamed_X1_property : GoodIn wsX1_renamed (va_wsS RX1 42 yX1_property wsX1_property) := goodIn_app (goodIn_of _ (by decide +kernel)) ggX1_renamed_X1_property
set_option maxRecDepth 20000 in
theorem ggX1_renamed_X1_object : GoodIn wsX1_renamed wsX1_object := goodIn_r _ [10] (by decide +kernel) (by decide +kernel)
set_option maxRecDepth 20000 in
theorem gX1_renamed_X1_object : GoodIn wsX1_renamed (va_wsS RX1 45 yX1_object wsX1_object) := goodIn_app (goodIn_of _ (by decide +kernel)) ggX1_renamed_X1_object
theorem dX1_renamed_0 : decode cX1_renamed 0 = .ok (.iload_n 0, 1) := by decide +kernel
theorem dX1_renamed_1 : decode cX1_renamed 1 = .ok (.invokestatic 38, 3) := by decide +kernel
theorem dX1_renamed_4 : decode cX1_renamed 4 = .ok (.iload_n 1, 1) := by decide +kernel
theorem dX1_renamed_5 : decode cX1_renamed 5 = .ok (.if_icmp .ne 7, 3) := by decide +kernel
theorem dX1_renamed_8 : decode cX1_renamed 8 = .ok (.iload_n 2, 1) := by decide +kernel
theorem dX1_renamed_9 : decode cX1_renamed 9 = .ok (.goto 7, 3) := by decide +kernel
theorem dX1_renamed_12 : decode cX1_renamed 12 = .ok (.iload_n 0, 1) := by decide +kernel
theorem dX1_renamed_13 : decode cX1_renamed 13 = .ok (.invokestatic 38, 3) := by decide +kernel
theorem dX1_renamed_16 : decode cX1_renamed 16 = .ok (.istore_n 3, 1) := by decide +kernel
theorem dX1_renamed_17 : decode cX1_renamed 17 = .ok (.iload_n 0, 1) := by decide +kernel
theorem dX1_renamed_18 : decode cX1_renamed 18 = .ok (.invokestatic 42, 3) := by decide +kernel
theorem dX1_renamed_21 : decode cX1_renamed 21 = .ok (.iload_n 1, 1) := by decide +kernel
theorem dX1_renamed_22 : decode cX1_renamed 22 = .ok (.if_icmp .ne 7, 3) := by decide +kernel
theorem dX1_renamed_25 : decode cX1_renamed 25 = .ok (.iload_n 2, 1) := by decide +kernel
theorem dX1_renamed_26 : decode cX1_renamed 26 = .ok (.goto 7, 3) := by decide +kernel
theorem dX1_renamed_29 : decode cX1_renamed 29 = .ok (.iload_n 0, 1) := by decide +kernel
theorem dX1_renamed_30 : decode cX1_renamed 30 = .ok (.invokestatic 42, 3) := by decide +kernel
theorem dX1_renamed_33 : decode cX1_renamed 33 = .ok (.istore 4, 2) := by decide +kernel
theorem dX1_renamed_35 : decode cX1_renamed 35 = .ok (.iload_n 0, 1) := by decide +kernel
theorem dX1_renamed_36 : decode cX1_renamed 36 = .ok (.invokestatic 45, 3) := by decide +kernel
theorem dX1_renamed_39 : decode cX1_renamed 39 = .ok (.iload_n 1, 1) := by decide +kernel
theorem dX1_renamed_40 : decode cX1_renamed 40 = .ok (.if_icmp .ne 7, 3) := by decide +kernel
theorem dX1_renamed_43 : decode cX1_renamed 43 = .ok (.iload_n 2, 1) := by decide +kernel
theorem dX1_renamed_44 : decode cX1_renamed 44 = .ok (.goto 7, 3) := by decide +kernel
theorem dX1_renamed_47 : decode cX1_renamed 47 = .ok (.iload_n 0, 1) := by decide +kernel
theorem dX1_renamed_48 : decode cX1_renamed 48 = .ok (.invokestatic 45, 3) := by decide +kernel
theorem dX1_renamed_51 : decode cX1_renamed 51 = .ok (.istore 5, 2) := by decide +kernel
theorem dX1_renamed_53 : decode cX1_renamed 53 = .ok (.sipush 256, 3) := by decide +kernel
theorem dX1_renamed_56 : decode cX1_renamed 56 = .ok (.iload_n 3, 1) := by decide +kernel
theorem dX1_renamed_57 : decode cX1_renamed 57 = .ok (.imul, 1) := by decide +kernel
theorem dX1_renamed_58 : decode cX1_renamed 58 = .ok (.bipush 16, 2) := by decide +kernel
theorem dX1_renamed_60 : decode cX1_renamed 60 = .ok (.iload 4, 2) := by decide +kernel
theorem dX1_renamed_62 : decode cX1_renamed 62 = .ok (.imul, 1) := by decide +kernel
theorem dX1_renamed_63 : decode cX1_renamed 63 = .ok (.iadd, 1) := by decide +kernel
theorem dX1_renamed_64 : decode cX1_renamed 64 = .ok (.iload 5, 2) := by decide +kernel
theorem dX1_renamed_66 : decode cX1_renamed 66 = .ok (.iadd, 1) := by decide +kernel
theorem dX1_renamed_67 : decode cX1_renamed 67 = .ok (.ireturn, 1) := by decide +kernel
theorem dX1_subject_0 : decode cX1_subject 0 = .ok (.iload_n 0, 1) := by decide +kernel
theorem dX1_subject_1 : decode cX1_subject 1 = .ok (.bipush 8, 2) := by decide +kernel
theorem dX1_subject_3 : decode cX1_subject 3 = .ok (.ishr, 1) := by decide +kernel
theorem dX1_subject_4 : decode cX1_subject 4 = .ok (.ireturn, 1) := by decide +kernel
theorem dX1_property_0 : decode cX1_property 0 = .ok (.iload_n 0, 1) := by decide +kernel
theorem dX1_property_1 : decode cX1_property 1 = .ok (.iconst 4, 1) := by decide +kernel
theorem dX1_property_2 : decode cX1_property 2 = .ok (.ishr, 1) := by decide +kernel
theorem dX1_property_3 : decode cX1_property 3 = .ok (.bipush 15, 2) := by decide +kernel
theorem dX1_property_5 : decode cX1_property 5 = .ok (.iand, 1) := by decide +kernel
theorem dX1_property_6 : decode cX1_property 6 = .ok (.ireturn, 1) := by decide +kernel
theorem dX1_object_0 : decode cX1_object 0 = .ok (.iload_n 0, 1) := by decide +kernel
theorem dX1_object_1 : decode cX1_object 1 = .ok (.bipush 15, 2) := by decide +kernel
theorem dX1_object_3 : decode cX1_object 3 = .ok (.iand, 1) := by decide +kernel
theorem dX1_object_4 : decode cX1_object 4 = .ok (.ireturn, 1) := by decide +kernel
set_option maxRecDepth 20000 in
theorem ggX1_mentions_X1_has : GoodIn wsX1_mentions wsX1_has := goodIn_r _ [5, 6, 7, 8, 9, 19] (by decide +kernel) (by decide +kernel)
set_option maxRecDepth 20000 in
theorem gX1_mentions_X1_has : GoodIn wsX1_mentions (wsV RX1 27 RX1 yX1_has wsX1_has) := goodIn_app (goodIn_of _ (by decide +kernel)) ggX1_mentions_X1_has
set_option maxRecDepth 20000 in
theorem ggX1_mentions_X1_subject : GoodIn wsX1_mentions wsX1_subject := goodIn_r _ [12] (by decide +kernel) (by decide +kernel)
set_option maxRecDepth 20000 in
theorem gX1_mentions_X1_subject : GoodIn wsX1_mentions (va_wsS RX1 38 yX1_subject wsX1_subject) := goodIn_app (goodIn_of _ (by decide +kernel)) ggX1_mentions_X1_subject
set_option maxRecDepth 20000 in
theorem ggX1_mentions_X1_property : GoodIn wsX1_mentions wsX1_property := goodIn_r _ [15] (by decide +kernel) (by decide +kernel)
set_option maxRecDepth 20000 in
theorem gX1_mentions_X1_property : GoodIn wsX1_mentions (va_wsS RX1 42 yX1_property wsX1_property) := goodIn_app (goodIn_of _ (by decide +kernel)) ggX1_mentions_X1_property
set_option maxRecDepth 20000 in
theorem ggX1_mentions_X1_object : GoodIn wsX1_mentions wsX1_object := goodIn_r _ [18] (by decide +kernel) (by decide +kernel)
set_option maxRecDepth 20000 in
theorem gX1_mentions_X1_object : GoodIn wsX1_mentions (va_wsS RX1 45 yX1_object wsX1_object) := goodIn_app (goodIn_of _ (by decide +kernel)) ggX1_mentions_X1_object
theorem dX1_mentions_0 : decode cX1_mentions 0 = .ok (.iconst 0, 1) := by decide +kernel
theorem dX1_mentions_1 : decode cX1_mentions 1 = .ok (.istore_n 2, 1) := by decide +kernel
theorem dX1_mentions_2 : decode cX1_mentions 2 = .ok (.iload_n 2, 1) := by decide +kernel
theorem dX1_mentions_3 : decode cX1_mentions 3 = .ok (.sipush 4096, 3) := by decide +kernel
theorem dX1_mentions_6 : decode cX1_mentions 6 = .ok (.if_icmp .ge 43, 3) := by decide +kernel
theorem dX1_mentions_9 : decode cX1_mentions 9 = .ok (.aload_n 0, 1) := by decide +kernel
theorem dX1_mentions_10 : decode cX1_mentions 10 = .ok (.iload_n 2, 1) := by decide +kernel
theorem dX1_mentions_11 : decode cX1_mentions 11 = .ok (.invokevirtual 27, 3) := by decide +kernel
theorem dX1_mentions_14 : decode cX1_mentions 14 = .ok (.ifCond .eq 29, 3) := by decide +kernel
theorem dX1_mentions_17 : decode cX1_mentions 17 = .ok (.iload_n 2, 1) := by decide +kernel
theorem dX1_mentions_18 : decode cX1_mentions 18 = .ok (.invokestatic 38, 3) := by decide +kernel
theorem dX1_mentions_21 : decode cX1_mentions 21 = .ok (.iload_n 1, 1) := by decide +kernel
theorem dX1_mentions_22 : decode cX1_mentions 22 = .ok (.if_icmp .eq 19, 3) := by decide +kernel
theorem dX1_mentions_25 : decode cX1_mentions 25 = .ok (.iload_n 2, 1) := by decide +kernel
theorem dX1_mentions_26 : decode cX1_mentions 26 = .ok (.invokestatic 42, 3) := by decide +kernel
theorem dX1_mentions_29 : decode cX1_mentions 29 = .ok (.iload_n 1, 1) := by decide +kernel
theorem dX1_mentions_30 : decode cX1_mentions 30 = .ok (.if_icmp .eq 11, 3) := by decide +kernel
theorem dX1_mentions_33 : decode cX1_mentions 33 = .ok (.iload_n 2, 1) := by decide +kernel
theorem dX1_mentions_34 : decode cX1_mentions 34 = .ok (.invokestatic 45, 3) := by decide +kernel
theorem dX1_mentions_37 : decode cX1_mentions 37 = .ok (.iload_n 1, 1) := by decide +kernel
theorem dX1_mentions_38 : decode cX1_mentions 38 = .ok (.if_icmp .ne 5, 3) := by decide +kernel
theorem dX1_mentions_41 : decode cX1_mentions 41 = .ok (.iconst 1, 1) := by decide +kernel
theorem dX1_mentions_42 : decode cX1_mentions 42 = .ok (.ireturn, 1) := by decide +kernel
theorem dX1_mentions_43 : decode cX1_mentions 43 = .ok (.iinc 2 1, 3) := by decide +kernel
theorem dX1_mentions_46 : decode cX1_mentions 46 = .ok (.goto (-44), 3) := by decide +kernel
theorem dX1_mentions_49 : decode cX1_mentions 49 = .ok (.iconst 0, 1) := by decide +kernel
theorem dX1_mentions_50 : decode cX1_mentions 50 = .ok (.ireturn, 1) := by decide +kernel
theorem dX1_hasAllRemoved_0 : decode cX1_hasAllRemoved 0 = .ok (.iconst 0, 1) := by decide +kernel
theorem dX1_hasAllRemoved_1 : decode cX1_hasAllRemoved 1 = .ok (.istore_n 3, 1) := by decide +kernel
theorem dX1_hasAllRemoved_2 : decode cX1_hasAllRemoved 2 = .ok (.iload_n 3, 1) := by decide +kernel
theorem dX1_hasAllRemoved_3 : decode cX1_hasAllRemoved 3 = .ok (.bipush 64, 2) := by decide +kernel
theorem dX1_hasAllRemoved_5 : decode cX1_hasAllRemoved 5 = .ok (.if_icmp .ge 48, 3) := by decide +kernel
theorem dX1_hasAllRemoved_8 : decode cX1_hasAllRemoved 8 = .ok (.aload_n 1, 1) := by decide +kernel
theorem dX1_hasAllRemoved_9 : decode cX1_hasAllRemoved 9 = .ok (.getfield 9, 3) := by decide +kernel
theorem dX1_hasAllRemoved_12 : decode cX1_hasAllRemoved 12 = .ok (.iload_n 3, 1) := by decide +kernel
theorem dX1_hasAllRemoved_13 : decode cX1_hasAllRemoved 13 = .ok (.laload, 1) := by decide +kernel
theorem dX1_hasAllRemoved_14 : decode cX1_hasAllRemoved 14 = .ok (.aload_n 2, 1) := by decide +kernel
theorem dX1_hasAllRemoved_15 : decode cX1_hasAllRemoved 15 = .ok (.getfield 9, 3) := by decide +kernel
theorem dX1_hasAllRemoved_18 : decode cX1_hasAllRemoved 18 = .ok (.iload_n 3, 1) := by decide +kernel
theorem dX1_hasAllRemoved_19 : decode cX1_hasAllRemoved 19 = .ok (.laload, 1) := by decide +kernel
theorem dX1_hasAllRemoved_20 : decode cX1_hasAllRemoved 20 = .ok (.ldc2_w 19, 3) := by decide +kernel
theorem dX1_hasAllRemoved_23 : decode cX1_hasAllRemoved 23 = .ok (.lxor, 1) := by decide +kernel
theorem dX1_hasAllRemoved_24 : decode cX1_hasAllRemoved 24 = .ok (.land, 1) := by decide +kernel
theorem dX1_hasAllRemoved_25 : decode cX1_hasAllRemoved 25 = .ok (.lstore 4, 2) := by decide +kernel
theorem dX1_hasAllRemoved_27 : decode cX1_hasAllRemoved 27 = .ok (.lload 4, 2) := by decide +kernel
theorem dX1_hasAllRemoved_29 : decode cX1_hasAllRemoved 29 = .ok (.aload_n 0, 1) := by decide +kernel
theorem dX1_hasAllRemoved_30 : decode cX1_hasAllRemoved 30 = .ok (.getfield 9, 3) := by decide +kernel
theorem dX1_hasAllRemoved_33 : decode cX1_hasAllRemoved 33 = .ok (.iload_n 3, 1) := by decide +kernel
theorem dX1_hasAllRemoved_34 : decode cX1_hasAllRemoved 34 = .ok (.laload, 1) := by decide +kernel
theorem dX1_hasAllRemoved_35 : decode cX1_hasAllRemoved 35 = .ok (.ldc2_w 19, 3) := by decide +kernel
theorem dX1_hasAllRemoved_38 : decode cX1_hasAllRemoved 38 = .ok (.lxor, 1) := by decide +kernel
theorem dX1_hasAllRemoved_39 : decode cX1_hasAllRemoved 39 = .ok (.land, 1) := by decide +kernel
theorem dX1_hasAllRemoved_40 : decode cX1_hasAllRemoved 40 = .ok (.lconst 0, 1) := by decide +kernel
theorem dX1_hasAllRemoved_41 : decode cX1_hasAllRemoved 41 = .ok (.lcmp, 1) := by decide +kernel
theorem dX1_hasAllRemoved_42 : decode cX1_hasAllRemoved 42 = .ok (.ifCond .eq 5, 3) := by decide +kernel
theorem dX1_hasAllRemoved_45 : decode cX1_hasAllRemoved 45 = .ok (.iconst 0, 1) := by decide +kernel
theorem dX1_hasAllRemoved_46 : decode cX1_hasAllRemoved 46 = .ok (.ireturn, 1) := by decide +kernel
theorem dX1_hasAllRemoved_47 : decode cX1_hasAllRemoved 47 = .ok (.iinc 3 1, 3) := by decide +kernel
theorem dX1_hasAllRemoved_50 : decode cX1_hasAllRemoved 50 = .ok (.goto (-48), 3) := by decide +kernel
theorem dX1_hasAllRemoved_53 : decode cX1_hasAllRemoved 53 = .ok (.iconst 1, 1) := by decide +kernel
theorem dX1_hasAllRemoved_54 : decode cX1_hasAllRemoved 54 = .ok (.ireturn, 1) := by decide +kernel
theorem dX1_isSameAs_0 : decode cX1_isSameAs 0 = .ok (.iconst 0, 1) := by decide +kernel
theorem dX1_isSameAs_1 : decode cX1_isSameAs 1 = .ok (.istore_n 2, 1) := by decide +kernel
theorem dX1_isSameAs_2 : decode cX1_isSameAs 2 = .ok (.iload_n 2, 1) := by decide +kernel
theorem dX1_isSameAs_3 : decode cX1_isSameAs 3 = .ok (.bipush 64, 2) := by decide +kernel
theorem dX1_isSameAs_5 : decode cX1_isSameAs 5 = .ok (.if_icmp .ge 27, 3) := by decide +kernel
theorem dX1_isSameAs_8 : decode cX1_isSameAs 8 = .ok (.aload_n 0, 1) := by decide +kernel
theorem dX1_isSameAs_9 : decode cX1_isSameAs 9 = .ok (.getfield 9, 3) := by decide +kernel
theorem dX1_isSameAs_12 : decode cX1_isSameAs 12 = .ok (.iload_n 2, 1) := by decide +kernel
theorem dX1_isSameAs_13 : decode cX1_isSameAs 13 = .ok (.laload, 1) := by decide +kernel
theorem dX1_isSameAs_14 : decode cX1_isSameAs 14 = .ok (.aload_n 1, 1) := by decide +kernel
theorem dX1_isSameAs_15 : decode cX1_isSameAs 15 = .ok (.getfield 9, 3) := by decide +kernel
theorem dX1_isSameAs_18 : decode cX1_isSameAs 18 = .ok (.iload_n 2, 1) := by decide +kernel
theorem dX1_isSameAs_19 : decode cX1_isSameAs 19 = .ok (.laload, 1) := by decide +kernel
theorem dX1_isSameAs_20 : decode cX1_isSameAs 20 = .ok (.lcmp, 1) := by decide +kernel
theorem dX1_isSameAs_21 : decode cX1_isSameAs 21 = .ok (.ifCond .eq 5, 3) := by decide +kernel
theorem dX1_isSameAs_24 : decode cX1_isSameAs 24 = .ok (.iconst 0, 1) := by decide +kernel
theorem dX1_isSameAs_25 : decode cX1_isSameAs 25 = .ok (.ireturn, 1) := by decide +kernel
theorem dX1_isSameAs_26 : decode cX1_isSameAs 26 = .ok (.iinc 2 1, 3) := by decide +kernel
theorem dX1_isSameAs_29 : decode cX1_isSameAs 29 = .ok (.goto (-27), 3) := by decide +kernel
theorem dX1_isSameAs_32 : decode cX1_isSameAs 32 = .ok (.iconst 1, 1) := by decide +kernel
theorem dX1_isSameAs_33 : decode cX1_isSameAs 33 = .ok (.ireturn, 1) := by decide +kernel
set_option maxRecDepth 20000 in
theorem ggX1_tripleAt_J13_bitCount_95d88 : GoodIn wsX1_tripleAt wsJ13_bitCount_95d88 := goodIn_r _ [5, 6, 7, 8] (by decide +kernel) (by decide +kernel)
set_option maxRecDepth 20000 in
theorem gX1_tripleAt_J13_bitCount_95d88 : GoodIn wsX1_tripleAt (va_wsS RX1 48 yJ13_bitCount_95d88 wsJ13_bitCount_95d88) := goodIn_app (goodIn_of _ (by decide +kernel)) ggX1_tripleAt_J13_bitCount_95d88
set_option maxRecDepth 20000 in
theorem ggX1_tripleAt_X1_tripleInWord : GoodIn wsX1_tripleAt wsX1_tripleInWord := goodIn_r _ [13, 14, 15, 16, 12, 17, 1, 18, 19, 20, 21] (by decide +kernel) (by decide +kernel)
set_option maxRecDepth 20000 in
theorem gX1_tripleAt_X1_tripleInWord : GoodIn wsX1_tripleAt (wsV RX1 54 RX1 yX1_tripleInWord wsX1_tripleInWord) := goodIn_app (goodIn_of _ (by decide +kernel)) ggX1_tripleAt_X1_tripleInWord
theorem dX1_tripleAt_0 : decode cX1_tripleAt 0 = .ok (.iload_n 1, 1) := by decide +kernel
theorem dX1_tripleAt_1 : decode cX1_tripleAt 1 = .ok (.istore_n 2, 1) := by decide +kernel
theorem dX1_tripleAt_2 : decode cX1_tripleAt 2 = .ok (.iconst 0, 1) := by decide +kernel
theorem dX1_tripleAt_3 : decode cX1_tripleAt 3 = .ok (.istore_n 3, 1) := by decide +kernel
theorem dX1_tripleAt_4 : decode cX1_tripleAt 4 = .ok (.iload_n 3, 1) := by decide +kernel
theorem dX1_tripleAt_5 : decode cX1_tripleAt 5 = .ok (.bipush 64, 2) := by decide +kernel
theorem dX1_tripleAt_7 : decode cX1_tripleAt 7 = .ok (.if_icmp .ge 42, 3) := by decide +kernel
theorem dX1_tripleAt_10 : decode cX1_tripleAt 10 = .ok (.iload_n 2, 1) := by decide +kernel
theorem dX1_tripleAt_11 : decode cX1_tripleAt 11 = .ok (.ifCond .lt 38, 3) := by decide +kernel
theorem dX1_tripleAt_14 : decode cX1_tripleAt 14 = .ok (.aload_n 0, 1) := by decide +kernel
theorem dX1_tripleAt_15 : decode cX1_tripleAt 15 = .ok (.getfield 9, 3) := by decide +kernel
theorem dX1_tripleAt_18 : decode cX1_tripleAt 18 = .ok (.iload_n 3, 1) := by decide +kernel
theorem dX1_tripleAt_19 : decode cX1_tripleAt 19 = .ok (.laload, 1) := by decide +kernel
theorem dX1_tripleAt_20 : decode cX1_tripleAt 20 = .ok (.invokestatic 48, 3) := by decide +kernel
theorem dX1_tripleAt_23 : decode cX1_tripleAt 23 = .ok (.istore 4, 2) := by decide +kernel
theorem dX1_tripleAt_25 : decode cX1_tripleAt 25 = .ok (.iload_n 2, 1) := by decide +kernel
theorem dX1_tripleAt_26 : decode cX1_tripleAt 26 = .ok (.iload 4, 2) := by decide +kernel
theorem dX1_tripleAt_28 : decode cX1_tripleAt 28 = .ok (.if_icmp .ge 10, 3) := by decide +kernel
theorem dX1_tripleAt_31 : decode cX1_tripleAt 31 = .ok (.aload_n 0, 1) := by decide +kernel
theorem dX1_tripleAt_32 : decode cX1_tripleAt 32 = .ok (.iload_n 3, 1) := by decide +kernel
theorem dX1_tripleAt_33 : decode cX1_tripleAt 33 = .ok (.iload_n 2, 1) := by decide +kernel
theorem dX1_tripleAt_34 : decode cX1_tripleAt 34 = .ok (.invokevirtual 54, 3) := by decide +kernel
theorem dX1_tripleAt_37 : decode cX1_tripleAt 37 = .ok (.ireturn, 1) := by decide +kernel
theorem dX1_tripleAt_38 : decode cX1_tripleAt 38 = .ok (.iload_n 2, 1) := by decide +kernel
theorem dX1_tripleAt_39 : decode cX1_tripleAt 39 = .ok (.iload 4, 2) := by decide +kernel
theorem dX1_tripleAt_41 : decode cX1_tripleAt 41 = .ok (.isub, 1) := by decide +kernel
theorem dX1_tripleAt_42 : decode cX1_tripleAt 42 = .ok (.istore_n 2, 1) := by decide +kernel
theorem dX1_tripleAt_43 : decode cX1_tripleAt 43 = .ok (.iinc 3 1, 3) := by decide +kernel
theorem dX1_tripleAt_46 : decode cX1_tripleAt 46 = .ok (.goto (-42), 3) := by decide +kernel
theorem dX1_tripleAt_49 : decode cX1_tripleAt 49 = .ok (.iconst (-1), 1) := by decide +kernel
theorem dX1_tripleAt_50 : decode cX1_tripleAt 50 = .ok (.ireturn, 1) := by decide +kernel
set_option maxRecDepth 20000 in
theorem ggX1_tripleInWord_X1_has : GoodIn wsX1_tripleInWord wsX1_has := goodIn_r _ [5, 6, 7, 8, 9, 10] (by decide +kernel) (by decide +kernel)
set_option maxRecDepth 20000 in
theorem gX1_tripleInWord_X1_has : GoodIn wsX1_tripleInWord (wsV RX1 27 RX1 yX1_has wsX1_has) := goodIn_app (goodIn_of _ (by decide +kernel)) ggX1_tripleInWord_X1_has
theorem dX1_tripleInWord_0 : decode cX1_tripleInWord 0 = .ok (.iload_n 2, 1) := by decide +kernel
theorem dX1_tripleInWord_1 : decode cX1_tripleInWord 1 = .ok (.istore_n 3, 1) := by decide +kernel
theorem dX1_tripleInWord_2 : decode cX1_tripleInWord 2 = .ok (.bipush 64, 2) := by decide +kernel
theorem dX1_tripleInWord_4 : decode cX1_tripleInWord 4 = .ok (.iload_n 1, 1) := by decide +kernel
theorem dX1_tripleInWord_5 : decode cX1_tripleInWord 5 = .ok (.imul, 1) := by decide +kernel
theorem dX1_tripleInWord_6 : decode cX1_tripleInWord 6 = .ok (.istore 4, 2) := by decide +kernel
theorem dX1_tripleInWord_8 : decode cX1_tripleInWord 8 = .ok (.iload 4, 2) := by decide +kernel
theorem dX1_tripleInWord_10 : decode cX1_tripleInWord 10 = .ok (.bipush 64, 2) := by decide +kernel
theorem dX1_tripleInWord_12 : decode cX1_tripleInWord 12 = .ok (.iload_n 1, 1) := by decide +kernel
theorem dX1_tripleInWord_13 : decode cX1_tripleInWord 13 = .ok (.imul, 1) := by decide +kernel
theorem dX1_tripleInWord_14 : decode cX1_tripleInWord 14 = .ok (.bipush 64, 2) := by decide +kernel
theorem dX1_tripleInWord_16 : decode cX1_tripleInWord 16 = .ok (.iadd, 1) := by decide +kernel
theorem dX1_tripleInWord_17 : decode cX1_tripleInWord 17 = .ok (.if_icmp .ge 28, 3) := by decide +kernel
theorem dX1_tripleInWord_20 : decode cX1_tripleInWord 20 = .ok (.aload_n 0, 1) := by decide +kernel
theorem dX1_tripleInWord_21 : decode cX1_tripleInWord 21 = .ok (.iload 4, 2) := by decide +kernel
theorem dX1_tripleInWord_23 : decode cX1_tripleInWord 23 = .ok (.invokevirtual 27, 3) := by decide +kernel
theorem dX1_tripleInWord_26 : decode cX1_tripleInWord 26 = .ok (.ifCond .eq 13, 3) := by decide +kernel
theorem dX1_tripleInWord_29 : decode cX1_tripleInWord 29 = .ok (.iload_n 3, 1) := by decide +kernel
theorem dX1_tripleInWord_30 : decode cX1_tripleInWord 30 = .ok (.ifCond .ne 6, 3) := by decide +kernel
theorem dX1_tripleInWord_33 : decode cX1_tripleInWord 33 = .ok (.iload 4, 2) := by decide +kernel
theorem dX1_tripleInWord_35 : decode cX1_tripleInWord 35 = .ok (.ireturn, 1) := by decide +kernel
theorem dX1_tripleInWord_36 : decode cX1_tripleInWord 36 = .ok (.iinc 3 (-1), 3) := by decide +kernel
theorem dX1_tripleInWord_39 : decode cX1_tripleInWord 39 = .ok (.iinc 4 1, 3) := by decide +kernel
theorem dX1_tripleInWord_42 : decode cX1_tripleInWord 42 = .ok (.goto (-34), 3) := by decide +kernel
theorem dX1_tripleInWord_45 : decode cX1_tripleInWord 45 = .ok (.iconst (-1), 1) := by decide +kernel
theorem dX1_tripleInWord_46 : decode cX1_tripleInWord 46 = .ok (.ireturn, 1) := by decide +kernel
set_option maxRecDepth 20000 in
theorem ggX1_isCrowded_X1_has : GoodIn wsX1_isCrowded wsX1_has := goodIn_r _ [5, 6, 7, 8, 9, 10] (by decide +kernel) (by decide +kernel)
set_option maxRecDepth 20000 in
theorem gX1_isCrowded_X1_has : GoodIn wsX1_isCrowded (wsV RX1 27 RX1 yX1_has wsX1_has) := goodIn_app (goodIn_of _ (by decide +kernel)) ggX1_isCrowded_X1_has
theorem dX1_isCrowded_0 : decode cX1_isCrowded 0 = .ok (.iload_n 1, 1) := by decide +kernel
theorem dX1_isCrowded_1 : decode cX1_isCrowded 1 = .ok (.bipush 15, 2) := by decide +kernel
theorem dX1_isCrowded_3 : decode cX1_isCrowded 3 = .ok (.iand, 1) := by decide +kernel
theorem dX1_isCrowded_4 : decode cX1_isCrowded 4 = .ok (.bipush 12, 2) := by decide +kernel
theorem dX1_isCrowded_6 : decode cX1_isCrowded 6 = .ok (.if_icmp .ge 5, 3) := by decide +kernel
theorem dX1_isCrowded_9 : decode cX1_isCrowded 9 = .ok (.iconst 0, 1) := by decide +kernel
theorem dX1_isCrowded_10 : decode cX1_isCrowded 10 = .ok (.ireturn, 1) := by decide +kernel
theorem dX1_isCrowded_11 : decode cX1_isCrowded 11 = .ok (.iconst 0, 1) := by decide +kernel
theorem dX1_isCrowded_12 : decode cX1_isCrowded 12 = .ok (.istore_n 2, 1) := by decide +kernel
theorem dX1_isCrowded_13 : decode cX1_isCrowded 13 = .ok (.iconst 0, 1) := by decide +kernel
theorem dX1_isCrowded_14 : decode cX1_isCrowded 14 = .ok (.istore_n 3, 1) := by decide +kernel
theorem dX1_isCrowded_15 : decode cX1_isCrowded 15 = .ok (.iload_n 3, 1) := by decide +kernel
theorem dX1_isCrowded_16 : decode cX1_isCrowded 16 = .ok (.bipush 16, 2) := by decide +kernel
theorem dX1_isCrowded_18 : decode cX1_isCrowded 18 = .ok (.if_icmp .ge 25, 3) := by decide +kernel
theorem dX1_isCrowded_21 : decode cX1_isCrowded 21 = .ok (.aload_n 0, 1) := by decide +kernel
theorem dX1_isCrowded_22 : decode cX1_isCrowded 22 = .ok (.bipush 16, 2) := by decide +kernel
theorem dX1_isCrowded_24 : decode cX1_isCrowded 24 = .ok (.iload_n 1, 1) := by decide +kernel
theorem dX1_isCrowded_25 : decode cX1_isCrowded 25 = .ok (.imul, 1) := by decide +kernel
theorem dX1_isCrowded_26 : decode cX1_isCrowded 26 = .ok (.iload_n 3, 1) := by decide +kernel
theorem dX1_isCrowded_27 : decode cX1_isCrowded 27 = .ok (.iadd, 1) := by decide +kernel
theorem dX1_isCrowded_28 : decode cX1_isCrowded 28 = .ok (.invokevirtual 27, 3) := by decide +kernel
theorem dX1_isCrowded_31 : decode cX1_isCrowded 31 = .ok (.ifCond .eq 6, 3) := by decide +kernel
theorem dX1_isCrowded_34 : decode cX1_isCrowded 34 = .ok (.iinc 2 1, 3) := by decide +kernel
theorem dX1_isCrowded_37 : decode cX1_isCrowded 37 = .ok (.iinc 3 1, 3) := by decide +kernel
theorem dX1_isCrowded_40 : decode cX1_isCrowded 40 = .ok (.goto (-25), 3) := by decide +kernel
theorem dX1_isCrowded_43 : decode cX1_isCrowded 43 = .ok (.iload_n 2, 1) := by decide +kernel
theorem dX1_isCrowded_44 : decode cX1_isCrowded 44 = .ok (.iconst 2, 1) := by decide +kernel
theorem dX1_isCrowded_45 : decode cX1_isCrowded 45 = .ok (.if_icmp .lt 7, 3) := by decide +kernel
theorem dX1_isCrowded_48 : decode cX1_isCrowded 48 = .ok (.iconst 1, 1) := by decide +kernel
theorem dX1_isCrowded_49 : decode cX1_isCrowded 49 = .ok (.goto 4, 3) := by decide +kernel
theorem dX1_isCrowded_52 : decode cX1_isCrowded 52 = .ok (.iconst 0, 1) := by decide +kernel
theorem dX1_isCrowded_53 : decode cX1_isCrowded 53 = .ok (.ireturn, 1) := by decide +kernel
set_option maxRecDepth 20000 in
theorem ggX1_crowdedKeys_X1_isCrowded : GoodIn wsX1_crowdedKeys wsX1_isCrowded := goodIn_r _ [5, 6, 7, 8, 4, 9, 10, 11, 12, 13, 14] (by decide +kernel) (by decide +kernel)
set_option maxRecDepth 20000 in
theorem gX1_crowdedKeys_X1_isCrowded : GoodIn wsX1_crowdedKeys (wsV RX1 58 RX1 yX1_isCrowded wsX1_isCrowded) := goodIn_app (goodIn_of _ (by decide +kernel)) ggX1_crowdedKeys_X1_isCrowded
theorem dX1_crowdedKeys_0 : decode cX1_crowdedKeys 0 = .ok (.iconst 0, 1) := by decide +kernel
theorem dX1_crowdedKeys_1 : decode cX1_crowdedKeys 1 = .ok (.istore_n 1, 1) := by decide +kernel
theorem dX1_crowdedKeys_2 : decode cX1_crowdedKeys 2 = .ok (.iconst 0, 1) := by decide +kernel
theorem dX1_crowdedKeys_3 : decode cX1_crowdedKeys 3 = .ok (.istore_n 2, 1) := by decide +kernel
theorem dX1_crowdedKeys_4 : decode cX1_crowdedKeys 4 = .ok (.iload_n 2, 1) := by decide +kernel
theorem dX1_crowdedKeys_5 : decode cX1_crowdedKeys 5 = .ok (.sipush 256, 3) := by decide +kernel
theorem dX1_crowdedKeys_8 : decode cX1_crowdedKeys 8 = .ok (.if_icmp .ge 20, 3) := by decide +kernel
theorem dX1_crowdedKeys_11 : decode cX1_crowdedKeys 11 = .ok (.aload_n 0, 1) := by decide +kernel
theorem dX1_crowdedKeys_12 : decode cX1_crowdedKeys 12 = .ok (.iload_n 2, 1) := by decide +kernel
theorem dX1_crowdedKeys_13 : decode cX1_crowdedKeys 13 = .ok (.invokevirtual 58, 3) := by decide +kernel
theorem dX1_crowdedKeys_16 : decode cX1_crowdedKeys 16 = .ok (.ifCond .eq 6, 3) := by decide +kernel
theorem dX1_crowdedKeys_19 : decode cX1_crowdedKeys 19 = .ok (.iinc 1 1, 3) := by decide +kernel
theorem dX1_crowdedKeys_22 : decode cX1_crowdedKeys 22 = .ok (.iinc 2 1, 3) := by decide +kernel
theorem dX1_crowdedKeys_25 : decode cX1_crowdedKeys 25 = .ok (.goto (-21), 3) := by decide +kernel
theorem dX1_crowdedKeys_28 : decode cX1_crowdedKeys 28 = .ok (.iload_n 1, 1) := by decide +kernel
theorem dX1_crowdedKeys_29 : decode cX1_crowdedKeys 29 = .ok (.ireturn, 1) := by decide +kernel
set_option maxRecDepth 20000 in
theorem ggX1_crowdedKey_X1_isCrowded : GoodIn wsX1_crowdedKey wsX1_isCrowded := goodIn_r _ [5, 6, 7, 8, 4, 9, 10, 11, 12, 13, 14] (by decide +kernel) (by decide +kernel)
set_option maxRecDepth 20000 in
theorem gX1_crowdedKey_X1_isCrowded : GoodIn wsX1_crowdedKey (wsV RX1 58 RX1 yX1_isCrowded wsX1_isCrowded) := goodIn_app (goodIn_of _ (by decide +kernel)) ggX1_crowdedKey_X1_isCrowded
theorem dX1_crowdedKey_0 : decode cX1_crowdedKey 0 = .ok (.iconst 0, 1) := by decide +kernel
theorem dX1_crowdedKey_1 : decode cX1_crowdedKey 1 = .ok (.istore_n 2, 1) := by decide +kernel
theorem dX1_crowdedKey_2 : decode cX1_crowdedKey 2 = .ok (.iconst 0, 1) := by decide +kernel
theorem dX1_crowdedKey_3 : decode cX1_crowdedKey 3 = .ok (.istore_n 3, 1) := by decide +kernel
theorem dX1_crowdedKey_4 : decode cX1_crowdedKey 4 = .ok (.iload_n 3, 1) := by decide +kernel
theorem dX1_crowdedKey_5 : decode cX1_crowdedKey 5 = .ok (.sipush 256, 3) := by decide +kernel
theorem dX1_crowdedKey_8 : decode cX1_crowdedKey 8 = .ok (.if_icmp .ge 27, 3) := by decide +kernel
theorem dX1_crowdedKey_11 : decode cX1_crowdedKey 11 = .ok (.aload_n 0, 1) := by decide +kernel
theorem dX1_crowdedKey_12 : decode cX1_crowdedKey 12 = .ok (.iload_n 3, 1) := by decide +kernel
theorem dX1_crowdedKey_13 : decode cX1_crowdedKey 13 = .ok (.invokevirtual 58, 3) := by decide +kernel
theorem dX1_crowdedKey_16 : decode cX1_crowdedKey 16 = .ok (.ifCond .eq 13, 3) := by decide +kernel
theorem dX1_crowdedKey_19 : decode cX1_crowdedKey 19 = .ok (.iload_n 2, 1) := by decide +kernel
theorem dX1_crowdedKey_20 : decode cX1_crowdedKey 20 = .ok (.iload_n 1, 1) := by decide +kernel
theorem dX1_crowdedKey_21 : decode cX1_crowdedKey 21 = .ok (.if_icmp .ne 5, 3) := by decide +kernel
theorem dX1_crowdedKey_24 : decode cX1_crowdedKey 24 = .ok (.iload_n 3, 1) := by decide +kernel
theorem dX1_crowdedKey_25 : decode cX1_crowdedKey 25 = .ok (.ireturn, 1) := by decide +kernel
theorem dX1_crowdedKey_26 : decode cX1_crowdedKey 26 = .ok (.iinc 2 1, 3) := by decide +kernel
theorem dX1_crowdedKey_29 : decode cX1_crowdedKey 29 = .ok (.iinc 3 1, 3) := by decide +kernel
theorem dX1_crowdedKey_32 : decode cX1_crowdedKey 32 = .ok (.goto (-28), 3) := by decide +kernel
theorem dX1_crowdedKey_35 : decode cX1_crowdedKey 35 = .ok (.iconst (-1), 1) := by decide +kernel
theorem dX1_crowdedKey_36 : decode cX1_crowdedKey 36 = .ok (.ireturn, 1) := by decide +kernel
set_option maxRecDepth 20000 in
theorem ggX1_leastOfKey_X1_has : GoodIn wsX1_leastOfKey wsX1_has := goodIn_r _ [5, 6, 7, 8, 9, 10] (by decide +kernel) (by decide +kernel)
set_option maxRecDepth 20000 in
theorem gX1_leastOfKey_X1_has : GoodIn wsX1_leastOfKey (wsV RX1 27 RX1 yX1_has wsX1_has) := goodIn_app (goodIn_of _ (by decide +kernel)) ggX1_leastOfKey_X1_has
theorem dX1_leastOfKey_0 : decode cX1_leastOfKey 0 = .ok (.iconst 0, 1) := by decide +kernel
theorem dX1_leastOfKey_1 : decode cX1_leastOfKey 1 = .ok (.istore_n 2, 1) := by decide +kernel
theorem dX1_leastOfKey_2 : decode cX1_leastOfKey 2 = .ok (.iload_n 2, 1) := by decide +kernel
theorem dX1_leastOfKey_3 : decode cX1_leastOfKey 3 = .ok (.bipush 16, 2) := by decide +kernel
theorem dX1_leastOfKey_5 : decode cX1_leastOfKey 5 = .ok (.if_icmp .ge 29, 3) := by decide +kernel
theorem dX1_leastOfKey_8 : decode cX1_leastOfKey 8 = .ok (.aload_n 0, 1) := by decide +kernel
theorem dX1_leastOfKey_9 : decode cX1_leastOfKey 9 = .ok (.bipush 16, 2) := by decide +kernel
theorem dX1_leastOfKey_11 : decode cX1_leastOfKey 11 = .ok (.iload_n 1, 1) := by decide +kernel
theorem dX1_leastOfKey_12 : decode cX1_leastOfKey 12 = .ok (.imul, 1) := by decide +kernel
theorem dX1_leastOfKey_13 : decode cX1_leastOfKey 13 = .ok (.iload_n 2, 1) := by decide +kernel
theorem dX1_leastOfKey_14 : decode cX1_leastOfKey 14 = .ok (.iadd, 1) := by decide +kernel
theorem dX1_leastOfKey_15 : decode cX1_leastOfKey 15 = .ok (.invokevirtual 27, 3) := by decide +kernel
theorem dX1_leastOfKey_18 : decode cX1_leastOfKey 18 = .ok (.ifCond .eq 10, 3) := by decide +kernel
theorem dX1_leastOfKey_21 : decode cX1_leastOfKey 21 = .ok (.bipush 16, 2) := by decide +kernel
theorem dX1_leastOfKey_23 : decode cX1_leastOfKey 23 = .ok (.iload_n 1, 1) := by decide +kernel
theorem dX1_leastOfKey_24 : decode cX1_leastOfKey 24 = .ok (.imul, 1) := by decide +kernel
theorem dX1_leastOfKey_25 : decode cX1_leastOfKey 25 = .ok (.iload_n 2, 1) := by decide +kernel
theorem dX1_leastOfKey_26 : decode cX1_leastOfKey 26 = .ok (.iadd, 1) := by decide +kernel
theorem dX1_leastOfKey_27 : decode cX1_leastOfKey 27 = .ok (.ireturn, 1) := by decide +kernel
theorem dX1_leastOfKey_28 : decode cX1_leastOfKey 28 = .ok (.iinc 2 1, 3) := by decide +kernel
theorem dX1_leastOfKey_31 : decode cX1_leastOfKey 31 = .ok (.goto (-29), 3) := by decide +kernel
theorem dX1_leastOfKey_34 : decode cX1_leastOfKey 34 = .ok (.iconst (-1), 1) := by decide +kernel
theorem dX1_leastOfKey_35 : decode cX1_leastOfKey 35 = .ok (.ireturn, 1) := by decide +kernel
set_option maxRecDepth 20000 in
theorem ggX1_greatestOfKey_X1_has : GoodIn wsX1_greatestOfKey wsX1_has := goodIn_r _ [5, 6, 7, 8, 9, 10] (by decide +kernel) (by decide +kernel)
set_option maxRecDepth 20000 in
theorem gX1_greatestOfKey_X1_has : GoodIn wsX1_greatestOfKey (wsV RX1 27 RX1 yX1_has wsX1_has) := goodIn_app (goodIn_of _ (by decide +kernel)) ggX1_greatestOfKey_X1_has
theorem dX1_greatestOfKey_0 : decode cX1_greatestOfKey 0 = .ok (.bipush 15, 2) := by decide +kernel
theorem dX1_greatestOfKey_2 : decode cX1_greatestOfKey 2 = .ok (.istore_n 2, 1) := by decide +kernel
theorem dX1_greatestOfKey_3 : decode cX1_greatestOfKey 3 = .ok (.iload_n 2, 1) := by decide +kernel
theorem dX1_greatestOfKey_4 : decode cX1_greatestOfKey 4 = .ok (.ifCond .lt 29, 3) := by decide +kernel
theorem dX1_greatestOfKey_7 : decode cX1_greatestOfKey 7 = .ok (.aload_n 0, 1) := by decide +kernel
theorem dX1_greatestOfKey_8 : decode cX1_greatestOfKey 8 = .ok (.bipush 16, 2) := by decide +kernel
theorem dX1_greatestOfKey_10 : decode cX1_greatestOfKey 10 = .ok (.iload_n 1, 1) := by decide +kernel
theorem dX1_greatestOfKey_11 : decode cX1_greatestOfKey 11 = .ok (.imul, 1) := by decide +kernel
theorem dX1_greatestOfKey_12 : decode cX1_greatestOfKey 12 = .ok (.iload_n 2, 1) := by decide +kernel
theorem dX1_greatestOfKey_13 : decode cX1_greatestOfKey 13 = .ok (.iadd, 1) := by decide +kernel
theorem dX1_greatestOfKey_14 : decode cX1_greatestOfKey 14 = .ok (.invokevirtual 27, 3) := by decide +kernel
theorem dX1_greatestOfKey_17 : decode cX1_greatestOfKey 17 = .ok (.ifCond .eq 10, 3) := by decide +kernel
theorem dX1_greatestOfKey_20 : decode cX1_greatestOfKey 20 = .ok (.bipush 16, 2) := by decide +kernel
theorem dX1_greatestOfKey_22 : decode cX1_greatestOfKey 22 = .ok (.iload_n 1, 1) := by decide +kernel
theorem dX1_greatestOfKey_23 : decode cX1_greatestOfKey 23 = .ok (.imul, 1) := by decide +kernel
theorem dX1_greatestOfKey_24 : decode cX1_greatestOfKey 24 = .ok (.iload_n 2, 1) := by decide +kernel
theorem dX1_greatestOfKey_25 : decode cX1_greatestOfKey 25 = .ok (.iadd, 1) := by decide +kernel
theorem dX1_greatestOfKey_26 : decode cX1_greatestOfKey 26 = .ok (.ireturn, 1) := by decide +kernel
theorem dX1_greatestOfKey_27 : decode cX1_greatestOfKey 27 = .ok (.iinc 2 (-1), 3) := by decide +kernel
theorem dX1_greatestOfKey_30 : decode cX1_greatestOfKey 30 = .ok (.goto (-27), 3) := by decide +kernel
theorem dX1_greatestOfKey_33 : decode cX1_greatestOfKey 33 = .ok (.iconst (-1), 1) := by decide +kernel
theorem dX1_greatestOfKey_34 : decode cX1_greatestOfKey 34 = .ok (.ireturn, 1) := by decide +kernel
set_option maxRecDepth 20000 in
theorem ggX2_init_X1_init : GoodIn wsX2_init wsX1_init := goodIn_r _ [14, 15, 2, 3, 16, 17, 30] (by decide +kernel) (by decide +kernel)
set_option maxRecDepth 20000 in
theorem gX2_init_X1_init_n11 : GoodIn wsX2_init (wsX1_init) := ggX2_init_X1_init
set_option maxRecDepth 20000 in
theorem ggX2_init_X1_becomeCopy : GoodIn wsX2_init wsX1_becomeCopy := goodIn_r _ [20, 17, 21, 22, 23, 24, 30] (by decide +kernel) (by decide +kernel)
set_option maxRecDepth 20000 in
theorem gX2_init_X1_becomeCopy_n33 : GoodIn wsX2_init (wsX1_becomeCopy) := ggX2_init_X1_becomeCopy
set_option maxRecDepth 20000 in
theorem ggX2_init_X2_takeAncestors : GoodIn wsX2_init wsX2_takeAncestors := goodIn_r _ [29, 9, 31, 32, 33, 34, 35] (by decide +kernel) (by decide +kernel)
set_option maxRecDepth 20000 in
theorem gX2_init_X2_takeAncestors : GoodIn wsX2_init (wsV RX2 37 RX2 yX2_takeAncestors wsX2_takeAncestors) := goodIn_app (goodIn_of _ (by decide +kernel)) ggX2_init_X2_takeAncestors
theorem dX2_init_0 : decode cX2_init 0 = .ok (.aload_n 0, 1) := by decide +kernel
theorem dX2_init_1 : decode cX2_init 1 = .ok (.invokespecial 3, 3) := by decide +kernel
theorem dX2_init_4 : decode cX2_init 4 = .ok (.aload_n 0, 1) := by decide +kernel
theorem dX2_init_5 : decode cX2_init 5 = .ok (.new 9, 3) := by decide +kernel
theorem dX2_init_8 : decode cX2_init 8 = .ok (.dup, 1) := by decide +kernel
theorem dX2_init_9 : decode cX2_init 9 = .ok (.invokespecial 11, 3) := by decide +kernel
theorem dX2_init_12 : decode cX2_init 12 = .ok (.putfield 12, 3) := by decide +kernel
theorem dX2_init_15 : decode cX2_init 15 = .ok (.aload_n 0, 1) := by decide +kernel
theorem dX2_init_16 : decode cX2_init 16 = .ok (.sipush 400, 3) := by decide +kernel
theorem dX2_init_19 : decode cX2_init 19 = .ok (.newarray .boolean, 2) := by decide +kernel
theorem dX2_init_21 : decode cX2_init 21 = .ok (.putfield 18, 3) := by decide +kernel
theorem dX2_init_24 : decode cX2_init 24 = .ok (.aload_n 0, 1) := by decide +kernel
theorem dX2_init_25 : decode cX2_init 25 = .ok (.iload_n 1, 1) := by decide +kernel
theorem dX2_init_26 : decode cX2_init 26 = .ok (.putfield 22, 3) := by decide +kernel
theorem dX2_init_29 : decode cX2_init 29 = .ok (.aload_n 0, 1) := by decide +kernel
theorem dX2_init_30 : decode cX2_init 30 = .ok (.aload_n 2, 1) := by decide +kernel
theorem dX2_init_31 : decode cX2_init 31 = .ok (.putfield 26, 3) := by decide +kernel
theorem dX2_init_34 : decode cX2_init 34 = .ok (.aload_n 0, 1) := by decide +kernel
theorem dX2_init_35 : decode cX2_init 35 = .ok (.aload_n 3, 1) := by decide +kernel
theorem dX2_init_36 : decode cX2_init 36 = .ok (.putfield 30, 3) := by decide +kernel
theorem dX2_init_39 : decode cX2_init 39 = .ok (.aload_n 0, 1) := by decide +kernel
theorem dX2_init_40 : decode cX2_init 40 = .ok (.getfield 12, 3) := by decide +kernel
theorem dX2_init_43 : decode cX2_init 43 = .ok (.aload 4, 2) := by decide +kernel
theorem dX2_init_45 : decode cX2_init 45 = .ok (.invokevirtual 33, 3) := by decide +kernel
theorem dX2_init_48 : decode cX2_init 48 = .ok (.aload_n 0, 1) := by decide +kernel
theorem dX2_init_49 : decode cX2_init 49 = .ok (.aload_n 2, 1) := by decide +kernel
theorem dX2_init_50 : decode cX2_init 50 = .ok (.invokevirtual 37, 3) := by decide +kernel
theorem dX2_init_53 : decode cX2_init 53 = .ok (.aload_n 0, 1) := by decide +kernel
theorem dX2_init_54 : decode cX2_init 54 = .ok (.aload_n 3, 1) := by decide +kernel
theorem dX2_init_55 : decode cX2_init 55 = .ok (.invokevirtual 37, 3) := by decide +kernel
theorem dX2_init_58 : decode cX2_init 58 = .ok (.iload_n 1, 1) := by decide +kernel
theorem dX2_init_59 : decode cX2_init 59 = .ok (.ifCond .lt 17, 3) := by decide +kernel
theorem dX2_init_62 : decode cX2_init 62 = .ok (.iload_n 1, 1) := by decide +kernel
theorem dX2_init_63 : decode cX2_init 63 = .ok (.sipush 400, 3) := by decide +kernel
theorem dX2_init_66 : decode cX2_init 66 = .ok (.if_icmp .ge 10, 3) := by decide +kernel
theorem dX2_init_69 : decode cX2_init 69 = .ok (.aload_n 0, 1) := by decide +kernel
theorem dX2_init_70 : decode cX2_init 70 = .ok (.getfield 18, 3) := by decide +kernel
theorem dX2_init_73 : decode cX2_init 73 = .ok (.iload_n 1, 1) := by decide +kernel
theorem dX2_init_74 : decode cX2_init 74 = .ok (.iconst 1, 1) := by decide +kernel
theorem dX2_init_75 : decode cX2_init 75 = .ok (.bastore, 1) := by decide +kernel
theorem dX2_init_76 : decode cX2_init 76 = .ok (.return_, 1) := by decide +kernel
theorem dX2_takeAncestors_0 : decode cX2_takeAncestors 0 = .ok (.aload_n 1, 1) := by decide +kernel
theorem dX2_takeAncestors_1 : decode cX2_takeAncestors 1 = .ok (.ifnonnull 4, 3) := by decide +kernel
theorem dX2_takeAncestors_4 : decode cX2_takeAncestors 4 = .ok (.return_, 1) := by decide +kernel
theorem dX2_takeAncestors_5 : decode cX2_takeAncestors 5 = .ok (.iconst 0, 1) := by decide +kernel
theorem dX2_takeAncestors_6 : decode cX2_takeAncestors 6 = .ok (.istore_n 2, 1) := by decide +kernel
theorem dX2_takeAncestors_7 : decode cX2_takeAncestors 7 = .ok (.iload_n 2, 1) := by decide +kernel
theorem dX2_takeAncestors_8 : decode cX2_takeAncestors 8 = .ok (.sipush 400, 3) := by decide +kernel
theorem dX2_takeAncestors_11 : decode cX2_takeAncestors 11 = .ok (.if_icmp .ge 25, 3) := by decide +kernel
theorem dX2_takeAncestors_14 : decode cX2_takeAncestors 14 = .ok (.aload_n 1, 1) := by decide +kernel
theorem dX2_takeAncestors_15 : decode cX2_takeAncestors 15 = .ok (.getfield 18, 3) := by decide +kernel
theorem dX2_takeAncestors_18 : decode cX2_takeAncestors 18 = .ok (.iload_n 2, 1) := by decide +kernel
theorem dX2_takeAncestors_19 : decode cX2_takeAncestors 19 = .ok (.baload, 1) := by decide +kernel
theorem dX2_takeAncestors_20 : decode cX2_takeAncestors 20 = .ok (.ifCond .eq 10, 3) := by decide +kernel
theorem dX2_takeAncestors_23 : decode cX2_takeAncestors 23 = .ok (.aload_n 0, 1) := by decide +kernel
theorem dX2_takeAncestors_24 : decode cX2_takeAncestors 24 = .ok (.getfield 18, 3) := by decide +kernel
theorem dX2_takeAncestors_27 : decode cX2_takeAncestors 27 = .ok (.iload_n 2, 1) := by decide +kernel
theorem dX2_takeAncestors_28 : decode cX2_takeAncestors 28 = .ok (.iconst 1, 1) := by decide +kernel
theorem dX2_takeAncestors_29 : decode cX2_takeAncestors 29 = .ok (.bastore, 1) := by decide +kernel
theorem dX2_takeAncestors_30 : decode cX2_takeAncestors 30 = .ok (.iinc 2 1, 3) := by decide +kernel
theorem dX2_takeAncestors_33 : decode cX2_takeAncestors 33 = .ok (.goto (-26), 3) := by decide +kernel
theorem dX2_takeAncestors_36 : decode cX2_takeAncestors 36 = .ok (.return_, 1) := by decide +kernel
theorem dX2_hasAncestor_0 : decode cX2_hasAncestor 0 = .ok (.iload_n 1, 1) := by decide +kernel
theorem dX2_hasAncestor_1 : decode cX2_hasAncestor 1 = .ok (.ifCond .lt 23, 3) := by decide +kernel
theorem dX2_hasAncestor_4 : decode cX2_hasAncestor 4 = .ok (.iload_n 1, 1) := by decide +kernel
theorem dX2_hasAncestor_5 : decode cX2_hasAncestor 5 = .ok (.sipush 400, 3) := by decide +kernel
theorem dX2_hasAncestor_8 : decode cX2_hasAncestor 8 = .ok (.if_icmp .ge 16, 3) := by decide +kernel
theorem dX2_hasAncestor_11 : decode cX2_hasAncestor 11 = .ok (.aload_n 0, 1) := by decide +kernel
theorem dX2_hasAncestor_12 : decode cX2_hasAncestor 12 = .ok (.getfield 18, 3) := by decide +kernel
theorem dX2_hasAncestor_15 : decode cX2_hasAncestor 15 = .ok (.iload_n 1, 1) := by decide +kernel
theorem dX2_hasAncestor_16 : decode cX2_hasAncestor 16 = .ok (.baload, 1) := by decide +kernel
theorem dX2_hasAncestor_17 : decode cX2_hasAncestor 17 = .ok (.ifCond .eq 7, 3) := by decide +kernel
theorem dX2_hasAncestor_20 : decode cX2_hasAncestor 20 = .ok (.iconst 1, 1) := by decide +kernel
theorem dX2_hasAncestor_21 : decode cX2_hasAncestor 21 = .ok (.goto 4, 3) := by decide +kernel
theorem dX2_hasAncestor_24 : decode cX2_hasAncestor 24 = .ok (.iconst 0, 1) := by decide +kernel
theorem dX2_hasAncestor_25 : decode cX2_hasAncestor 25 = .ok (.ireturn, 1) := by decide +kernel
set_option maxRecDepth 20000 in
theorem ggX3_init_X1_init : GoodIn wsX3_init wsX1_init := goodIn_r _ [15, 16, 2, 3, 17, 18, 66] (by decide +kernel) (by decide +kernel)
set_option maxRecDepth 20000 in
theorem gX3_init_X1_init_n23 : GoodIn wsX3_init (wsX1_init) := ggX3_init_X1_init
set_option maxRecDepth 20000 in
theorem ggX3_init_X3_addVersion : GoodIn wsX3_init wsX3_addVersion := goodIn_r _ [23, 24, 4, 25, 26, 5, 27, 28, 29, 2, 3, 30, 9, 10, 31, 32, 33, 34, 35, 36, 14, 15, 16, 17, 18, 37, 38, 39, 40, 41, 42, 43, 44, 45, 46, 47, 59, 60, 61, 62, 63, 64, 65, 67, 68, 69, 70, 71, 66] (by decide +kernel) (by decide +kernel)
set_option maxRecDepth 20000 in
theorem gX3_init_X3_addVersion : GoodIn wsX3_init (wsV RX3 34 RX3 yX3_addVersion wsX3_addVersion) := goodIn_app (goodIn_of _ (by decide +kernel)) ggX3_init_X3_addVersion
set_option maxRecDepth 20000 in
theorem ggX3_init_X3_addBranch : GoodIn wsX3_init wsX3_addBranch := goodIn_r _ [51, 52, 7, 6, 53, 54, 55, 56, 57, 2, 3, 58, 59, 60, 61, 62, 63, 64, 65, 72] (by decide +kernel) (by decide +kernel)
set_option maxRecDepth 20000 in
theorem gX3_init_X3_addBranch : GoodIn wsX3_init (wsV RX3 38 RX3 yX3_addBranch wsX3_addBranch) := goodIn_app (goodIn_of _ (by decide +kernel)) ggX3_init_X3_addBranch
theorem dX3_init_0 : decode cX3_init 0 = .ok (.aload_n 0, 1) := by decide +kernel
theorem dX3_init_1 : decode cX3_init 1 = .ok (.invokespecial 1, 3) := by decide +kernel
theorem dX3_init_4 : decode cX3_init 4 = .ok (.aload_n 0, 1) := by decide +kernel
theorem dX3_init_5 : decode cX3_init 5 = .ok (.sipush 400, 3) := by decide +kernel
theorem dX3_init_8 : decode cX3_init 8 = .ok (.anewarray 9, 3) := by decide +kernel
theorem dX3_init_11 : decode cX3_init 11 = .ok (.putfield 11, 3) := by decide +kernel
theorem dX3_init_14 : decode cX3_init 14 = .ok (.aload_n 0, 1) := by decide +kernel
theorem dX3_init_15 : decode cX3_init 15 = .ok (.bipush 40, 2) := by decide +kernel
theorem dX3_init_17 : decode cX3_init 17 = .ok (.anewarray 15, 3) := by decide +kernel
theorem dX3_init_20 : decode cX3_init 20 = .ok (.putfield 17, 3) := by decide +kernel
theorem dX3_init_23 : decode cX3_init 23 = .ok (.aload_n 0, 1) := by decide +kernel
theorem dX3_init_24 : decode cX3_init 24 = .ok (.new 21, 3) := by decide +kernel
theorem dX3_init_27 : decode cX3_init 27 = .ok (.dup, 1) := by decide +kernel
theorem dX3_init_28 : decode cX3_init 28 = .ok (.invokespecial 23, 3) := by decide +kernel
theorem dX3_init_31 : decode cX3_init 31 = .ok (.putfield 24, 3) := by decide +kernel
theorem dX3_init_34 : decode cX3_init 34 = .ok (.aload_n 0, 1) := by decide +kernel
theorem dX3_init_35 : decode cX3_init 35 = .ok (.new 21, 3) := by decide +kernel
theorem dX3_init_38 : decode cX3_init 38 = .ok (.dup, 1) := by decide +kernel
theorem dX3_init_39 : decode cX3_init 39 = .ok (.invokespecial 23, 3) := by decide +kernel
theorem dX3_init_42 : decode cX3_init 42 = .ok (.putfield 28, 3) := by decide +kernel
theorem dX3_init_45 : decode cX3_init 45 = .ok (.aload_n 0, 1) := by decide +kernel
theorem dX3_init_46 : decode cX3_init 46 = .ok (.new 21, 3) := by decide +kernel
theorem dX3_init_49 : decode cX3_init 49 = .ok (.dup, 1) := by decide +kernel
theorem dX3_init_50 : decode cX3_init 50 = .ok (.invokespecial 23, 3) := by decide +kernel
theorem dX3_init_53 : decode cX3_init 53 = .ok (.putfield 31, 3) := by decide +kernel
theorem dX3_init_56 : decode cX3_init 56 = .ok (.aload_n 0, 1) := by decide +kernel
theorem dX3_init_57 : decode cX3_init 57 = .ok (.aload_n 0, 1) := by decide +kernel
theorem dX3_init_58 : decode cX3_init 58 = .ok (.aconst_null, 1) := by decide +kernel
theorem dX3_init_59 : decode cX3_init 59 = .ok (.aconst_null, 1) := by decide +kernel
theorem dX3_init_60 : decode cX3_init 60 = .ok (.aload_n 0, 1) := by decide +kernel
theorem dX3_init_61 : decode cX3_init 61 = .ok (.getfield 24, 3) := by decide +kernel
theorem dX3_init_64 : decode cX3_init 64 = .ok (.invokevirtual 34, 3) := by decide +kernel
theorem dX3_init_67 : decode cX3_init 67 = .ok (.invokevirtual 38, 3) := by decide +kernel
theorem dX3_init_70 : decode cX3_init 70 = .ok (.pop, 1) := by decide +kernel
theorem dX3_init_71 : decode cX3_init 71 = .ok (.return_, 1) := by decide +kernel
set_option maxRecDepth 20000 in
theorem ggX3_branch_X3_branchAt : GoodIn wsX3_branch wsX3_branchAt := goodIn_r _ [7, 1, 8, 59, 60, 61, 62, 63, 64, 65] (by decide +kernel) (by decide +kernel)
set_option maxRecDepth 20000 in
theorem gX3_branch_X3_branchAt : GoodIn wsX3_branch (wsV RX3 42 RX3 yX3_branchAt wsX3_branchAt) := goodIn_app (goodIn_of _ (by decide +kernel)) ggX3_branch_X3_branchAt
set_option maxRecDepth 20000 in
theorem ggX3_branch_X3_addVersion : GoodIn wsX3_branch wsX3_addVersion := goodIn_r _ [12, 13, 14, 15, 16, 17, 18, 19, 20, 21, 22, 23, 24, 25, 26, 27, 28, 29, 30, 31, 32, 33, 34, 35, 36, 37, 38, 39, 40, 41, 42, 43, 44, 45, 46, 47, 59, 60, 61, 62, 63, 64, 65, 67, 68, 69, 70, 71, 72] (by decide +kernel) (by decide +kernel)
set_option maxRecDepth 20000 in
theorem gX3_branch_X3_addVersion : GoodIn wsX3_branch (wsV RX3 34 RX3 yX3_addVersion wsX3_addVersion) := goodIn_app (goodIn_of _ (by decide +kernel)) ggX3_branch_X3_addVersion
set_option maxRecDepth 20000 in
theorem ggX3_branch_X3_addBranch : GoodIn wsX3_branch wsX3_addBranch := goodIn_r _ [51, 1, 8, 52, 53, 54, 55, 56, 57, 21, 22, 58, 59, 60, 61, 62, 63, 64, 65, 66] (by decide +kernel) (by decide +kernel)
set_option maxRecDepth 20000 in
theorem gX3_branch_X3_addBranch : GoodIn wsX3_branch (wsV RX3 38 RX3 yX3_addBranch wsX3_addBranch) := goodIn_app (goodIn_of _ (by decide +kernel)) ggX3_branch_X3_addBranch
theorem dX3_branch_0 : decode cX3_branch 0 = .ok (.aload_n 0, 1) := by decide +kernel
theorem dX3_branch_1 : decode cX3_branch 1 = .ok (.iload_n 1, 1) := by decide +kernel
theorem dX3_branch_2 : decode cX3_branch 2 = .ok (.invokevirtual 42, 3) := by decide +kernel
theorem dX3_branch_5 : decode cX3_branch 5 = .ok (.astore_n 2, 1) := by decide +kernel
theorem dX3_branch_6 : decode cX3_branch 6 = .ok (.aload_n 2, 1) := by decide +kernel
theorem dX3_branch_7 : decode cX3_branch 7 = .ok (.ifnonnull 10, 3) := by decide +kernel
theorem dX3_branch_10 : decode cX3_branch 10 = .ok (.iload_n 1, 1) := by decide +kernel
theorem dX3_branch_11 : decode cX3_branch 11 = .ok (.iconst (-1), 1) := by decide +kernel
theorem dX3_branch_12 : decode cX3_branch 12 = .ok (.if_icmp .eq 5, 3) := by decide +kernel
theorem dX3_branch_15 : decode cX3_branch 15 = .ok (.iconst (-1), 1) := by decide +kernel
theorem dX3_branch_16 : decode cX3_branch 16 = .ok (.ireturn, 1) := by decide +kernel
theorem dX3_branch_17 : decode cX3_branch 17 = .ok (.aload_n 0, 1) := by decide +kernel
theorem dX3_branch_18 : decode cX3_branch 18 = .ok (.getfield 46, 3) := by decide +kernel
theorem dX3_branch_21 : decode cX3_branch 21 = .ok (.bipush 40, 2) := by decide +kernel
theorem dX3_branch_23 : decode cX3_branch 23 = .ok (.if_icmp .lt 6, 3) := by decide +kernel
theorem dX3_branch_26 : decode cX3_branch 26 = .ok (.bipush (-4), 2) := by decide +kernel
theorem dX3_branch_28 : decode cX3_branch 28 = .ok (.ireturn, 1) := by decide +kernel
theorem dX3_branch_29 : decode cX3_branch 29 = .ok (.aload_n 0, 1) := by decide +kernel
theorem dX3_branch_30 : decode cX3_branch 30 = .ok (.aload_n 2, 1) := by decide +kernel
theorem dX3_branch_31 : decode cX3_branch 31 = .ok (.ifnonnull 16, 3) := by decide +kernel
theorem dX3_branch_34 : decode cX3_branch 34 = .ok (.aload_n 0, 1) := by decide +kernel
theorem dX3_branch_35 : decode cX3_branch 35 = .ok (.aconst_null, 1) := by decide +kernel
theorem dX3_branch_36 : decode cX3_branch 36 = .ok (.aconst_null, 1) := by decide +kernel
theorem dX3_branch_37 : decode cX3_branch 37 = .ok (.aload_n 0, 1) := by decide +kernel
theorem dX3_branch_38 : decode cX3_branch 38 = .ok (.getfield 24, 3) := by decide +kernel
theorem dX3_branch_41 : decode cX3_branch 41 = .ok (.invokevirtual 34, 3) := by decide +kernel
theorem dX3_branch_44 : decode cX3_branch 44 = .ok (.goto 7, 3) := by decide +kernel
theorem dX3_branch_47 : decode cX3_branch 47 = .ok (.aload_n 2, 1) := by decide +kernel
theorem dX3_branch_48 : decode cX3_branch 48 = .ok (.getfield 50, 3) := by decide +kernel
theorem dX3_branch_51 : decode cX3_branch 51 = .ok (.invokevirtual 38, 3) := by decide +kernel
theorem dX3_branch_54 : decode cX3_branch 54 = .ok (.ireturn, 1) := by decide +kernel
set_option maxRecDepth 20000 in
theorem ggX3_put_X3_branchAt : GoodIn wsX3_put wsX3_branchAt := goodIn_r _ [6, 7, 8, 68, 69, 70, 71, 72, 73, 74] (by decide +kernel) (by decide +kernel)
set_option maxRecDepth 20000 in
theorem gX3_put_X3_branchAt : GoodIn wsX3_put (wsV RX3 42 RX3 yX3_branchAt wsX3_branchAt) := goodIn_app (goodIn_of _ (by decide +kernel)) ggX3_put_X3_branchAt
set_option maxRecDepth 20000 in
theorem ggX3_put_X3_isTriple : GoodIn wsX3_put wsX3_isTriple := goodIn_r _ [11] (by decide +kernel) (by decide +kernel)
set_option maxRecDepth 20000 in
theorem gX3_put_X3_isTriple : GoodIn wsX3_put (va_wsS RX3 54 yX3_isTriple wsX3_isTriple) := goodIn_app (goodIn_of _ (by decide +kernel)) ggX3_put_X3_isTriple
set_option maxRecDepth 20000 in
theorem ggX3_put_X1_has : GoodIn wsX3_put wsX1_has := goodIn_r _ [15, 16, 10, 5, 11, 75] (by decide +kernel) (by decide +kernel)
set_option maxRecDepth 20000 in
theorem gX3_put_X1_has_n61 : GoodIn wsX3_put (wsX1_has) := ggX3_put_X1_has
set_option maxRecDepth 20000 in
theorem ggX3_put_X1_becomeCopy : GoodIn wsX3_put wsX1_becomeCopy := goodIn_r _ [19, 16, 20, 21, 22, 23, 75] (by decide +kernel) (by decide +kernel)
set_option maxRecDepth 20000 in
theorem gX3_put_X1_becomeCopy_n64 : GoodIn wsX3_put (wsX1_becomeCopy) := ggX3_put_X1_becomeCopy
set_option maxRecDepth 20000 in
theorem ggX3_put_X1_change : GoodIn wsX3_put wsX1_change := goodIn_r _ [26, 16, 27, 10, 5, 11, 75] (by decide +kernel) (by decide +kernel)
set_option maxRecDepth 20000 in
theorem gX3_put_X1_change_n68 : GoodIn wsX3_put (wsX1_change) := ggX3_put_X1_change
set_option maxRecDepth 20000 in
theorem ggX3_put_X3_advance : GoodIn wsX3_put wsX3_advance := goodIn_r _ [31, 32, 33, 34, 5, 35, 36, 37, 38, 39, 40, 41, 42, 43, 44, 45, 46, 47, 13, 48, 49, 50, 51, 52, 53, 54, 55, 56, 57, 16, 17, 18, 19, 20, 21, 22, 23, 58, 59, 60, 61, 62, 63, 64, 65, 66, 67, 68, 69, 70, 71, 72, 73, 74, 75] (by decide +kernel) (by decide +kernel)
set_option maxRecDepth 20000 in
theorem gX3_put_X3_advance : GoodIn wsX3_put (wsV RX3 72 RX3 yX3_advance wsX3_advance) := goodIn_app (goodIn_of _ (by decide +kernel)) ggX3_put_X3_advance
theorem dX3_put_0 : decode cX3_put 0 = .ok (.aload_n 0, 1) := by decide +kernel
theorem dX3_put_1 : decode cX3_put 1 = .ok (.iload_n 1, 1) := by decide +kernel
theorem dX3_put_2 : decode cX3_put 2 = .ok (.invokevirtual 42, 3) := by decide +kernel
theorem dX3_put_5 : decode cX3_put 5 = .ok (.astore 4, 2) := by decide +kernel
theorem dX3_put_7 : decode cX3_put 7 = .ok (.aload 4, 2) := by decide +kernel
theorem dX3_put_9 : decode cX3_put 9 = .ok (.ifnonnull 5, 3) := by decide +kernel
theorem dX3_put_12 : decode cX3_put 12 = .ok (.iconst (-1), 1) := by decide +kernel
theorem dX3_put_13 : decode cX3_put 13 = .ok (.ireturn, 1) := by decide +kernel
theorem dX3_put_14 : decode cX3_put 14 = .ok (.iload_n 2, 1) := by decide +kernel
theorem dX3_put_15 : decode cX3_put 15 = .ok (.invokestatic 54, 3) := by decide +kernel
theorem dX3_put_18 : decode cX3_put 18 = .ok (.ifCond .ne 6, 3) := by decide +kernel
theorem dX3_put_21 : decode cX3_put 21 = .ok (.bipush (-2), 2) := by decide +kernel
theorem dX3_put_23 : decode cX3_put 23 = .ok (.ireturn, 1) := by decide +kernel
theorem dX3_put_24 : decode cX3_put 24 = .ok (.aload 4, 2) := by decide +kernel
theorem dX3_put_26 : decode cX3_put 26 = .ok (.getfield 50, 3) := by decide +kernel
theorem dX3_put_29 : decode cX3_put 29 = .ok (.getfield 58, 3) := by decide +kernel
theorem dX3_put_32 : decode cX3_put 32 = .ok (.iload_n 2, 1) := by decide +kernel
theorem dX3_put_33 : decode cX3_put 33 = .ok (.invokevirtual 61, 3) := by decide +kernel
theorem dX3_put_36 : decode cX3_put 36 = .ok (.iload_n 3, 1) := by decide +kernel
theorem dX3_put_37 : decode cX3_put 37 = .ok (.if_icmp .ne 6, 3) := by decide +kernel
theorem dX3_put_40 : decode cX3_put 40 = .ok (.bipush (-3), 2) := by decide +kernel
theorem dX3_put_42 : decode cX3_put 42 = .ok (.ireturn, 1) := by decide +kernel
theorem dX3_put_43 : decode cX3_put 43 = .ok (.aload_n 0, 1) := by decide +kernel
theorem dX3_put_44 : decode cX3_put 44 = .ok (.getfield 31, 3) := by decide +kernel
theorem dX3_put_47 : decode cX3_put 47 = .ok (.aload 4, 2) := by decide +kernel
theorem dX3_put_49 : decode cX3_put 49 = .ok (.getfield 50, 3) := by decide +kernel
theorem dX3_put_52 : decode cX3_put 52 = .ok (.getfield 58, 3) := by decide +kernel
theorem dX3_put_55 : decode cX3_put 55 = .ok (.invokevirtual 64, 3) := by decide +kernel
theorem dX3_put_58 : decode cX3_put 58 = .ok (.aload_n 0, 1) := by decide +kernel
theorem dX3_put_59 : decode cX3_put 59 = .ok (.getfield 31, 3) := by decide +kernel
theorem dX3_put_62 : decode cX3_put 62 = .ok (.iload_n 2, 1) := by decide +kernel
theorem dX3_put_63 : decode cX3_put 63 = .ok (.iload_n 3, 1) := by decide +kernel
theorem dX3_put_64 : decode cX3_put 64 = .ok (.invokevirtual 68, 3) := by decide +kernel
theorem dX3_put_67 : decode cX3_put 67 = .ok (.aload_n 0, 1) := by decide +kernel
theorem dX3_put_68 : decode cX3_put 68 = .ok (.aload 4, 2) := by decide +kernel
theorem dX3_put_70 : decode cX3_put 70 = .ok (.aconst_null, 1) := by decide +kernel
theorem dX3_put_71 : decode cX3_put 71 = .ok (.aload_n 0, 1) := by decide +kernel
theorem dX3_put_72 : decode cX3_put 72 = .ok (.getfield 31, 3) := by decide +kernel
theorem dX3_put_75 : decode cX3_put 75 = .ok (.invokevirtual 72, 3) := by decide +kernel
theorem dX3_put_78 : decode cX3_put 78 = .ok (.ireturn, 1) := by decide +kernel
set_option maxRecDepth 20000 in
theorem ggX3_blank_X3_branchAt : GoodIn wsX3_blank wsX3_branchAt := goodIn_r _ [6, 7, 8, 90, 91, 92, 93, 94, 95, 96] (by decide +kernel) (by decide +kernel)
set_option maxRecDepth 20000 in
theorem gX3_blank_X3_branchAt : GoodIn wsX3_blank (wsV RX3 42 RX3 yX3_branchAt wsX3_branchAt) := goodIn_app (goodIn_of _ (by decide +kernel)) ggX3_blank_X3_branchAt
set_option maxRecDepth 20000 in
theorem ggX3_blank_X3_isBlank : GoodIn wsX3_blank wsX3_isBlank := goodIn_r _ [11] (by decide +kernel) (by decide +kernel)
set_option maxRecDepth 20000 in
theorem gX3_blank_X3_isBlank : GoodIn wsX3_blank (va_wsS RX3 76 yX3_isBlank wsX3_isBlank) := goodIn_app (goodIn_of _ (by decide +kernel)) ggX3_blank_X3_isBlank
set_option maxRecDepth 20000 in
theorem ggX3_blank_X1_mentions : GoodIn wsX3_blank wsX1_mentions := goodIn_r _ [15, 16, 17, 18, 13, 19, 20, 21, 5, 22, 23, 24, 25, 26, 27, 28, 29, 30, 31, 97] (by decide +kernel) (by decide +kernel)
set_option maxRecDepth 20000 in
theorem gX3_blank_X1_mentions_n79 : GoodIn wsX3_blank (wsX1_mentions) := ggX3_blank_X1_mentions
set_option maxRecDepth 20000 in
theorem ggX3_blank_X1_becomeRenamed : GoodIn wsX3_blank wsX1_becomeRenamed := goodIn_r _ [34, 20, 16, 17, 18, 13, 19, 21, 5, 22, 35, 36, 37, 23, 24, 25, 26, 27, 28, 29, 30, 31, 38, 39, 40, 41, 42, 97] (by decide +kernel) (by decide +kernel)
set_option maxRecDepth 20000 in
theorem gX3_blank_X1_becomeRenamed_n82 : GoodIn wsX3_blank (wsX1_becomeRenamed) := ggX3_blank_X1_becomeRenamed
set_option maxRecDepth 20000 in
theorem ggX3_blank_X3_advance : GoodIn wsX3_blank wsX3_advance := goodIn_r _ [46, 47, 48, 49, 5, 50, 51, 52, 53, 54, 55, 56, 57, 58, 59, 60, 61, 62, 13, 63, 64, 65, 66, 67, 68, 69, 70, 71, 72, 20, 73, 74, 75, 76, 77, 78, 79, 80, 81, 82, 83, 84, 85, 86, 87, 88, 89, 90, 91, 92, 93, 94, 95, 96, 97] (by decide +kernel) (by decide +kernel)
set_option maxRecDepth 20000 in
theorem gX3_blank_X3_advance : GoodIn wsX3_blank (wsV RX3 72 RX3 yX3_advance wsX3_advance) := goodIn_app (goodIn_of _ (by decide +kernel)) ggX3_blank_X3_advance
theorem dX3_blank_0 : decode cX3_blank 0 = .ok (.aload_n 0, 1) := by decide +kernel
theorem dX3_blank_1 : decode cX3_blank 1 = .ok (.iload_n 1, 1) := by decide +kernel
theorem dX3_blank_2 : decode cX3_blank 2 = .ok (.invokevirtual 42, 3) := by decide +kernel
theorem dX3_blank_5 : decode cX3_blank 5 = .ok (.astore 4, 2) := by decide +kernel
theorem dX3_blank_7 : decode cX3_blank 7 = .ok (.aload 4, 2) := by decide +kernel
theorem dX3_blank_9 : decode cX3_blank 9 = .ok (.ifnonnull 5, 3) := by decide +kernel
theorem dX3_blank_12 : decode cX3_blank 12 = .ok (.iconst (-1), 1) := by decide +kernel
theorem dX3_blank_13 : decode cX3_blank 13 = .ok (.ireturn, 1) := by decide +kernel
theorem dX3_blank_14 : decode cX3_blank 14 = .ok (.iload_n 2, 1) := by decide +kernel
theorem dX3_blank_15 : decode cX3_blank 15 = .ok (.invokestatic 76, 3) := by decide +kernel
theorem dX3_blank_18 : decode cX3_blank 18 = .ok (.ifCond .eq 10, 3) := by decide +kernel
theorem dX3_blank_21 : decode cX3_blank 21 = .ok (.iload_n 3, 1) := by decide +kernel
theorem dX3_blank_22 : decode cX3_blank 22 = .ok (.invokestatic 76, 3) := by decide +kernel
theorem dX3_blank_25 : decode cX3_blank 25 = .ok (.ifCond .ne 6, 3) := by decide +kernel
theorem dX3_blank_28 : decode cX3_blank 28 = .ok (.bipush (-2), 2) := by decide +kernel
theorem dX3_blank_30 : decode cX3_blank 30 = .ok (.ireturn, 1) := by decide +kernel
theorem dX3_blank_31 : decode cX3_blank 31 = .ok (.aload 4, 2) := by decide +kernel
theorem dX3_blank_33 : decode cX3_blank 33 = .ok (.getfield 50, 3) := by decide +kernel
theorem dX3_blank_36 : decode cX3_blank 36 = .ok (.getfield 58, 3) := by decide +kernel
theorem dX3_blank_39 : decode cX3_blank 39 = .ok (.astore 5, 2) := by decide +kernel
theorem dX3_blank_41 : decode cX3_blank 41 = .ok (.iload_n 2, 1) := by decide +kernel
theorem dX3_blank_42 : decode cX3_blank 42 = .ok (.iload_n 3, 1) := by decide +kernel
theorem dX3_blank_43 : decode cX3_blank 43 = .ok (.if_icmp .eq 21, 3) := by decide +kernel
theorem dX3_blank_46 : decode cX3_blank 46 = .ok (.aload 5, 2) := by decide +kernel
theorem dX3_blank_48 : decode cX3_blank 48 = .ok (.iload_n 2, 1) := by decide +kernel
theorem dX3_blank_49 : decode cX3_blank 49 = .ok (.invokevirtual 79, 3) := by decide +kernel
theorem dX3_blank_52 : decode cX3_blank 52 = .ok (.ifCond .eq 12, 3) := by decide +kernel
theorem dX3_blank_55 : decode cX3_blank 55 = .ok (.aload 5, 2) := by decide +kernel
theorem dX3_blank_57 : decode cX3_blank 57 = .ok (.iload_n 3, 1) := by decide +kernel
theorem dX3_blank_58 : decode cX3_blank 58 = .ok (.invokevirtual 79, 3) := by decide +kernel
theorem dX3_blank_61 : decode cX3_blank 61 = .ok (.ifCond .eq 6, 3) := by decide +kernel
theorem dX3_blank_64 : decode cX3_blank 64 = .ok (.bipush (-3), 2) := by decide +kernel
theorem dX3_blank_66 : decode cX3_blank 66 = .ok (.ireturn, 1) := by decide +kernel
theorem dX3_blank_67 : decode cX3_blank 67 = .ok (.aload_n 0, 1) := by decide +kernel
theorem dX3_blank_68 : decode cX3_blank 68 = .ok (.getfield 31, 3) := by decide +kernel
theorem dX3_blank_71 : decode cX3_blank 71 = .ok (.aload 5, 2) := by decide +kernel
theorem dX3_blank_73 : decode cX3_blank 73 = .ok (.iload_n 2, 1) := by decide +kernel
theorem dX3_blank_74 : decode cX3_blank 74 = .ok (.iload_n 3, 1) := by decide +kernel
theorem dX3_blank_75 : decode cX3_blank 75 = .ok (.invokevirtual 82, 3) := by decide +kernel
theorem dX3_blank_78 : decode cX3_blank 78 = .ok (.aload_n 0, 1) := by decide +kernel
theorem dX3_blank_79 : decode cX3_blank 79 = .ok (.aload 4, 2) := by decide +kernel
theorem dX3_blank_81 : decode cX3_blank 81 = .ok (.aconst_null, 1) := by decide +kernel
theorem dX3_blank_82 : decode cX3_blank 82 = .ok (.aload_n 0, 1) := by decide +kernel
theorem dX3_blank_83 : decode cX3_blank 83 = .ok (.getfield 31, 3) := by decide +kernel
theorem dX3_blank_86 : decode cX3_blank 86 = .ok (.invokevirtual 72, 3) := by decide +kernel
theorem dX3_blank_89 : decode cX3_blank 89 = .ok (.ireturn, 1) := by decide +kernel
set_option maxRecDepth 20000 in
theorem ggX3_head_X3_branchAt : GoodIn wsX3_head wsX3_branchAt := goodIn_r _ [5, 6, 7, 14, 15, 16, 17, 18, 19, 20] (by decide +kernel) (by decide +kernel)
set_option maxRecDepth 20000 in
theorem gX3_head_X3_branchAt : GoodIn wsX3_head (wsV RX3 42 RX3 yX3_branchAt wsX3_branchAt) := goodIn_app (goodIn_of _ (by decide +kernel)) ggX3_head_X3_branchAt
theorem dX3_head_0 : decode cX3_head 0 = .ok (.aload_n 0, 1) := by decide +kernel
theorem dX3_head_1 : decode cX3_head 1 = .ok (.iload_n 1, 1) := by decide +kernel
theorem dX3_head_2 : decode cX3_head 2 = .ok (.invokevirtual 42, 3) := by decide +kernel
theorem dX3_head_5 : decode cX3_head 5 = .ok (.astore_n 2, 1) := by decide +kernel
theorem dX3_head_6 : decode cX3_head 6 = .ok (.aload_n 2, 1) := by decide +kernel
theorem dX3_head_7 : decode cX3_head 7 = .ok (.ifnonnull 7, 3) := by decide +kernel
theorem dX3_head_10 : decode cX3_head 10 = .ok (.iconst (-1), 1) := by decide +kernel
theorem dX3_head_11 : decode cX3_head 11 = .ok (.goto 10, 3) := by decide +kernel
theorem dX3_head_14 : decode cX3_head 14 = .ok (.aload_n 2, 1) := by decide +kernel
theorem dX3_head_15 : decode cX3_head 15 = .ok (.getfield 50, 3) := by decide +kernel
theorem dX3_head_18 : decode cX3_head 18 = .ok (.getfield 86, 3) := by decide +kernel
theorem dX3_head_21 : decode cX3_head 21 = .ok (.ireturn, 1) := by decide +kernel
set_option maxRecDepth 20000 in
theorem ggX3_base_X3_branchAt : GoodIn wsX3_base wsX3_branchAt := goodIn_r _ [5, 6, 7, 33, 34, 35, 36, 37, 38, 39] (by decide +kernel) (by decide +kernel)
set_option maxRecDepth 20000 in
theorem gX3_base_X3_branchAt : GoodIn wsX3_base (wsV RX3 42 RX3 yX3_branchAt wsX3_branchAt) := goodIn_app (goodIn_of _ (by decide +kernel)) ggX3_base_X3_branchAt
set_option maxRecDepth 20000 in
theorem ggX3_base_X3_greatestCommon : GoodIn wsX3_base wsX3_greatestCommon := goodIn_r _ [11, 12, 13, 14, 15, 16, 17, 18, 19, 20, 21, 22, 23, 4, 24, 25, 26, 28, 29, 30, 31, 32, 33, 34, 35, 36, 37, 38, 39] (by decide +kernel) (by decide +kernel)
set_option maxRecDepth 20000 in
theorem gX3_base_X3_greatestCommon : GoodIn wsX3_base (wsV RX3 89 RX3 yX3_greatestCommon wsX3_greatestCommon) := goodIn_app (goodIn_of _ (by decide +kernel)) ggX3_base_X3_greatestCommon
theorem dX3_base_0 : decode cX3_base 0 = .ok (.aload_n 0, 1) := by decide +kernel
theorem dX3_base_1 : decode cX3_base 1 = .ok (.iload_n 1, 1) := by decide +kernel
theorem dX3_base_2 : decode cX3_base 2 = .ok (.invokevirtual 42, 3) := by decide +kernel
theorem dX3_base_5 : decode cX3_base 5 = .ok (.astore_n 3, 1) := by decide +kernel
theorem dX3_base_6 : decode cX3_base 6 = .ok (.aload_n 0, 1) := by decide +kernel
theorem dX3_base_7 : decode cX3_base 7 = .ok (.iload_n 2, 1) := by decide +kernel
theorem dX3_base_8 : decode cX3_base 8 = .ok (.invokevirtual 42, 3) := by decide +kernel
theorem dX3_base_11 : decode cX3_base 11 = .ok (.astore 4, 2) := by decide +kernel
theorem dX3_base_13 : decode cX3_base 13 = .ok (.aload_n 3, 1) := by decide +kernel
theorem dX3_base_14 : decode cX3_base 14 = .ok (.ifnull 8, 3) := by decide +kernel
theorem dX3_base_17 : decode cX3_base 17 = .ok (.aload 4, 2) := by decide +kernel
theorem dX3_base_19 : decode cX3_base 19 = .ok (.ifnonnull 5, 3) := by decide +kernel
theorem dX3_base_22 : decode cX3_base 22 = .ok (.iconst (-1), 1) := by decide +kernel
theorem dX3_base_23 : decode cX3_base 23 = .ok (.ireturn, 1) := by decide +kernel
theorem dX3_base_24 : decode cX3_base 24 = .ok (.aload_n 0, 1) := by decide +kernel
theorem dX3_base_25 : decode cX3_base 25 = .ok (.aload_n 3, 1) := by decide +kernel
theorem dX3_base_26 : decode cX3_base 26 = .ok (.getfield 50, 3) := by decide +kernel
theorem dX3_base_29 : decode cX3_base 29 = .ok (.aload 4, 2) := by decide +kernel
theorem dX3_base_31 : decode cX3_base 31 = .ok (.getfield 50, 3) := by decide +kernel
theorem dX3_base_34 : decode cX3_base 34 = .ok (.invokevirtual 89, 3) := by decide +kernel
theorem dX3_base_37 : decode cX3_base 37 = .ok (.astore 5, 2) := by decide +kernel
theorem dX3_base_39 : decode cX3_base 39 = .ok (.aload 5, 2) := by decide +kernel
theorem dX3_base_41 : decode cX3_base 41 = .ok (.ifnonnull 8, 3) := by decide +kernel
theorem dX3_base_44 : decode cX3_base 44 = .ok (.bipush (-3), 2) := by decide +kernel
theorem dX3_base_46 : decode cX3_base 46 = .ok (.goto 8, 3) := by decide +kernel
theorem dX3_base_49 : decode cX3_base 49 = .ok (.aload 5, 2) := by decide +kernel
theorem dX3_base_51 : decode cX3_base 51 = .ok (.getfield 86, 3) := by decide +kernel
theorem dX3_base_54 : decode cX3_base 54 = .ok (.ireturn, 1) := by decide +kernel
set_option maxRecDepth 20000 in
theorem ggX3_merge_X3_branchAt : GoodIn wsX3_merge wsX3_branchAt := goodIn_r _ [7, 8, 9, 99, 100, 101, 102, 103, 104, 105] (by decide +kernel) (by decide +kernel)
set_option maxRecDepth 20000 in
theorem gX3_merge_X3_branchAt : GoodIn wsX3_merge (wsV RX3 42 RX3 yX3_branchAt wsX3_branchAt) := goodIn_app (goodIn_of _ (by decide +kernel)) ggX3_merge_X3_branchAt
set_option maxRecDepth 20000 in
theorem ggX3_merge_X2_hasAncestor : GoodIn wsX3_merge wsX2_hasAncestor := goodIn_r _ [13, 14, 94, 95, 96, 97, 98] (by decide +kernel) (by decide +kernel)
set_option maxRecDepth 20000 in
theorem gX3_merge_X2_hasAncestor_n93 : GoodIn wsX3_merge (wsX2_hasAncestor) := ggX3_merge_X2_hasAncestor
set_option maxRecDepth 20000 in
theorem ggX3_merge_X1_becomeCopy : GoodIn wsX3_merge wsX1_becomeCopy := goodIn_r _ [18, 19, 20, 21, 22, 23, 106] (by decide +kernel) (by decide +kernel)
set_option maxRecDepth 20000 in
theorem gX3_merge_X1_becomeCopy_n64 : GoodIn wsX3_merge (wsX1_becomeCopy) := ggX3_merge_X1_becomeCopy
set_option maxRecDepth 20000 in
theorem ggX3_merge_X3_join : GoodIn wsX3_merge wsX3_join := goodIn_r _ [27, 2, 1, 28, 29, 30, 6, 31, 32, 33, 34, 35, 36, 37, 38, 39, 40, 10, 11, 12, 13, 14, 41, 42, 43, 44, 45, 46, 16, 47, 48, 19, 49, 50, 51, 52, 53, 54, 55, 56, 57, 58, 59, 60, 61, 62, 63, 64, 65, 66, 67, 68, 69, 70, 71, 72, 73, 74, 75, 76, 77, 78, 79, 80, 81, 82, 83, 84, 85, 86, 87, 88, 15, 17, 18, 20, 21, 22, 23, 89, 90, 91, 92, 93, 99, 100, 101, 102, 103, 104, 105, 94, 95, 96, 97, 98, 106] (by decide +kernel) (by decide +kernel)
set_option maxRecDepth 20000 in
theorem gX3_merge_X3_join : GoodIn wsX3_merge (wsV RX3 96 RX3 yX3_join wsX3_join) := goodIn_app (goodIn_of _ (by decide +kernel)) ggX3_merge_X3_join
theorem dX3_merge_0 : decode cX3_merge 0 = .ok (.aload_n 0, 1) := by decide +kernel
theorem dX3_merge_1 : decode cX3_merge 1 = .ok (.iload_n 1, 1) := by decide +kernel
theorem dX3_merge_2 : decode cX3_merge 2 = .ok (.invokevirtual 42, 3) := by decide +kernel
theorem dX3_merge_5 : decode cX3_merge 5 = .ok (.astore_n 3, 1) := by decide +kernel
theorem dX3_merge_6 : decode cX3_merge 6 = .ok (.aload_n 0, 1) := by decide +kernel
theorem dX3_merge_7 : decode cX3_merge 7 = .ok (.iload_n 2, 1) := by decide +kernel
theorem dX3_merge_8 : decode cX3_merge 8 = .ok (.invokevirtual 42, 3) := by decide +kernel
theorem dX3_merge_11 : decode cX3_merge 11 = .ok (.astore 4, 2) := by decide +kernel
theorem dX3_merge_13 : decode cX3_merge 13 = .ok (.aload_n 3, 1) := by decide +kernel
theorem dX3_merge_14 : decode cX3_merge 14 = .ok (.ifnull 8, 3) := by decide +kernel
theorem dX3_merge_17 : decode cX3_merge 17 = .ok (.aload 4, 2) := by decide +kernel
theorem dX3_merge_19 : decode cX3_merge 19 = .ok (.ifnonnull 5, 3) := by decide +kernel
theorem dX3_merge_22 : decode cX3_merge 22 = .ok (.iconst (-1), 1) := by decide +kernel
theorem dX3_merge_23 : decode cX3_merge 23 = .ok (.ireturn, 1) := by decide +kernel
theorem dX3_merge_24 : decode cX3_merge 24 = .ok (.aload_n 3, 1) := by decide +kernel
theorem dX3_merge_25 : decode cX3_merge 25 = .ok (.getfield 50, 3) := by decide +kernel
theorem dX3_merge_28 : decode cX3_merge 28 = .ok (.astore 5, 2) := by decide +kernel
theorem dX3_merge_30 : decode cX3_merge 30 = .ok (.aload 4, 2) := by decide +kernel
theorem dX3_merge_32 : decode cX3_merge 32 = .ok (.getfield 50, 3) := by decide +kernel
theorem dX3_merge_35 : decode cX3_merge 35 = .ok (.astore 6, 2) := by decide +kernel
theorem dX3_merge_37 : decode cX3_merge 37 = .ok (.aload 5, 2) := by decide +kernel
theorem dX3_merge_39 : decode cX3_merge 39 = .ok (.aload 6, 2) := by decide +kernel
theorem dX3_merge_41 : decode cX3_merge 41 = .ok (.getfield 86, 3) := by decide +kernel
theorem dX3_merge_44 : decode cX3_merge 44 = .ok (.invokevirtual 93, 3) := by decide +kernel
theorem dX3_merge_47 : decode cX3_merge 47 = .ok (.ifCond .eq 16, 3) := by decide +kernel
theorem dX3_merge_50 : decode cX3_merge 50 = .ok (.aload_n 0, 1) := by decide +kernel
theorem dX3_merge_51 : decode cX3_merge 51 = .ok (.getfield 28, 3) := by decide +kernel
theorem dX3_merge_54 : decode cX3_merge 54 = .ok (.aload_n 0, 1) := by decide +kernel
theorem dX3_merge_55 : decode cX3_merge 55 = .ok (.getfield 24, 3) := by decide +kernel
theorem dX3_merge_58 : decode cX3_merge 58 = .ok (.invokevirtual 64, 3) := by decide +kernel
theorem dX3_merge_61 : decode cX3_merge 61 = .ok (.iconst 0, 1) := by decide +kernel
theorem dX3_merge_62 : decode cX3_merge 62 = .ok (.ireturn, 1) := by decide +kernel
theorem dX3_merge_63 : decode cX3_merge 63 = .ok (.aload 6, 2) := by decide +kernel
theorem dX3_merge_65 : decode cX3_merge 65 = .ok (.aload 5, 2) := by decide +kernel
theorem dX3_merge_67 : decode cX3_merge 67 = .ok (.getfield 86, 3) := by decide +kernel
theorem dX3_merge_70 : decode cX3_merge 70 = .ok (.invokevirtual 93, 3) := by decide +kernel
theorem dX3_merge_73 : decode cX3_merge 73 = .ok (.ifCond .eq 22, 3) := by decide +kernel
theorem dX3_merge_76 : decode cX3_merge 76 = .ok (.aload_n 0, 1) := by decide +kernel
theorem dX3_merge_77 : decode cX3_merge 77 = .ok (.getfield 28, 3) := by decide +kernel
theorem dX3_merge_80 : decode cX3_merge 80 = .ok (.aload_n 0, 1) := by decide +kernel
theorem dX3_merge_81 : decode cX3_merge 81 = .ok (.getfield 24, 3) := by decide +kernel
theorem dX3_merge_84 : decode cX3_merge 84 = .ok (.invokevirtual 64, 3) := by decide +kernel
theorem dX3_merge_87 : decode cX3_merge 87 = .ok (.aload_n 3, 1) := by decide +kernel
theorem dX3_merge_88 : decode cX3_merge 88 = .ok (.aload 6, 2) := by decide +kernel
theorem dX3_merge_90 : decode cX3_merge 90 = .ok (.putfield 50, 3) := by decide +kernel
theorem dX3_merge_93 : decode cX3_merge 93 = .ok (.iconst 0, 1) := by decide +kernel
theorem dX3_merge_94 : decode cX3_merge 94 = .ok (.ireturn, 1) := by decide +kernel
theorem dX3_merge_95 : decode cX3_merge 95 = .ok (.aload_n 0, 1) := by decide +kernel
theorem dX3_merge_96 : decode cX3_merge 96 = .ok (.aload_n 3, 1) := by decide +kernel
theorem dX3_merge_97 : decode cX3_merge 97 = .ok (.aload 6, 2) := by decide +kernel
theorem dX3_merge_99 : decode cX3_merge 99 = .ok (.invokevirtual 96, 3) := by decide +kernel
theorem dX3_merge_102 : decode cX3_merge 102 = .ok (.ireturn, 1) := by decide +kernel
set_option maxRecDepth 20000 in
theorem ggX3_conflict_X1_crowdedKey : GoodIn wsX3_conflict wsX1_crowdedKey := goodIn_r _ [5, 6, 7, 8, 3, 9, 10, 11, 12, 13, 14, 15, 16, 17, 31] (by decide +kernel) (by decide +kernel)
set_option maxRecDepth 20000 in
theorem gX3_conflict_X1_crowdedKey_n100 : GoodIn wsX3_conflict (wsX1_crowdedKey) := ggX3_conflict_X1_crowdedKey
set_option maxRecDepth 20000 in
theorem ggX3_conflict_X1_leastOfKey : GoodIn wsX3_conflict wsX1_leastOfKey := goodIn_r _ [20, 10, 11, 12, 3, 13, 14, 15, 16, 17, 31] (by decide +kernel) (by decide +kernel)
set_option maxRecDepth 20000 in
theorem gX3_conflict_X1_leastOfKey_n104 : GoodIn wsX3_conflict (wsX1_leastOfKey) := ggX3_conflict_X1_leastOfKey
set_option maxRecDepth 20000 in
theorem ggX3_conflict_X1_greatestOfKey : GoodIn wsX3_conflict wsX1_greatestOfKey := goodIn_r _ [23, 10, 11, 12, 3, 13, 14, 15, 16, 17, 31] (by decide +kernel) (by decide +kernel)
set_option maxRecDepth 20000 in
theorem gX3_conflict_X1_greatestOfKey_n107 : GoodIn wsX3_conflict (wsX1_greatestOfKey) := ggX3_conflict_X1_greatestOfKey
theorem dX3_conflict_0 : decode cX3_conflict 0 = .ok (.aload_n 0, 1) := by decide +kernel
theorem dX3_conflict_1 : decode cX3_conflict 1 = .ok (.getfield 28, 3) := by decide +kernel
theorem dX3_conflict_4 : decode cX3_conflict 4 = .ok (.iload_n 1, 1) := by decide +kernel
theorem dX3_conflict_5 : decode cX3_conflict 5 = .ok (.invokevirtual 100, 3) := by decide +kernel
theorem dX3_conflict_8 : decode cX3_conflict 8 = .ok (.istore_n 3, 1) := by decide +kernel
theorem dX3_conflict_9 : decode cX3_conflict 9 = .ok (.iload_n 3, 1) := by decide +kernel
theorem dX3_conflict_10 : decode cX3_conflict 10 = .ok (.iconst (-1), 1) := by decide +kernel
theorem dX3_conflict_11 : decode cX3_conflict 11 = .ok (.if_icmp .ne 6, 3) := by decide +kernel
theorem dX3_conflict_14 : decode cX3_conflict 14 = .ok (.bipush (-2), 2) := by decide +kernel
theorem dX3_conflict_16 : decode cX3_conflict 16 = .ok (.ireturn, 1) := by decide +kernel
theorem dX3_conflict_17 : decode cX3_conflict 17 = .ok (.iload_n 2, 1) := by decide +kernel
theorem dX3_conflict_18 : decode cX3_conflict 18 = .ok (.tableswitch 46 0 2 #[26, 28, 37], 26) := by decide +kernel
theorem dX3_conflict_44 : decode cX3_conflict 44 = .ok (.iload_n 3, 1) := by decide +kernel
theorem dX3_conflict_45 : decode cX3_conflict 45 = .ok (.ireturn, 1) := by decide +kernel
theorem dX3_conflict_46 : decode cX3_conflict 46 = .ok (.aload_n 0, 1) := by decide +kernel
theorem dX3_conflict_47 : decode cX3_conflict 47 = .ok (.getfield 28, 3) := by decide +kernel
theorem dX3_conflict_50 : decode cX3_conflict 50 = .ok (.iload_n 3, 1) := by decide +kernel
theorem dX3_conflict_51 : decode cX3_conflict 51 = .ok (.invokevirtual 104, 3) := by decide +kernel
theorem dX3_conflict_54 : decode cX3_conflict 54 = .ok (.ireturn, 1) := by decide +kernel
theorem dX3_conflict_55 : decode cX3_conflict 55 = .ok (.aload_n 0, 1) := by decide +kernel
theorem dX3_conflict_56 : decode cX3_conflict 56 = .ok (.getfield 28, 3) := by decide +kernel
theorem dX3_conflict_59 : decode cX3_conflict 59 = .ok (.iload_n 3, 1) := by decide +kernel
theorem dX3_conflict_60 : decode cX3_conflict 60 = .ok (.invokevirtual 107, 3) := by decide +kernel
theorem dX3_conflict_63 : decode cX3_conflict 63 = .ok (.ireturn, 1) := by decide +kernel
theorem dX3_conflict_64 : decode cX3_conflict 64 = .ok (.bipush (-2), 2) := by decide +kernel
theorem dX3_conflict_66 : decode cX3_conflict 66 = .ok (.ireturn, 1) := by decide +kernel
set_option maxRecDepth 20000 in
theorem ggX3_patch_X3_versionAt : GoodIn wsX3_patch wsX3_versionAt := goodIn_r _ [6, 7, 8, 34, 35, 36, 37, 38, 39, 40] (by decide +kernel) (by decide +kernel)
set_option maxRecDepth 20000 in
theorem gX3_patch_X3_versionAt : GoodIn wsX3_patch (wsV RX3 110 RX3 yX3_versionAt wsX3_versionAt) := goodIn_app (goodIn_of _ (by decide +kernel)) ggX3_patch_X3_versionAt
set_option maxRecDepth 20000 in
theorem ggX3_patch_X1_becomeDifference : GoodIn wsX3_patch wsX1_becomeDifference := goodIn_r _ [12, 13, 46] (by decide +kernel) (by decide +kernel)
set_option maxRecDepth 20000 in
theorem gX3_patch_X1_becomeDifference_n114 : GoodIn wsX3_patch (wsX1_becomeDifference) := ggX3_patch_X1_becomeDifference
set_option maxRecDepth 20000 in
theorem ggX3_patch_X1_tripleAt : GoodIn wsX3_patch wsX1_tripleAt := goodIn_r _ [16, 13, 17, 18, 19, 20, 21, 22, 23, 24, 25, 26, 10, 27, 28, 29, 30, 31, 32, 5, 33, 46] (by decide +kernel) (by decide +kernel)
set_option maxRecDepth 20000 in
theorem gX3_patch_X1_tripleAt_n118 : GoodIn wsX3_patch (wsX1_tripleAt) := ggX3_patch_X1_tripleAt
set_option maxRecDepth 20000 in
theorem ggX3_patch_X1_has : GoodIn wsX3_patch wsX1_has := goodIn_r _ [31, 13, 32, 5, 33, 46] (by decide +kernel) (by decide +kernel)
set_option maxRecDepth 20000 in
theorem gX3_patch_X1_has_n61 : GoodIn wsX3_patch (wsX1_has) := ggX3_patch_X1_has
theorem dX3_patch_0 : decode cX3_patch 0 = .ok (.aload_n 0, 1) := by decide +kernel
theorem dX3_patch_1 : decode cX3_patch 1 = .ok (.iload_n 1, 1) := by decide +kernel
theorem dX3_patch_2 : decode cX3_patch 2 = .ok (.invokevirtual 110, 3) := by decide +kernel
theorem dX3_patch_5 : decode cX3_patch 5 = .ok (.astore 4, 2) := by decide +kernel
theorem dX3_patch_7 : decode cX3_patch 7 = .ok (.aload_n 0, 1) := by decide +kernel
theorem dX3_patch_8 : decode cX3_patch 8 = .ok (.iload_n 2, 1) := by decide +kernel
theorem dX3_patch_9 : decode cX3_patch 9 = .ok (.invokevirtual 110, 3) := by decide +kernel
theorem dX3_patch_12 : decode cX3_patch 12 = .ok (.astore 5, 2) := by decide +kernel
theorem dX3_patch_14 : decode cX3_patch 14 = .ok (.aload 4, 2) := by decide +kernel
theorem dX3_patch_16 : decode cX3_patch 16 = .ok (.ifnull 8, 3) := by decide +kernel
theorem dX3_patch_19 : decode cX3_patch 19 = .ok (.aload 5, 2) := by decide +kernel
theorem dX3_patch_21 : decode cX3_patch 21 = .ok (.ifnonnull 5, 3) := by decide +kernel
theorem dX3_patch_24 : decode cX3_patch 24 = .ok (.iconst (-1), 1) := by decide +kernel
theorem dX3_patch_25 : decode cX3_patch 25 = .ok (.ireturn, 1) := by decide +kernel
theorem dX3_patch_26 : decode cX3_patch 26 = .ok (.aload_n 0, 1) := by decide +kernel
theorem dX3_patch_27 : decode cX3_patch 27 = .ok (.getfield 31, 3) := by decide +kernel
theorem dX3_patch_30 : decode cX3_patch 30 = .ok (.aload 4, 2) := by decide +kernel
theorem dX3_patch_32 : decode cX3_patch 32 = .ok (.getfield 58, 3) := by decide +kernel
theorem dX3_patch_35 : decode cX3_patch 35 = .ok (.aload 5, 2) := by decide +kernel
theorem dX3_patch_37 : decode cX3_patch 37 = .ok (.getfield 58, 3) := by decide +kernel
theorem dX3_patch_40 : decode cX3_patch 40 = .ok (.invokevirtual 114, 3) := by decide +kernel
theorem dX3_patch_43 : decode cX3_patch 43 = .ok (.aload_n 0, 1) := by decide +kernel
theorem dX3_patch_44 : decode cX3_patch 44 = .ok (.getfield 31, 3) := by decide +kernel
theorem dX3_patch_47 : decode cX3_patch 47 = .ok (.iload_n 3, 1) := by decide +kernel
theorem dX3_patch_48 : decode cX3_patch 48 = .ok (.invokevirtual 118, 3) := by decide +kernel
theorem dX3_patch_51 : decode cX3_patch 51 = .ok (.istore 6, 2) := by decide +kernel
theorem dX3_patch_53 : decode cX3_patch 53 = .ok (.iload 6, 2) := by decide +kernel
theorem dX3_patch_55 : decode cX3_patch 55 = .ok (.iconst (-1), 1) := by decide +kernel
theorem dX3_patch_56 : decode cX3_patch 56 = .ok (.if_icmp .ne 6, 3) := by decide +kernel
theorem dX3_patch_59 : decode cX3_patch 59 = .ok (.bipush (-2), 2) := by decide +kernel
theorem dX3_patch_61 : decode cX3_patch 61 = .ok (.ireturn, 1) := by decide +kernel
theorem dX3_patch_62 : decode cX3_patch 62 = .ok (.aload 5, 2) := by decide +kernel
theorem dX3_patch_64 : decode cX3_patch 64 = .ok (.getfield 58, 3) := by decide +kernel
theorem dX3_patch_67 : decode cX3_patch 67 = .ok (.iload 6, 2) := by decide +kernel
theorem dX3_patch_69 : decode cX3_patch 69 = .ok (.invokevirtual 61, 3) := by decide +kernel
theorem dX3_patch_72 : decode cX3_patch 72 = .ok (.ifCond .eq 8, 3) := by decide +kernel
theorem dX3_patch_75 : decode cX3_patch 75 = .ok (.iload 6, 2) := by decide +kernel
theorem dX3_patch_77 : decode cX3_patch 77 = .ok (.goto 8, 3) := by decide +kernel
theorem dX3_patch_80 : decode cX3_patch 80 = .ok (.bipush (-10), 2) := by decide +kernel
theorem dX3_patch_82 : decode cX3_patch 82 = .ok (.iload 6, 2) := by decide +kernel
theorem dX3_patch_84 : decode cX3_patch 84 = .ok (.isub, 1) := by decide +kernel
theorem dX3_patch_85 : decode cX3_patch 85 = .ok (.ireturn, 1) := by decide +kernel
set_option maxRecDepth 20000 in
theorem ggX3_inverse_X3_changedBy : GoodIn wsX3_inverse wsX3_changedBy := goodIn_r _ [5, 6, 7, 4, 8, 9, 10, 11, 12, 13, 14, 15, 16, 17, 18, 19, 20, 21] (by decide +kernel) (by decide +kernel)
set_option maxRecDepth 20000 in
theorem gX3_inverse_X3_changedBy : GoodIn wsX3_inverse (wsV RX3 121 RX3 yX3_changedBy wsX3_changedBy) := goodIn_app (goodIn_of _ (by decide +kernel)) ggX3_inverse_X3_changedBy
set_option maxRecDepth 20000 in
theorem ggX3_inverse_X3_turnedRound : GoodIn wsX3_inverse wsX3_turnedRound := goodIn_r _ [8] (by decide +kernel) (by decide +kernel)
set_option maxRecDepth 20000 in
theorem gX3_inverse_X3_turnedRound : GoodIn wsX3_inverse (va_wsS RX3 124 yX3_turnedRound wsX3_turnedRound) := goodIn_app (goodIn_of _ (by decide +kernel)) ggX3_inverse_X3_turnedRound
theorem dX3_inverse_0 : decode cX3_inverse 0 = .ok (.aload_n 0, 1) := by decide +kernel
theorem dX3_inverse_1 : decode cX3_inverse 1 = .ok (.iload_n 1, 1) := by decide +kernel
theorem dX3_inverse_2 : decode cX3_inverse 2 = .ok (.invokevirtual 121, 3) := by decide +kernel
theorem dX3_inverse_5 : decode cX3_inverse 5 = .ok (.ifnonnull 7, 3) := by decide +kernel
theorem dX3_inverse_8 : decode cX3_inverse 8 = .ok (.iconst (-1), 1) := by decide +kernel
theorem dX3_inverse_9 : decode cX3_inverse 9 = .ok (.goto 7, 3) := by decide +kernel
theorem dX3_inverse_12 : decode cX3_inverse 12 = .ok (.iload_n 1, 1) := by decide +kernel
theorem dX3_inverse_13 : decode cX3_inverse 13 = .ok (.invokestatic 124, 3) := by decide +kernel
theorem dX3_inverse_16 : decode cX3_inverse 16 = .ok (.ireturn, 1) := by decide +kernel
set_option maxRecDepth 20000 in
theorem ggX3_apply_X3_branchAt : GoodIn wsX3_apply wsX3_branchAt := goodIn_r _ [5, 6, 7, 91, 92, 93, 94, 95, 96, 97] (by decide +kernel) (by decide +kernel)
set_option maxRecDepth 20000 in
theorem gX3_apply_X3_branchAt : GoodIn wsX3_apply (wsV RX3 42 RX3 yX3_branchAt wsX3_branchAt) := goodIn_app (goodIn_of _ (by decide +kernel)) ggX3_apply_X3_branchAt
set_option maxRecDepth 20000 in
theorem ggX3_apply_X3_changedBy : GoodIn wsX3_apply wsX3_changedBy := goodIn_r _ [11, 12, 13, 4, 14, 15, 16, 17, 18, 19, 20, 91, 92, 93, 94, 95, 96, 97] (by decide +kernel) (by decide +kernel)
set_option maxRecDepth 20000 in
theorem gX3_apply_X3_changedBy : GoodIn wsX3_apply (wsV RX3 121 RX3 yX3_changedBy wsX3_changedBy) := goodIn_app (goodIn_of _ (by decide +kernel)) ggX3_apply_X3_changedBy
set_option maxRecDepth 20000 in
theorem ggX3_apply_X3_setBefore : GoodIn wsX3_apply wsX3_setBefore := goodIn_r _ [24, 25, 86, 87, 88, 89, 90, 91, 92, 93, 94, 95, 96, 97] (by decide +kernel) (by decide +kernel)
set_option maxRecDepth 20000 in
theorem gX3_apply_X3_setBefore : GoodIn wsX3_apply (wsV RX3 127 RX3 yX3_setBefore wsX3_setBefore) := goodIn_app (goodIn_of _ (by decide +kernel)) ggX3_apply_X3_setBefore
set_option maxRecDepth 20000 in
theorem ggX3_apply_X3_lay : GoodIn wsX3_apply wsX3_lay := goodIn_r _ [29, 30, 31, 32, 33, 34, 35, 36, 37, 38, 39, 4, 40, 19, 41, 42, 43, 44, 45, 46, 47, 48, 49, 50, 51, 52, 53, 54, 55, 56, 57, 20, 58, 59, 60, 61, 62, 63, 64, 65, 66, 67, 68, 69, 70, 71, 72, 73, 74, 75, 76, 77, 78, 79, 80, 81, 82, 83, 84, 85, 98, 86, 87, 88, 89, 90, 91, 92, 93, 94, 95, 96, 97, 99] (by decide +kernel) (by decide +kernel)
set_option maxRecDepth 20000 in
theorem gX3_apply_X3_lay : GoodIn wsX3_apply (wsV RX3 131 RX3 yX3_lay wsX3_lay) := goodIn_app (goodIn_of _ (by decide +kernel)) ggX3_apply_X3_lay
theorem dX3_apply_0 : decode cX3_apply 0 = .ok (.aload_n 0, 1) := by decide +kernel
theorem dX3_apply_1 : decode cX3_apply 1 = .ok (.iload_n 1, 1) := by decide +kernel
theorem dX3_apply_2 : decode cX3_apply 2 = .ok (.invokevirtual 42, 3) := by decide +kernel
theorem dX3_apply_5 : decode cX3_apply 5 = .ok (.astore_n 3, 1) := by decide +kernel
theorem dX3_apply_6 : decode cX3_apply 6 = .ok (.aload_n 0, 1) := by decide +kernel
theorem dX3_apply_7 : decode cX3_apply 7 = .ok (.iload_n 2, 1) := by decide +kernel
theorem dX3_apply_8 : decode cX3_apply 8 = .ok (.invokevirtual 121, 3) := by decide +kernel
theorem dX3_apply_11 : decode cX3_apply 11 = .ok (.astore 4, 2) := by decide +kernel
theorem dX3_apply_13 : decode cX3_apply 13 = .ok (.aload_n 3, 1) := by decide +kernel
theorem dX3_apply_14 : decode cX3_apply 14 = .ok (.ifnull 8, 3) := by decide +kernel
theorem dX3_apply_17 : decode cX3_apply 17 = .ok (.aload 4, 2) := by decide +kernel
theorem dX3_apply_19 : decode cX3_apply 19 = .ok (.ifnonnull 5, 3) := by decide +kernel
theorem dX3_apply_22 : decode cX3_apply 22 = .ok (.iconst (-1), 1) := by decide +kernel
theorem dX3_apply_23 : decode cX3_apply 23 = .ok (.ireturn, 1) := by decide +kernel
theorem dX3_apply_24 : decode cX3_apply 24 = .ok (.iload_n 2, 1) := by decide +kernel
theorem dX3_apply_25 : decode cX3_apply 25 = .ok (.ifCond .lt 20, 3) := by decide +kernel
theorem dX3_apply_28 : decode cX3_apply 28 = .ok (.aload_n 0, 1) := by decide +kernel
theorem dX3_apply_29 : decode cX3_apply 29 = .ok (.aload_n 3, 1) := by decide +kernel
theorem dX3_apply_30 : decode cX3_apply 30 = .ok (.aload_n 0, 1) := by decide +kernel
theorem dX3_apply_31 : decode cX3_apply 31 = .ok (.aload 4, 2) := by decide +kernel
theorem dX3_apply_33 : decode cX3_apply 33 = .ok (.invokevirtual 127, 3) := by decide +kernel
theorem dX3_apply_36 : decode cX3_apply 36 = .ok (.aload 4, 2) := by decide +kernel
theorem dX3_apply_38 : decode cX3_apply 38 = .ok (.getfield 58, 3) := by decide +kernel
theorem dX3_apply_41 : decode cX3_apply 41 = .ok (.invokevirtual 131, 3) := by decide +kernel
theorem dX3_apply_44 : decode cX3_apply 44 = .ok (.ireturn, 1) := by decide +kernel
theorem dX3_apply_45 : decode cX3_apply 45 = .ok (.aload_n 0, 1) := by decide +kernel
theorem dX3_apply_46 : decode cX3_apply 46 = .ok (.aload_n 3, 1) := by decide +kernel
theorem dX3_apply_47 : decode cX3_apply 47 = .ok (.aload 4, 2) := by decide +kernel
theorem dX3_apply_49 : decode cX3_apply 49 = .ok (.getfield 58, 3) := by decide +kernel
theorem dX3_apply_52 : decode cX3_apply 52 = .ok (.aload_n 0, 1) := by decide +kernel
theorem dX3_apply_53 : decode cX3_apply 53 = .ok (.aload 4, 2) := by decide +kernel
theorem dX3_apply_55 : decode cX3_apply 55 = .ok (.invokevirtual 127, 3) := by decide +kernel
theorem dX3_apply_58 : decode cX3_apply 58 = .ok (.invokevirtual 131, 3) := by decide +kernel
theorem dX3_apply_61 : decode cX3_apply 61 = .ok (.ireturn, 1) := by decide +kernel
set_option maxRecDepth 20000 in
theorem ggX3_revert_X3_branchAt : GoodIn wsX3_revert wsX3_branchAt := goodIn_r _ [5, 6, 7, 88, 89, 90, 91, 92, 93, 94] (by decide +kernel) (by decide +kernel)
set_option maxRecDepth 20000 in
theorem gX3_revert_X3_branchAt : GoodIn wsX3_revert (wsV RX3 42 RX3 yX3_branchAt wsX3_branchAt) := goodIn_app (goodIn_of _ (by decide +kernel)) ggX3_revert_X3_branchAt
set_option maxRecDepth 20000 in
theorem ggX3_revert_X3_versionAt : GoodIn wsX3_revert wsX3_versionAt := goodIn_r _ [11, 12, 13, 88, 89, 90, 91, 92, 93, 94] (by decide +kernel) (by decide +kernel)
set_option maxRecDepth 20000 in
theorem gX3_revert_X3_versionAt : GoodIn wsX3_revert (wsV RX3 110 RX3 yX3_versionAt wsX3_versionAt) := goodIn_app (goodIn_of _ (by decide +kernel)) ggX3_revert_X3_versionAt
set_option maxRecDepth 20000 in
theorem ggX3_revert_X2_hasAncestor : GoodIn wsX3_revert wsX2_hasAncestor := goodIn_r _ [17, 18, 83, 84, 85, 86, 87] (by decide +kernel) (by decide +kernel)
set_option maxRecDepth 20000 in
theorem gX3_revert_X2_hasAncestor_n93 : GoodIn wsX3_revert (wsX2_hasAncestor) := ggX3_revert_X2_hasAncestor
set_option maxRecDepth 20000 in
theorem ggX3_revert_X3_setBefore : GoodIn wsX3_revert wsX3_setBefore := goodIn_r _ [22, 23, 83, 84, 85, 86, 87, 88, 89, 90, 91, 92, 93, 94] (by decide +kernel) (by decide +kernel)
set_option maxRecDepth 20000 in
theorem gX3_revert_X3_setBefore : GoodIn wsX3_revert (wsV RX3 127 RX3 yX3_setBefore wsX3_setBefore) := goodIn_app (goodIn_of _ (by decide +kernel)) ggX3_revert_X3_setBefore
set_option maxRecDepth 20000 in
theorem ggX3_revert_X3_lay : GoodIn wsX3_revert wsX3_lay := goodIn_r _ [27, 28, 29, 30, 31, 32, 33, 34, 35, 36, 37, 4, 38, 12, 39, 40, 41, 42, 43, 44, 45, 46, 47, 48, 49, 50, 51, 52, 53, 54, 15, 13, 55, 56, 57, 58, 59, 60, 61, 62, 63, 18, 64, 65, 66, 67, 68, 69, 70, 71, 72, 73, 74, 75, 76, 77, 78, 79, 80, 81, 82, 83, 84, 85, 86, 87, 88, 89, 90, 91, 92, 93, 94, 95] (by decide +kernel) (by decide +kernel)
set_option maxRecDepth 20000 in
theorem gX3_revert_X3_lay : GoodIn wsX3_revert (wsV RX3 131 RX3 yX3_lay wsX3_lay) := goodIn_app (goodIn_of _ (by decide +kernel)) ggX3_revert_X3_lay
theorem dX3_revert_0 : decode cX3_revert 0 = .ok (.aload_n 0, 1) := by decide +kernel
theorem dX3_revert_1 : decode cX3_revert 1 = .ok (.iload_n 1, 1) := by decide +kernel
theorem dX3_revert_2 : decode cX3_revert 2 = .ok (.invokevirtual 42, 3) := by decide +kernel
theorem dX3_revert_5 : decode cX3_revert 5 = .ok (.astore_n 3, 1) := by decide +kernel
theorem dX3_revert_6 : decode cX3_revert 6 = .ok (.aload_n 0, 1) := by decide +kernel
theorem dX3_revert_7 : decode cX3_revert 7 = .ok (.iload_n 2, 1) := by decide +kernel
theorem dX3_revert_8 : decode cX3_revert 8 = .ok (.invokevirtual 110, 3) := by decide +kernel
theorem dX3_revert_11 : decode cX3_revert 11 = .ok (.astore 4, 2) := by decide +kernel
theorem dX3_revert_13 : decode cX3_revert 13 = .ok (.aload_n 3, 1) := by decide +kernel
theorem dX3_revert_14 : decode cX3_revert 14 = .ok (.ifnull 8, 3) := by decide +kernel
theorem dX3_revert_17 : decode cX3_revert 17 = .ok (.aload 4, 2) := by decide +kernel
theorem dX3_revert_19 : decode cX3_revert 19 = .ok (.ifnonnull 5, 3) := by decide +kernel
theorem dX3_revert_22 : decode cX3_revert 22 = .ok (.iconst (-1), 1) := by decide +kernel
theorem dX3_revert_23 : decode cX3_revert 23 = .ok (.ireturn, 1) := by decide +kernel
theorem dX3_revert_24 : decode cX3_revert 24 = .ok (.aload_n 3, 1) := by decide +kernel
theorem dX3_revert_25 : decode cX3_revert 25 = .ok (.getfield 50, 3) := by decide +kernel
theorem dX3_revert_28 : decode cX3_revert 28 = .ok (.iload_n 2, 1) := by decide +kernel
theorem dX3_revert_29 : decode cX3_revert 29 = .ok (.invokevirtual 93, 3) := by decide +kernel
theorem dX3_revert_32 : decode cX3_revert 32 = .ok (.ifCond .eq 11, 3) := by decide +kernel
theorem dX3_revert_35 : decode cX3_revert 35 = .ok (.aload 4, 2) := by decide +kernel
theorem dX3_revert_37 : decode cX3_revert 37 = .ok (.getfield 135, 3) := by decide +kernel
theorem dX3_revert_40 : decode cX3_revert 40 = .ok (.ifnull 6, 3) := by decide +kernel
theorem dX3_revert_43 : decode cX3_revert 43 = .ok (.bipush (-3), 2) := by decide +kernel
theorem dX3_revert_45 : decode cX3_revert 45 = .ok (.ireturn, 1) := by decide +kernel
theorem dX3_revert_46 : decode cX3_revert 46 = .ok (.aload_n 0, 1) := by decide +kernel
theorem dX3_revert_47 : decode cX3_revert 47 = .ok (.aload_n 3, 1) := by decide +kernel
theorem dX3_revert_48 : decode cX3_revert 48 = .ok (.aload 4, 2) := by decide +kernel
theorem dX3_revert_50 : decode cX3_revert 50 = .ok (.getfield 58, 3) := by decide +kernel
theorem dX3_revert_53 : decode cX3_revert 53 = .ok (.aload_n 0, 1) := by decide +kernel
theorem dX3_revert_54 : decode cX3_revert 54 = .ok (.aload 4, 2) := by decide +kernel
theorem dX3_revert_56 : decode cX3_revert 56 = .ok (.invokevirtual 127, 3) := by decide +kernel
theorem dX3_revert_59 : decode cX3_revert 59 = .ok (.invokevirtual 131, 3) := by decide +kernel
theorem dX3_revert_62 : decode cX3_revert 62 = .ok (.ireturn, 1) := by decide +kernel
set_option maxRecDepth 20000 in
theorem ggX3_history_X3_isTriple : GoodIn wsX3_history wsX3_isTriple := goodIn_r _ [4] (by decide +kernel) (by decide +kernel)
set_option maxRecDepth 20000 in
theorem gX3_history_X3_isTriple : GoodIn wsX3_history (va_wsS RX3 54 yX3_isTriple wsX3_isTriple) := goodIn_app (goodIn_of _ (by decide +kernel)) ggX3_history_X3_isTriple
set_option maxRecDepth 20000 in
theorem ggX3_history_X3_versionAt : GoodIn wsX3_history wsX3_versionAt := goodIn_r _ [8, 9, 10, 30, 31, 32, 33, 34, 35, 36] (by decide +kernel) (by decide +kernel)
set_option maxRecDepth 20000 in
theorem gX3_history_X3_versionAt : GoodIn wsX3_history (wsV RX3 110 RX3 yX3_versionAt wsX3_versionAt) := goodIn_app (goodIn_of _ (by decide +kernel)) ggX3_history_X3_versionAt
set_option maxRecDepth 20000 in
theorem ggX3_history_X3_changes : GoodIn wsX3_history wsX3_changes := goodIn_r _ [14, 15, 16, 17, 18, 19, 2, 3, 4, 20, 21, 22, 23, 24, 25, 26, 27, 28, 29, 37, 30, 31, 32, 33, 34, 35, 36] (by decide +kernel) (by decide +kernel)
set_option maxRecDepth 20000 in
theorem gX3_history_X3_changes : GoodIn wsX3_history (wsV RX3 138 RX3 yX3_changes wsX3_changes) := goodIn_app (goodIn_of _ (by decide +kernel)) ggX3_history_X3_changes
theorem dX3_history_0 : decode cX3_history 0 = .ok (.iload_n 1, 1) := by decide +kernel
theorem dX3_history_1 : decode cX3_history 1 = .ok (.invokestatic 54, 3) := by decide +kernel
theorem dX3_history_4 : decode cX3_history 4 = .ok (.ifCond .eq 7, 3) := by decide +kernel
theorem dX3_history_7 : decode cX3_history 7 = .ok (.iload_n 2, 1) := by decide +kernel
theorem dX3_history_8 : decode cX3_history 8 = .ok (.ifCond .ge 6, 3) := by decide +kernel
theorem dX3_history_11 : decode cX3_history 11 = .ok (.bipush (-2), 2) := by decide +kernel
theorem dX3_history_13 : decode cX3_history 13 = .ok (.ireturn, 1) := by decide +kernel
theorem dX3_history_14 : decode cX3_history 14 = .ok (.iconst 0, 1) := by decide +kernel
theorem dX3_history_15 : decode cX3_history 15 = .ok (.istore_n 3, 1) := by decide +kernel
theorem dX3_history_16 : decode cX3_history 16 = .ok (.iconst 0, 1) := by decide +kernel
theorem dX3_history_17 : decode cX3_history 17 = .ok (.istore 4, 2) := by decide +kernel
theorem dX3_history_19 : decode cX3_history 19 = .ok (.iload 4, 2) := by decide +kernel
theorem dX3_history_21 : decode cX3_history 21 = .ok (.sipush 400, 3) := by decide +kernel
theorem dX3_history_24 : decode cX3_history 24 = .ok (.if_icmp .ge 51, 3) := by decide +kernel
theorem dX3_history_27 : decode cX3_history 27 = .ok (.aload_n 0, 1) := by decide +kernel
theorem dX3_history_28 : decode cX3_history 28 = .ok (.iload 4, 2) := by decide +kernel
theorem dX3_history_30 : decode cX3_history 30 = .ok (.invokevirtual 110, 3) := by decide +kernel
theorem dX3_history_33 : decode cX3_history 33 = .ok (.astore 5, 2) := by decide +kernel
theorem dX3_history_35 : decode cX3_history 35 = .ok (.aload 5, 2) := by decide +kernel
theorem dX3_history_37 : decode cX3_history 37 = .ok (.ifnull 32, 3) := by decide +kernel
theorem dX3_history_40 : decode cX3_history 40 = .ok (.aload 5, 2) := by decide +kernel
theorem dX3_history_42 : decode cX3_history 42 = .ok (.getfield 135, 3) := by decide +kernel
theorem dX3_history_45 : decode cX3_history 45 = .ok (.ifnonnull 24, 3) := by decide +kernel
theorem dX3_history_48 : decode cX3_history 48 = .ok (.aload_n 0, 1) := by decide +kernel
theorem dX3_history_49 : decode cX3_history 49 = .ok (.aload 5, 2) := by decide +kernel
theorem dX3_history_51 : decode cX3_history 51 = .ok (.iload_n 1, 1) := by decide +kernel
theorem dX3_history_52 : decode cX3_history 52 = .ok (.invokevirtual 138, 3) := by decide +kernel
theorem dX3_history_55 : decode cX3_history 55 = .ok (.ifCond .eq 14, 3) := by decide +kernel
theorem dX3_history_58 : decode cX3_history 58 = .ok (.iload_n 3, 1) := by decide +kernel
theorem dX3_history_59 : decode cX3_history 59 = .ok (.iload_n 2, 1) := by decide +kernel
theorem dX3_history_60 : decode cX3_history 60 = .ok (.if_icmp .ne 6, 3) := by decide +kernel
theorem dX3_history_63 : decode cX3_history 63 = .ok (.iload 4, 2) := by decide +kernel
theorem dX3_history_65 : decode cX3_history 65 = .ok (.ireturn, 1) := by decide +kernel
theorem dX3_history_66 : decode cX3_history 66 = .ok (.iinc 3 1, 3) := by decide +kernel
theorem dX3_history_69 : decode cX3_history 69 = .ok (.iinc 4 1, 3) := by decide +kernel
theorem dX3_history_72 : decode cX3_history 72 = .ok (.goto (-53), 3) := by decide +kernel
theorem dX3_history_75 : decode cX3_history 75 = .ok (.bipush (-2), 2) := by decide +kernel
theorem dX3_history_77 : decode cX3_history 77 = .ok (.ireturn, 1) := by decide +kernel
set_option maxRecDepth 20000 in
theorem ggX3_report_X3_branchAt : GoodIn wsX3_report wsX3_branchAt := goodIn_r _ [5, 6, 7, 29, 30, 31, 32, 33, 34, 35] (by decide +kernel) (by decide +kernel)
set_option maxRecDepth 20000 in
theorem gX3_report_X3_branchAt : GoodIn wsX3_report (wsV RX3 42 RX3 yX3_branchAt wsX3_branchAt) := goodIn_app (goodIn_of _ (by decide +kernel)) ggX3_report_X3_branchAt
set_option maxRecDepth 20000 in
theorem ggX3_report_X1_crowdedKeys : GoodIn wsX3_report wsX1_crowdedKeys := goodIn_r _ [11, 12, 13, 14, 9, 15, 16, 17, 18, 19, 20, 21, 4, 22, 36] (by decide +kernel) (by decide +kernel)
set_option maxRecDepth 20000 in
theorem gX3_report_X1_crowdedKeys_n142 : GoodIn wsX3_report (wsX1_crowdedKeys) := ggX3_report_X1_crowdedKeys
theorem dX3_report_0 : decode cX3_report 0 = .ok (.aload_n 0, 1) := by decide +kernel
theorem dX3_report_1 : decode cX3_report 1 = .ok (.iload_n 1, 1) := by decide +kernel
theorem dX3_report_2 : decode cX3_report 2 = .ok (.invokevirtual 42, 3) := by decide +kernel
theorem dX3_report_5 : decode cX3_report 5 = .ok (.astore_n 2, 1) := by decide +kernel
theorem dX3_report_6 : decode cX3_report 6 = .ok (.aload_n 2, 1) := by decide +kernel
theorem dX3_report_7 : decode cX3_report 7 = .ok (.ifnonnull 5, 3) := by decide +kernel
theorem dX3_report_10 : decode cX3_report 10 = .ok (.iconst (-1), 1) := by decide +kernel
theorem dX3_report_11 : decode cX3_report 11 = .ok (.ireturn, 1) := by decide +kernel
theorem dX3_report_12 : decode cX3_report 12 = .ok (.aload_n 2, 1) := by decide +kernel
theorem dX3_report_13 : decode cX3_report 13 = .ok (.getfield 50, 3) := by decide +kernel
theorem dX3_report_16 : decode cX3_report 16 = .ok (.getfield 58, 3) := by decide +kernel
theorem dX3_report_19 : decode cX3_report 19 = .ok (.invokevirtual 142, 3) := by decide +kernel
theorem dX3_report_22 : decode cX3_report 22 = .ok (.ifCond .ne 7, 3) := by decide +kernel
theorem dX3_report_25 : decode cX3_report 25 = .ok (.iconst 1, 1) := by decide +kernel
theorem dX3_report_26 : decode cX3_report 26 = .ok (.goto 4, 3) := by decide +kernel
theorem dX3_report_29 : decode cX3_report 29 = .ok (.iconst 0, 1) := by decide +kernel
theorem dX3_report_30 : decode cX3_report 30 = .ok (.ireturn, 1) := by decide +kernel
set_option maxRecDepth 20000 in
theorem ggX3_list_X3_branchAt : GoodIn wsX3_list wsX3_branchAt := goodIn_r _ [5, 6, 7, 36, 37, 38, 39, 40, 41, 42] (by decide +kernel) (by decide +kernel)
set_option maxRecDepth 20000 in
theorem gX3_list_X3_branchAt : GoodIn wsX3_list (wsV RX3 42 RX3 yX3_branchAt wsX3_branchAt) := goodIn_app (goodIn_of _ (by decide +kernel)) ggX3_list_X3_branchAt
set_option maxRecDepth 20000 in
theorem ggX3_list_X1_tripleAt : GoodIn wsX3_list wsX1_tripleAt := goodIn_r _ [11, 12, 13, 14, 15, 16, 17, 18, 19, 20, 21, 22, 9, 23, 24, 25, 26, 27, 28, 4, 29, 43] (by decide +kernel) (by decide +kernel)
set_option maxRecDepth 20000 in
theorem gX3_list_X1_tripleAt_n118 : GoodIn wsX3_list (wsX1_tripleAt) := ggX3_list_X1_tripleAt
theorem dX3_list_0 : decode cX3_list 0 = .ok (.aload_n 0, 1) := by decide +kernel
theorem dX3_list_1 : decode cX3_list 1 = .ok (.iload_n 1, 1) := by decide +kernel
theorem dX3_list_2 : decode cX3_list 2 = .ok (.invokevirtual 42, 3) := by decide +kernel
theorem dX3_list_5 : decode cX3_list 5 = .ok (.astore_n 3, 1) := by decide +kernel
theorem dX3_list_6 : decode cX3_list 6 = .ok (.aload_n 3, 1) := by decide +kernel
theorem dX3_list_7 : decode cX3_list 7 = .ok (.ifnonnull 5, 3) := by decide +kernel
theorem dX3_list_10 : decode cX3_list 10 = .ok (.iconst (-1), 1) := by decide +kernel
theorem dX3_list_11 : decode cX3_list 11 = .ok (.ireturn, 1) := by decide +kernel
theorem dX3_list_12 : decode cX3_list 12 = .ok (.aload_n 3, 1) := by decide +kernel
theorem dX3_list_13 : decode cX3_list 13 = .ok (.getfield 50, 3) := by decide +kernel
theorem dX3_list_16 : decode cX3_list 16 = .ok (.getfield 58, 3) := by decide +kernel
theorem dX3_list_19 : decode cX3_list 19 = .ok (.iload_n 2, 1) := by decide +kernel
theorem dX3_list_20 : decode cX3_list 20 = .ok (.invokevirtual 118, 3) := by decide +kernel
theorem dX3_list_23 : decode cX3_list 23 = .ok (.istore 4, 2) := by decide +kernel
theorem dX3_list_25 : decode cX3_list 25 = .ok (.iload 4, 2) := by decide +kernel
theorem dX3_list_27 : decode cX3_list 27 = .ok (.iconst (-1), 1) := by decide +kernel
theorem dX3_list_28 : decode cX3_list 28 = .ok (.if_icmp .ne 8, 3) := by decide +kernel
theorem dX3_list_31 : decode cX3_list 31 = .ok (.bipush (-2), 2) := by decide +kernel
theorem dX3_list_33 : decode cX3_list 33 = .ok (.goto 5, 3) := by decide +kernel
theorem dX3_list_36 : decode cX3_list 36 = .ok (.iload 4, 2) := by decide +kernel
theorem dX3_list_38 : decode cX3_list 38 = .ok (.ireturn, 1) := by decide +kernel
theorem dX3_versions_0 : decode cX3_versions 0 = .ok (.aload_n 0, 1) := by decide +kernel
theorem dX3_versions_1 : decode cX3_versions 1 = .ok (.getfield 146, 3) := by decide +kernel
theorem dX3_versions_4 : decode cX3_versions 4 = .ok (.ireturn, 1) := by decide +kernel
theorem dX3_branches_0 : decode cX3_branches 0 = .ok (.aload_n 0, 1) := by decide +kernel
theorem dX3_branches_1 : decode cX3_branches 1 = .ok (.getfield 46, 3) := by decide +kernel
theorem dX3_branches_4 : decode cX3_branches 4 = .ok (.ireturn, 1) := by decide +kernel
theorem dX3_isTriple_0 : decode cX3_isTriple 0 = .ok (.iload_n 0, 1) := by decide +kernel
theorem dX3_isTriple_1 : decode cX3_isTriple 1 = .ok (.ifCond .lt 14, 3) := by decide +kernel
theorem dX3_isTriple_4 : decode cX3_isTriple 4 = .ok (.iload_n 0, 1) := by decide +kernel
theorem dX3_isTriple_5 : decode cX3_isTriple 5 = .ok (.sipush 4096, 3) := by decide +kernel
theorem dX3_isTriple_8 : decode cX3_isTriple 8 = .ok (.if_icmp .ge 7, 3) := by decide +kernel
theorem dX3_isTriple_11 : decode cX3_isTriple 11 = .ok (.iconst 1, 1) := by decide +kernel
theorem dX3_isTriple_12 : decode cX3_isTriple 12 = .ok (.goto 4, 3) := by decide +kernel
theorem dX3_isTriple_15 : decode cX3_isTriple 15 = .ok (.iconst 0, 1) := by decide +kernel
theorem dX3_isTriple_16 : decode cX3_isTriple 16 = .ok (.ireturn, 1) := by decide +kernel
theorem dX3_isBlank_0 : decode cX3_isBlank 0 = .ok (.iload_n 0, 1) := by decide +kernel
theorem dX3_isBlank_1 : decode cX3_isBlank 1 = .ok (.ifCond .lt 13, 3) := by decide +kernel
theorem dX3_isBlank_4 : decode cX3_isBlank 4 = .ok (.iload_n 0, 1) := by decide +kernel
theorem dX3_isBlank_5 : decode cX3_isBlank 5 = .ok (.bipush 8, 2) := by decide +kernel
theorem dX3_isBlank_7 : decode cX3_isBlank 7 = .ok (.if_icmp .ge 7, 3) := by decide +kernel
theorem dX3_isBlank_10 : decode cX3_isBlank 10 = .ok (.iconst 1, 1) := by decide +kernel
theorem dX3_isBlank_11 : decode cX3_isBlank 11 = .ok (.goto 4, 3) := by decide +kernel
theorem dX3_isBlank_14 : decode cX3_isBlank 14 = .ok (.iconst 0, 1) := by decide +kernel
theorem dX3_isBlank_15 : decode cX3_isBlank 15 = .ok (.ireturn, 1) := by decide +kernel
theorem dX3_turnedRound_0 : decode cX3_turnedRound 0 = .ok (.iconst (-1), 1) := by decide +kernel
theorem dX3_turnedRound_1 : decode cX3_turnedRound 1 = .ok (.iload_n 0, 1) := by decide +kernel
theorem dX3_turnedRound_2 : decode cX3_turnedRound 2 = .ok (.isub, 1) := by decide +kernel
theorem dX3_turnedRound_3 : decode cX3_turnedRound 3 = .ok (.ireturn, 1) := by decide +kernel
theorem dX3_branchAt_0 : decode cX3_branchAt 0 = .ok (.iload_n 1, 1) := by decide +kernel
theorem dX3_branchAt_1 : decode cX3_branchAt 1 = .ok (.ifCond .lt 17, 3) := by decide +kernel
theorem dX3_branchAt_4 : decode cX3_branchAt 4 = .ok (.iload_n 1, 1) := by decide +kernel
theorem dX3_branchAt_5 : decode cX3_branchAt 5 = .ok (.aload_n 0, 1) := by decide +kernel
theorem dX3_branchAt_6 : decode cX3_branchAt 6 = .ok (.getfield 46, 3) := by decide +kernel
theorem dX3_branchAt_9 : decode cX3_branchAt 9 = .ok (.if_icmp .ge 9, 3) := by decide +kernel
theorem dX3_branchAt_12 : decode cX3_branchAt 12 = .ok (.iload_n 1, 1) := by decide +kernel
theorem dX3_branchAt_13 : decode cX3_branchAt 13 = .ok (.bipush 40, 2) := by decide +kernel
theorem dX3_branchAt_15 : decode cX3_branchAt 15 = .ok (.if_icmp .lt 5, 3) := by decide +kernel
theorem dX3_branchAt_18 : decode cX3_branchAt 18 = .ok (.aconst_null, 1) := by decide +kernel
theorem dX3_branchAt_19 : decode cX3_branchAt 19 = .ok (.areturn, 1) := by decide +kernel
theorem dX3_branchAt_20 : decode cX3_branchAt 20 = .ok (.aload_n 0, 1) := by decide +kernel
theorem dX3_branchAt_21 : decode cX3_branchAt 21 = .ok (.getfield 17, 3) := by decide +kernel
theorem dX3_branchAt_24 : decode cX3_branchAt 24 = .ok (.iload_n 1, 1) := by decide +kernel
theorem dX3_branchAt_25 : decode cX3_branchAt 25 = .ok (.aaload, 1) := by decide +kernel
theorem dX3_branchAt_26 : decode cX3_branchAt 26 = .ok (.areturn, 1) := by decide +kernel
theorem dX3_versionAt_0 : decode cX3_versionAt 0 = .ok (.iload_n 1, 1) := by decide +kernel
theorem dX3_versionAt_1 : decode cX3_versionAt 1 = .ok (.ifCond .lt 18, 3) := by decide +kernel
theorem dX3_versionAt_4 : decode cX3_versionAt 4 = .ok (.iload_n 1, 1) := by decide +kernel
theorem dX3_versionAt_5 : decode cX3_versionAt 5 = .ok (.aload_n 0, 1) := by decide +kernel
theorem dX3_versionAt_6 : decode cX3_versionAt 6 = .ok (.getfield 146, 3) := by decide +kernel
theorem dX3_versionAt_9 : decode cX3_versionAt 9 = .ok (.if_icmp .ge 10, 3) := by decide +kernel
theorem dX3_versionAt_12 : decode cX3_versionAt 12 = .ok (.iload_n 1, 1) := by decide +kernel
theorem dX3_versionAt_13 : decode cX3_versionAt 13 = .ok (.sipush 400, 3) := by decide +kernel
theorem dX3_versionAt_16 : decode cX3_versionAt 16 = .ok (.if_icmp .lt 5, 3) := by decide +kernel
theorem dX3_versionAt_19 : decode cX3_versionAt 19 = .ok (.aconst_null, 1) := by decide +kernel
theorem dX3_versionAt_20 : decode cX3_versionAt 20 = .ok (.areturn, 1) := by decide +kernel
theorem dX3_versionAt_21 : decode cX3_versionAt 21 = .ok (.aload_n 0, 1) := by decide +kernel
theorem dX3_versionAt_22 : decode cX3_versionAt 22 = .ok (.getfield 11, 3) := by decide +kernel
theorem dX3_versionAt_25 : decode cX3_versionAt 25 = .ok (.iload_n 1, 1) := by decide +kernel
theorem dX3_versionAt_26 : decode cX3_versionAt 26 = .ok (.aaload, 1) := by decide +kernel
theorem dX3_versionAt_27 : decode cX3_versionAt 27 = .ok (.areturn, 1) := by decide +kernel
set_option maxRecDepth 20000 in
theorem ggX3_changedBy_X3_turnedRound : GoodIn wsX3_changedBy wsX3_turnedRound := goodIn_r _ [4] (by decide +kernel) (by decide +kernel)
set_option maxRecDepth 20000 in
theorem gX3_changedBy_X3_turnedRound : GoodIn wsX3_changedBy (va_wsS RX3 124 yX3_turnedRound wsX3_turnedRound) := goodIn_app (goodIn_of _ (by decide +kernel)) ggX3_changedBy_X3_turnedRound
set_option maxRecDepth 20000 in
theorem ggX3_changedBy_X3_versionAt : GoodIn wsX3_changedBy wsX3_versionAt := goodIn_r _ [8, 9, 10, 11, 12, 13, 14, 15, 16, 17] (by decide +kernel) (by decide +kernel)
set_option maxRecDepth 20000 in
theorem gX3_changedBy_X3_versionAt : GoodIn wsX3_changedBy (wsV RX3 110 RX3 yX3_versionAt wsX3_versionAt) := goodIn_app (goodIn_of _ (by decide +kernel)) ggX3_changedBy_X3_versionAt
theorem dX3_changedBy_0 : decode cX3_changedBy 0 = .ok (.aload_n 0, 1) := by decide +kernel
theorem dX3_changedBy_1 : decode cX3_changedBy 1 = .ok (.iload_n 1, 1) := by decide +kernel
theorem dX3_changedBy_2 : decode cX3_changedBy 2 = .ok (.ifCond .lt 7, 3) := by decide +kernel
theorem dX3_changedBy_5 : decode cX3_changedBy 5 = .ok (.iload_n 1, 1) := by decide +kernel
theorem dX3_changedBy_6 : decode cX3_changedBy 6 = .ok (.goto 7, 3) := by decide +kernel
theorem dX3_changedBy_9 : decode cX3_changedBy 9 = .ok (.iload_n 1, 1) := by decide +kernel
theorem dX3_changedBy_10 : decode cX3_changedBy 10 = .ok (.invokestatic 124, 3) := by decide +kernel
theorem dX3_changedBy_13 : decode cX3_changedBy 13 = .ok (.invokevirtual 110, 3) := by decide +kernel
theorem dX3_changedBy_16 : decode cX3_changedBy 16 = .ok (.areturn, 1) := by decide +kernel
theorem dX3_setBefore_0 : decode cX3_setBefore 0 = .ok (.aload_n 1, 1) := by decide +kernel
theorem dX3_setBefore_1 : decode cX3_setBefore 1 = .ok (.getfield 149, 3) := by decide +kernel
theorem dX3_setBefore_4 : decode cX3_setBefore 4 = .ok (.ifnonnull 10, 3) := by decide +kernel
theorem dX3_setBefore_7 : decode cX3_setBefore 7 = .ok (.aload_n 0, 1) := by decide +kernel
theorem dX3_setBefore_8 : decode cX3_setBefore 8 = .ok (.getfield 24, 3) := by decide +kernel
theorem dX3_setBefore_11 : decode cX3_setBefore 11 = .ok (.goto 10, 3) := by decide +kernel
theorem dX3_setBefore_14 : decode cX3_setBefore 14 = .ok (.aload_n 1, 1) := by decide +kernel
theorem dX3_setBefore_15 : decode cX3_setBefore 15 = .ok (.getfield 149, 3) := by decide +kernel
theorem dX3_setBefore_18 : decode cX3_setBefore 18 = .ok (.getfield 58, 3) := by decide +kernel
theorem dX3_setBefore_21 : decode cX3_setBefore 21 = .ok (.areturn, 1) := by decide +kernel
set_option maxRecDepth 20000 in
theorem ggX3_changes_X1_has : GoodIn wsX3_changes wsX1_has := goodIn_r _ [4, 5, 6, 7, 8, 19] (by decide +kernel) (by decide +kernel)
set_option maxRecDepth 20000 in
theorem gX3_changes_X1_has_n61 : GoodIn wsX3_changes (wsX1_has) := ggX3_changes_X1_has
set_option maxRecDepth 20000 in
theorem ggX3_changes_X3_setBefore : GoodIn wsX3_changes wsX3_setBefore := goodIn_r _ [12, 13, 14, 15, 16, 17, 18, 20, 21, 22, 23, 24, 25, 26] (by decide +kernel) (by decide +kernel)
set_option maxRecDepth 20000 in
theorem gX3_changes_X3_setBefore : GoodIn wsX3_changes (wsV RX3 127 RX3 yX3_setBefore wsX3_setBefore) := goodIn_app (goodIn_of _ (by decide +kernel)) ggX3_changes_X3_setBefore
theorem dX3_changes_0 : decode cX3_changes 0 = .ok (.aload_n 1, 1) := by decide +kernel
theorem dX3_changes_1 : decode cX3_changes 1 = .ok (.getfield 58, 3) := by decide +kernel
theorem dX3_changes_4 : decode cX3_changes 4 = .ok (.iload_n 2, 1) := by decide +kernel
theorem dX3_changes_5 : decode cX3_changes 5 = .ok (.invokevirtual 61, 3) := by decide +kernel
theorem dX3_changes_8 : decode cX3_changes 8 = .ok (.aload_n 0, 1) := by decide +kernel
theorem dX3_changes_9 : decode cX3_changes 9 = .ok (.aload_n 1, 1) := by decide +kernel
theorem dX3_changes_10 : decode cX3_changes 10 = .ok (.invokevirtual 127, 3) := by decide +kernel
theorem dX3_changes_13 : decode cX3_changes 13 = .ok (.iload_n 2, 1) := by decide +kernel
theorem dX3_changes_14 : decode cX3_changes 14 = .ok (.invokevirtual 61, 3) := by decide +kernel
theorem dX3_changes_17 : decode cX3_changes 17 = .ok (.if_icmp .eq 7, 3) := by decide +kernel
theorem dX3_changes_20 : decode cX3_changes 20 = .ok (.iconst 1, 1) := by decide +kernel
theorem dX3_changes_21 : decode cX3_changes 21 = .ok (.goto 4, 3) := by decide +kernel
theorem dX3_changes_24 : decode cX3_changes 24 = .ok (.iconst 0, 1) := by decide +kernel
theorem dX3_changes_25 : decode cX3_changes 25 = .ok (.ireturn, 1) := by decide +kernel
theorem dX3_isFull_0 : decode cX3_isFull 0 = .ok (.aload_n 0, 1) := by decide +kernel
theorem dX3_isFull_1 : decode cX3_isFull 1 = .ok (.getfield 146, 3) := by decide +kernel
theorem dX3_isFull_4 : decode cX3_isFull 4 = .ok (.sipush 400, 3) := by decide +kernel
theorem dX3_isFull_7 : decode cX3_isFull 7 = .ok (.if_icmp .lt 7, 3) := by decide +kernel
theorem dX3_isFull_10 : decode cX3_isFull 10 = .ok (.iconst 1, 1) := by decide +kernel
theorem dX3_isFull_11 : decode cX3_isFull 11 = .ok (.goto 4, 3) := by decide +kernel
theorem dX3_isFull_14 : decode cX3_isFull 14 = .ok (.iconst 0, 1) := by decide +kernel
theorem dX3_isFull_15 : decode cX3_isFull 15 = .ok (.ireturn, 1) := by decide +kernel
set_option maxRecDepth 20000 in
theorem ggX3_addVersion_X2_init : GoodIn wsX3_addVersion wsX2_init := goodIn_r _ [7, 8, 9, 10, 11, 12, 13, 14, 15, 16, 17, 18, 19, 20, 21, 22, 23, 24, 25, 26, 27, 28, 29, 30, 31, 32, 33, 34, 4, 35, 48, 43, 44, 45, 46, 47] (by decide +kernel) (by decide +kernel)
set_option maxRecDepth 20000 in
theorem gX3_addVersion_X2_init_n152 : GoodIn wsX3_addVersion (wsX2_init) := ggX3_addVersion_X2_init
theorem dX3_addVersion_0 : decode cX3_addVersion 0 = .ok (.aload_n 0, 1) := by decide +kernel
theorem dX3_addVersion_1 : decode cX3_addVersion 1 = .ok (.getfield 146, 3) := by decide +kernel
theorem dX3_addVersion_4 : decode cX3_addVersion 4 = .ok (.ifCond .lt 13, 3) := by decide +kernel
theorem dX3_addVersion_7 : decode cX3_addVersion 7 = .ok (.aload_n 0, 1) := by decide +kernel
theorem dX3_addVersion_8 : decode cX3_addVersion 8 = .ok (.getfield 146, 3) := by decide +kernel
theorem dX3_addVersion_11 : decode cX3_addVersion 11 = .ok (.sipush 400, 3) := by decide +kernel
theorem dX3_addVersion_14 : decode cX3_addVersion 14 = .ok (.if_icmp .lt 5, 3) := by decide +kernel
theorem dX3_addVersion_17 : decode cX3_addVersion 17 = .ok (.aconst_null, 1) := by decide +kernel
theorem dX3_addVersion_18 : decode cX3_addVersion 18 = .ok (.areturn, 1) := by decide +kernel
theorem dX3_addVersion_19 : decode cX3_addVersion 19 = .ok (.new 9, 3) := by decide +kernel
theorem dX3_addVersion_22 : decode cX3_addVersion 22 = .ok (.dup, 1) := by decide +kernel
theorem dX3_addVersion_23 : decode cX3_addVersion 23 = .ok (.aload_n 0, 1) := by decide +kernel
theorem dX3_addVersion_24 : decode cX3_addVersion 24 = .ok (.getfield 146, 3) := by decide +kernel
theorem dX3_addVersion_27 : decode cX3_addVersion 27 = .ok (.aload_n 1, 1) := by decide +kernel
theorem dX3_addVersion_28 : decode cX3_addVersion 28 = .ok (.aload_n 2, 1) := by decide +kernel
theorem dX3_addVersion_29 : decode cX3_addVersion 29 = .ok (.aload_n 3, 1) := by decide +kernel
theorem dX3_addVersion_30 : decode cX3_addVersion 30 = .ok (.invokespecial 152, 3) := by decide +kernel
theorem dX3_addVersion_33 : decode cX3_addVersion 33 = .ok (.astore 4, 2) := by decide +kernel
theorem dX3_addVersion_35 : decode cX3_addVersion 35 = .ok (.aload_n 0, 1) := by decide +kernel
theorem dX3_addVersion_36 : decode cX3_addVersion 36 = .ok (.getfield 11, 3) := by decide +kernel
theorem dX3_addVersion_39 : decode cX3_addVersion 39 = .ok (.aload_n 0, 1) := by decide +kernel
theorem dX3_addVersion_40 : decode cX3_addVersion 40 = .ok (.getfield 146, 3) := by decide +kernel
theorem dX3_addVersion_43 : decode cX3_addVersion 43 = .ok (.aload 4, 2) := by decide +kernel
theorem dX3_addVersion_45 : decode cX3_addVersion 45 = .ok (.aastore, 1) := by decide +kernel
theorem dX3_addVersion_46 : decode cX3_addVersion 46 = .ok (.aload_n 0, 1) := by decide +kernel
theorem dX3_addVersion_47 : decode cX3_addVersion 47 = .ok (.dup, 1) := by decide +kernel
theorem dX3_addVersion_48 : decode cX3_addVersion 48 = .ok (.getfield 146, 3) := by decide +kernel
theorem dX3_addVersion_51 : decode cX3_addVersion 51 = .ok (.iconst 1, 1) := by decide +kernel
theorem dX3_addVersion_52 : decode cX3_addVersion 52 = .ok (.iadd, 1) := by decide +kernel
theorem dX3_addVersion_53 : decode cX3_addVersion 53 = .ok (.putfield 146, 3) := by decide +kernel
theorem dX3_addVersion_56 : decode cX3_addVersion 56 = .ok (.aload 4, 2) := by decide +kernel
theorem dX3_addVersion_58 : decode cX3_addVersion 58 = .ok (.areturn, 1) := by decide +kernel
set_option maxRecDepth 20000 in
theorem ggX3_addBranch_X0_init : GoodIn wsX3_addBranch wsX0_init := goodIn_r _ [7, 8, 9, 10, 11, 19] (by decide +kernel) (by decide +kernel)
set_option maxRecDepth 20000 in
theorem gX3_addBranch_X0_init_n155 : GoodIn wsX3_addBranch (wsX0_init) := ggX3_addBranch_X0_init
theorem dX3_addBranch_0 : decode cX3_addBranch 0 = .ok (.aload_n 1, 1) := by decide +kernel
theorem dX3_addBranch_1 : decode cX3_addBranch 1 = .ok (.ifnull 19, 3) := by decide +kernel
theorem dX3_addBranch_4 : decode cX3_addBranch 4 = .ok (.aload_n 0, 1) := by decide +kernel
theorem dX3_addBranch_5 : decode cX3_addBranch 5 = .ok (.getfield 46, 3) := by decide +kernel
theorem dX3_addBranch_8 : decode cX3_addBranch 8 = .ok (.ifCond .lt 12, 3) := by decide +kernel
theorem dX3_addBranch_11 : decode cX3_addBranch 11 = .ok (.aload_n 0, 1) := by decide +kernel
theorem dX3_addBranch_12 : decode cX3_addBranch 12 = .ok (.getfield 46, 3) := by decide +kernel
theorem dX3_addBranch_15 : decode cX3_addBranch 15 = .ok (.bipush 40, 2) := by decide +kernel
theorem dX3_addBranch_17 : decode cX3_addBranch 17 = .ok (.if_icmp .lt 6, 3) := by decide +kernel
theorem dX3_addBranch_20 : decode cX3_addBranch 20 = .ok (.bipush (-4), 2) := by decide +kernel
theorem dX3_addBranch_22 : decode cX3_addBranch 22 = .ok (.ireturn, 1) := by decide +kernel
theorem dX3_addBranch_23 : decode cX3_addBranch 23 = .ok (.aload_n 0, 1) := by decide +kernel
theorem dX3_addBranch_24 : decode cX3_addBranch 24 = .ok (.getfield 46, 3) := by decide +kernel
theorem dX3_addBranch_27 : decode cX3_addBranch 27 = .ok (.istore_n 2, 1) := by decide +kernel
theorem dX3_addBranch_28 : decode cX3_addBranch 28 = .ok (.aload_n 0, 1) := by decide +kernel
theorem dX3_addBranch_29 : decode cX3_addBranch 29 = .ok (.getfield 17, 3) := by decide +kernel
theorem dX3_addBranch_32 : decode cX3_addBranch 32 = .ok (.iload_n 2, 1) := by decide +kernel
theorem dX3_addBranch_33 : decode cX3_addBranch 33 = .ok (.new 15, 3) := by decide +kernel
theorem dX3_addBranch_36 : decode cX3_addBranch 36 = .ok (.dup, 1) := by decide +kernel
theorem dX3_addBranch_37 : decode cX3_addBranch 37 = .ok (.aload_n 1, 1) := by decide +kernel
theorem dX3_addBranch_38 : decode cX3_addBranch 38 = .ok (.invokespecial 155, 3) := by decide +kernel
theorem dX3_addBranch_41 : decode cX3_addBranch 41 = .ok (.aastore, 1) := by decide +kernel
theorem dX3_addBranch_42 : decode cX3_addBranch 42 = .ok (.aload_n 0, 1) := by decide +kernel
theorem dX3_addBranch_43 : decode cX3_addBranch 43 = .ok (.dup, 1) := by decide +kernel
theorem dX3_addBranch_44 : decode cX3_addBranch 44 = .ok (.getfield 46, 3) := by decide +kernel
theorem dX3_addBranch_47 : decode cX3_addBranch 47 = .ok (.iconst 1, 1) := by decide +kernel
theorem dX3_addBranch_48 : decode cX3_addBranch 48 = .ok (.iadd, 1) := by decide +kernel
theorem dX3_addBranch_49 : decode cX3_addBranch 49 = .ok (.putfield 46, 3) := by decide +kernel
theorem dX3_addBranch_52 : decode cX3_addBranch 52 = .ok (.iload_n 2, 1) := by decide +kernel
theorem dX3_addBranch_53 : decode cX3_addBranch 53 = .ok (.ireturn, 1) := by decide +kernel
set_option maxRecDepth 20000 in
theorem ggX3_advance_X3_addVersion : GoodIn wsX3_advance wsX3_addVersion := goodIn_r _ [5, 6, 7, 8, 9, 10, 11, 12, 13, 14, 15, 16, 17, 18, 19, 20, 21, 22, 23, 24, 25, 26, 27, 28, 29, 30, 31, 32, 33, 34, 35, 36, 37, 38, 39, 40, 47, 48, 49, 50, 51, 52, 53, 42, 43, 44, 45, 46, 54] (by decide +kernel) (by decide +kernel)
set_option maxRecDepth 20000 in
theorem gX3_advance_X3_addVersion : GoodIn wsX3_advance (wsV RX3 34 RX3 yX3_addVersion wsX3_addVersion) := goodIn_app (goodIn_of _ (by decide +kernel)) ggX3_advance_X3_addVersion
theorem dX3_advance_0 : decode cX3_advance 0 = .ok (.aload_n 0, 1) := by decide +kernel
theorem dX3_advance_1 : decode cX3_advance 1 = .ok (.aload_n 1, 1) := by decide +kernel
theorem dX3_advance_2 : decode cX3_advance 2 = .ok (.getfield 50, 3) := by decide +kernel
theorem dX3_advance_5 : decode cX3_advance 5 = .ok (.aload_n 2, 1) := by decide +kernel
theorem dX3_advance_6 : decode cX3_advance 6 = .ok (.aload_n 3, 1) := by decide +kernel
theorem dX3_advance_7 : decode cX3_advance 7 = .ok (.invokevirtual 34, 3) := by decide +kernel
theorem dX3_advance_10 : decode cX3_advance 10 = .ok (.astore 4, 2) := by decide +kernel
theorem dX3_advance_12 : decode cX3_advance 12 = .ok (.aload 4, 2) := by decide +kernel
theorem dX3_advance_14 : decode cX3_advance 14 = .ok (.ifnonnull 6, 3) := by decide +kernel
theorem dX3_advance_17 : decode cX3_advance 17 = .ok (.bipush (-4), 2) := by decide +kernel
theorem dX3_advance_19 : decode cX3_advance 19 = .ok (.ireturn, 1) := by decide +kernel
theorem dX3_advance_20 : decode cX3_advance 20 = .ok (.aload_n 1, 1) := by decide +kernel
theorem dX3_advance_21 : decode cX3_advance 21 = .ok (.aload 4, 2) := by decide +kernel
theorem dX3_advance_23 : decode cX3_advance 23 = .ok (.putfield 50, 3) := by decide +kernel
theorem dX3_advance_26 : decode cX3_advance 26 = .ok (.aload 4, 2) := by decide +kernel
theorem dX3_advance_28 : decode cX3_advance 28 = .ok (.getfield 86, 3) := by decide +kernel
theorem dX3_advance_31 : decode cX3_advance 31 = .ok (.ireturn, 1) := by decide +kernel
set_option maxRecDepth 20000 in
theorem ggX3_greatestCommon_X2_hasAncestor : GoodIn wsX3_greatestCommon wsX2_hasAncestor := goodIn_r _ [8, 9, 17, 18, 19, 20, 21] (by decide +kernel) (by decide +kernel)
set_option maxRecDepth 20000 in
theorem gX3_greatestCommon_X2_hasAncestor_n93 : GoodIn wsX3_greatestCommon (wsX2_hasAncestor) := ggX3_greatestCommon_X2_hasAncestor
set_option maxRecDepth 20000 in
theorem ggX3_greatestCommon_X3_versionAt : GoodIn wsX3_greatestCommon wsX3_versionAt := goodIn_r _ [14, 15, 16, 22, 23, 24, 25, 26, 27, 28] (by decide +kernel) (by decide +kernel)
set_option maxRecDepth 20000 in
theorem gX3_greatestCommon_X3_versionAt : GoodIn wsX3_greatestCommon (wsV RX3 110 RX3 yX3_versionAt wsX3_versionAt) := goodIn_app (goodIn_of _ (by decide +kernel)) ggX3_greatestCommon_X3_versionAt
theorem dX3_greatestCommon_0 : decode cX3_greatestCommon 0 = .ok (.aload_n 1, 1) := by decide +kernel
theorem dX3_greatestCommon_1 : decode cX3_greatestCommon 1 = .ok (.getfield 86, 3) := by decide +kernel
theorem dX3_greatestCommon_4 : decode cX3_greatestCommon 4 = .ok (.aload_n 2, 1) := by decide +kernel
theorem dX3_greatestCommon_5 : decode cX3_greatestCommon 5 = .ok (.getfield 86, 3) := by decide +kernel
theorem dX3_greatestCommon_8 : decode cX3_greatestCommon 8 = .ok (.invokestatic 158, 3) := by decide +kernel
theorem dX3_greatestCommon_11 : decode cX3_greatestCommon 11 = .ok (.istore_n 3, 1) := by decide +kernel
theorem dX3_greatestCommon_12 : decode cX3_greatestCommon 12 = .ok (.iload_n 3, 1) := by decide +kernel
theorem dX3_greatestCommon_13 : decode cX3_greatestCommon 13 = .ok (.ifCond .lt 31, 3) := by decide +kernel
theorem dX3_greatestCommon_16 : decode cX3_greatestCommon 16 = .ok (.aload_n 1, 1) := by decide +kernel
theorem dX3_greatestCommon_17 : decode cX3_greatestCommon 17 = .ok (.iload_n 3, 1) := by decide +kernel
theorem dX3_greatestCommon_18 : decode cX3_greatestCommon 18 = .ok (.invokevirtual 93, 3) := by decide +kernel
theorem dX3_greatestCommon_21 : decode cX3_greatestCommon 21 = .ok (.ifCond .eq 17, 3) := by decide +kernel
theorem dX3_greatestCommon_24 : decode cX3_greatestCommon 24 = .ok (.aload_n 2, 1) := by decide +kernel
theorem dX3_greatestCommon_25 : decode cX3_greatestCommon 25 = .ok (.iload_n 3, 1) := by decide +kernel
theorem dX3_greatestCommon_26 : decode cX3_greatestCommon 26 = .ok (.invokevirtual 93, 3) := by decide +kernel
theorem dX3_greatestCommon_29 : decode cX3_greatestCommon 29 = .ok (.ifCond .eq 9, 3) := by decide +kernel
theorem dX3_greatestCommon_32 : decode cX3_greatestCommon 32 = .ok (.aload_n 0, 1) := by decide +kernel
theorem dX3_greatestCommon_33 : decode cX3_greatestCommon 33 = .ok (.iload_n 3, 1) := by decide +kernel
theorem dX3_greatestCommon_34 : decode cX3_greatestCommon 34 = .ok (.invokevirtual 110, 3) := by decide +kernel
theorem dX3_greatestCommon_37 : decode cX3_greatestCommon 37 = .ok (.areturn, 1) := by decide +kernel
theorem dX3_greatestCommon_38 : decode cX3_greatestCommon 38 = .ok (.iinc 3 (-1), 3) := by decide +kernel
theorem dX3_greatestCommon_41 : decode cX3_greatestCommon 41 = .ok (.goto (-29), 3) := by decide +kernel
theorem dX3_greatestCommon_44 : decode cX3_greatestCommon 44 = .ok (.aconst_null, 1) := by decide +kernel
theorem dX3_greatestCommon_45 : decode cX3_greatestCommon 45 = .ok (.areturn, 1) := by decide +kernel
set_option maxRecDepth 20000 in
theorem ggX3_join_X3_isFull : GoodIn wsX3_join wsX3_isFull := goodIn_r _ [7, 8, 84, 85, 86, 87, 88, 89, 90] (by decide +kernel) (by decide +kernel)
set_option maxRecDepth 20000 in
theorem gX3_join_X3_isFull : GoodIn wsX3_join (wsV RX3 164 RX3 yX3_isFull wsX3_isFull) := goodIn_app (goodIn_of _ (by decide +kernel)) ggX3_join_X3_isFull
set_option maxRecDepth 20000 in
theorem ggX3_join_X3_greatestCommon : GoodIn wsX3_join wsX3_greatestCommon := goodIn_r _ [12, 13, 14, 15, 16, 17, 18, 19, 20, 21, 22, 23, 24, 6, 25, 8, 26, 91, 92, 93, 94, 95, 84, 85, 86, 87, 88, 89, 90] (by decide +kernel) (by decide +kernel)
set_option maxRecDepth 20000 in
theorem gX3_join_X3_greatestCommon : GoodIn wsX3_join (wsV RX3 89 RX3 yX3_greatestCommon wsX3_greatestCommon) := goodIn_app (goodIn_of _ (by decide +kernel)) ggX3_join_X3_greatestCommon
set_option maxRecDepth 20000 in
theorem ggX3_join_X1_becomeMerged : GoodIn wsX3_join wsX1_becomeMerged := goodIn_r _ [30, 31, 32, 96] (by decide +kernel) (by decide +kernel)
set_option maxRecDepth 20000 in
theorem gX3_join_X1_becomeMerged_n168 : GoodIn wsX3_join (wsX1_becomeMerged) := ggX3_join_X1_becomeMerged
set_option maxRecDepth 20000 in
theorem ggX3_join_X1_crowdedKeys : GoodIn wsX3_join wsX1_crowdedKeys := goodIn_r _ [35, 36, 37, 38, 28, 39, 40, 41, 42, 43, 31, 44, 6, 45, 96] (by decide +kernel) (by decide +kernel)
set_option maxRecDepth 20000 in
theorem gX3_join_X1_crowdedKeys_n142 : GoodIn wsX3_join (wsX1_crowdedKeys) := ggX3_join_X1_crowdedKeys
set_option maxRecDepth 20000 in
theorem ggX3_join_X3_advance : GoodIn wsX3_join wsX3_advance := goodIn_r _ [49, 50, 51, 52, 6, 53, 8, 54, 55, 18, 26, 56, 57, 58, 59, 60, 61, 62, 28, 63, 64, 21, 65, 66, 67, 68, 69, 70, 71, 31, 72, 73, 74, 75, 76, 77, 78, 79, 80, 81, 82, 83, 91, 92, 93, 94, 95, 84, 85, 86, 87, 88, 89, 90, 96] (by decide +kernel) (by decide +kernel)
set_option maxRecDepth 20000 in
theorem gX3_join_X3_advance : GoodIn wsX3_join (wsV RX3 72 RX3 yX3_advance wsX3_advance) := goodIn_app (goodIn_of _ (by decide +kernel)) ggX3_join_X3_advance
theorem dX3_join_0 : decode cX3_join 0 = .ok (.aload_n 0, 1) := by decide +kernel
theorem dX3_join_1 : decode cX3_join 1 = .ok (.invokevirtual 164, 3) := by decide +kernel
theorem dX3_join_4 : decode cX3_join 4 = .ok (.ifCond .eq 6, 3) := by decide +kernel
theorem dX3_join_7 : decode cX3_join 7 = .ok (.bipush (-4), 2) := by decide +kernel
theorem dX3_join_9 : decode cX3_join 9 = .ok (.ireturn, 1) := by decide +kernel
theorem dX3_join_10 : decode cX3_join 10 = .ok (.aload_n 0, 1) := by decide +kernel
theorem dX3_join_11 : decode cX3_join 11 = .ok (.aload_n 1, 1) := by decide +kernel
theorem dX3_join_12 : decode cX3_join 12 = .ok (.getfield 50, 3) := by decide +kernel
theorem dX3_join_15 : decode cX3_join 15 = .ok (.aload_n 2, 1) := by decide +kernel
theorem dX3_join_16 : decode cX3_join 16 = .ok (.invokevirtual 89, 3) := by decide +kernel
theorem dX3_join_19 : decode cX3_join 19 = .ok (.astore_n 3, 1) := by decide +kernel
theorem dX3_join_20 : decode cX3_join 20 = .ok (.aload_n 3, 1) := by decide +kernel
theorem dX3_join_21 : decode cX3_join 21 = .ok (.ifnonnull 10, 3) := by decide +kernel
theorem dX3_join_24 : decode cX3_join 24 = .ok (.aload_n 0, 1) := by decide +kernel
theorem dX3_join_25 : decode cX3_join 25 = .ok (.getfield 24, 3) := by decide +kernel
theorem dX3_join_28 : decode cX3_join 28 = .ok (.goto 7, 3) := by decide +kernel
theorem dX3_join_31 : decode cX3_join 31 = .ok (.aload_n 3, 1) := by decide +kernel
theorem dX3_join_32 : decode cX3_join 32 = .ok (.getfield 58, 3) := by decide +kernel
theorem dX3_join_35 : decode cX3_join 35 = .ok (.astore 4, 2) := by decide +kernel
theorem dX3_join_37 : decode cX3_join 37 = .ok (.aload_n 0, 1) := by decide +kernel
theorem dX3_join_38 : decode cX3_join 38 = .ok (.getfield 28, 3) := by decide +kernel
theorem dX3_join_41 : decode cX3_join 41 = .ok (.aload_n 1, 1) := by decide +kernel
theorem dX3_join_42 : decode cX3_join 42 = .ok (.getfield 50, 3) := by decide +kernel
theorem dX3_join_45 : decode cX3_join 45 = .ok (.getfield 58, 3) := by decide +kernel
theorem dX3_join_48 : decode cX3_join 48 = .ok (.aload_n 2, 1) := by decide +kernel
theorem dX3_join_49 : decode cX3_join 49 = .ok (.getfield 58, 3) := by decide +kernel
theorem dX3_join_52 : decode cX3_join 52 = .ok (.aload 4, 2) := by decide +kernel
theorem dX3_join_54 : decode cX3_join 54 = .ok (.invokevirtual 168, 3) := by decide +kernel
theorem dX3_join_57 : decode cX3_join 57 = .ok (.aload_n 0, 1) := by decide +kernel
theorem dX3_join_58 : decode cX3_join 58 = .ok (.getfield 28, 3) := by decide +kernel
theorem dX3_join_61 : decode cX3_join 61 = .ok (.invokevirtual 142, 3) := by decide +kernel
theorem dX3_join_64 : decode cX3_join 64 = .ok (.istore 5, 2) := by decide +kernel
theorem dX3_join_66 : decode cX3_join 66 = .ok (.iload 5, 2) := by decide +kernel
theorem dX3_join_68 : decode cX3_join 68 = .ok (.ifCond .ne 14, 3) := by decide +kernel
theorem dX3_join_71 : decode cX3_join 71 = .ok (.aload_n 0, 1) := by decide +kernel
theorem dX3_join_72 : decode cX3_join 72 = .ok (.aload_n 1, 1) := by decide +kernel
theorem dX3_join_73 : decode cX3_join 73 = .ok (.aload_n 2, 1) := by decide +kernel
theorem dX3_join_74 : decode cX3_join 74 = .ok (.aload_n 0, 1) := by decide +kernel
theorem dX3_join_75 : decode cX3_join 75 = .ok (.getfield 28, 3) := by decide +kernel
theorem dX3_join_78 : decode cX3_join 78 = .ok (.invokevirtual 72, 3) := by decide +kernel
theorem dX3_join_81 : decode cX3_join 81 = .ok (.pop, 1) := by decide +kernel
theorem dX3_join_82 : decode cX3_join 82 = .ok (.iload 5, 2) := by decide +kernel
theorem dX3_join_84 : decode cX3_join 84 = .ok (.ireturn, 1) := by decide +kernel
set_option maxRecDepth 20000 in
theorem ggX3_lay_X1_hasAllRemoved : GoodIn wsX3_lay wsX1_hasAllRemoved := goodIn_r _ [5, 6, 7, 73] (by decide +kernel) (by decide +kernel)
set_option maxRecDepth 20000 in
theorem gX3_lay_X1_hasAllRemoved_n172 : GoodIn wsX3_lay (wsX1_hasAllRemoved) := ggX3_lay_X1_hasAllRemoved
set_option maxRecDepth 20000 in
theorem ggX3_lay_X3_isFull : GoodIn wsX3_lay wsX3_isFull := goodIn_r _ [12, 13, 66, 67, 68, 69, 70, 71, 72] (by decide +kernel) (by decide +kernel)
set_option maxRecDepth 20000 in
theorem gX3_lay_X3_isFull : GoodIn wsX3_lay (wsV RX3 164 RX3 yX3_isFull wsX3_isFull) := goodIn_app (goodIn_of _ (by decide +kernel)) ggX3_lay_X3_isFull
set_option maxRecDepth 20000 in
theorem ggX3_lay_X1_becomeLaid : GoodIn wsX3_lay wsX1_becomeLaid := goodIn_r _ [16, 6, 7, 73] (by decide +kernel) (by decide +kernel)
set_option maxRecDepth 20000 in
theorem gX3_lay_X1_becomeLaid_n176 : GoodIn wsX3_lay (wsX1_becomeLaid) := ggX3_lay_X1_becomeLaid
set_option maxRecDepth 20000 in
theorem ggX3_lay_X1_isSameAs : GoodIn wsX3_lay wsX1_isSameAs := goodIn_r _ [19, 6, 73] (by decide +kernel) (by decide +kernel)
set_option maxRecDepth 20000 in
theorem gX3_lay_X1_isSameAs_n179 : GoodIn wsX3_lay (wsX1_isSameAs) := ggX3_lay_X1_isSameAs
set_option maxRecDepth 20000 in
theorem ggX3_lay_X3_advance : GoodIn wsX3_lay wsX3_advance := goodIn_r _ [23, 24, 25, 26, 11, 27, 13, 28, 29, 30, 31, 32, 33, 34, 35, 36, 37, 38, 3, 39, 40, 41, 42, 43, 44, 45, 46, 47, 48, 6, 49, 50, 51, 52, 53, 54, 55, 56, 57, 58, 59, 60, 61, 62, 63, 64, 65, 66, 67, 68, 69, 70, 71, 72, 73] (by decide +kernel) (by decide +kernel)
set_option maxRecDepth 20000 in
theorem gX3_lay_X3_advance : GoodIn wsX3_lay (wsV RX3 72 RX3 yX3_advance wsX3_advance) := goodIn_app (goodIn_of _ (by decide +kernel)) ggX3_lay_X3_advance
theorem dX3_lay_0 : decode cX3_lay 0 = .ok (.aload_n 1, 1) := by decide +kernel
theorem dX3_lay_1 : decode cX3_lay 1 = .ok (.getfield 50, 3) := by decide +kernel
theorem dX3_lay_4 : decode cX3_lay 4 = .ok (.getfield 58, 3) := by decide +kernel
theorem dX3_lay_7 : decode cX3_lay 7 = .ok (.astore 4, 2) := by decide +kernel
theorem dX3_lay_9 : decode cX3_lay 9 = .ok (.aload 4, 2) := by decide +kernel
theorem dX3_lay_11 : decode cX3_lay 11 = .ok (.aload_n 2, 1) := by decide +kernel
theorem dX3_lay_12 : decode cX3_lay 12 = .ok (.aload_n 3, 1) := by decide +kernel
theorem dX3_lay_13 : decode cX3_lay 13 = .ok (.invokevirtual 172, 3) := by decide +kernel
theorem dX3_lay_16 : decode cX3_lay 16 = .ok (.ifCond .ne 5, 3) := by decide +kernel
theorem dX3_lay_19 : decode cX3_lay 19 = .ok (.iconst 0, 1) := by decide +kernel
theorem dX3_lay_20 : decode cX3_lay 20 = .ok (.ireturn, 1) := by decide +kernel
theorem dX3_lay_21 : decode cX3_lay 21 = .ok (.aload_n 0, 1) := by decide +kernel
theorem dX3_lay_22 : decode cX3_lay 22 = .ok (.invokevirtual 164, 3) := by decide +kernel
theorem dX3_lay_25 : decode cX3_lay 25 = .ok (.ifCond .eq 6, 3) := by decide +kernel
theorem dX3_lay_28 : decode cX3_lay 28 = .ok (.bipush (-4), 2) := by decide +kernel
theorem dX3_lay_30 : decode cX3_lay 30 = .ok (.ireturn, 1) := by decide +kernel
theorem dX3_lay_31 : decode cX3_lay 31 = .ok (.aload_n 0, 1) := by decide +kernel
theorem dX3_lay_32 : decode cX3_lay 32 = .ok (.getfield 31, 3) := by decide +kernel
theorem dX3_lay_35 : decode cX3_lay 35 = .ok (.aload 4, 2) := by decide +kernel
theorem dX3_lay_37 : decode cX3_lay 37 = .ok (.aload_n 2, 1) := by decide +kernel
theorem dX3_lay_38 : decode cX3_lay 38 = .ok (.aload_n 3, 1) := by decide +kernel
theorem dX3_lay_39 : decode cX3_lay 39 = .ok (.invokevirtual 176, 3) := by decide +kernel
theorem dX3_lay_42 : decode cX3_lay 42 = .ok (.aload_n 0, 1) := by decide +kernel
theorem dX3_lay_43 : decode cX3_lay 43 = .ok (.getfield 31, 3) := by decide +kernel
theorem dX3_lay_46 : decode cX3_lay 46 = .ok (.aload 4, 2) := by decide +kernel
theorem dX3_lay_48 : decode cX3_lay 48 = .ok (.invokevirtual 179, 3) := by decide +kernel
theorem dX3_lay_51 : decode cX3_lay 51 = .ok (.ifCond .eq 5, 3) := by decide +kernel
theorem dX3_lay_54 : decode cX3_lay 54 = .ok (.iconst 0, 1) := by decide +kernel
theorem dX3_lay_55 : decode cX3_lay 55 = .ok (.ireturn, 1) := by decide +kernel
theorem dX3_lay_56 : decode cX3_lay 56 = .ok (.aload_n 0, 1) := by decide +kernel
theorem dX3_lay_57 : decode cX3_lay 57 = .ok (.aload_n 1, 1) := by decide +kernel
theorem dX3_lay_58 : decode cX3_lay 58 = .ok (.aconst_null, 1) := by decide +kernel
theorem dX3_lay_59 : decode cX3_lay 59 = .ok (.aload_n 0, 1) := by decide +kernel
theorem dX3_lay_60 : decode cX3_lay 60 = .ok (.getfield 31, 3) := by decide +kernel
theorem dX3_lay_63 : decode cX3_lay 63 = .ok (.invokevirtual 72, 3) := by decide +kernel
theorem dX3_lay_66 : decode cX3_lay 66 = .ok (.pop, 1) := by decide +kernel
theorem dX3_lay_67 : decode cX3_lay 67 = .ok (.iconst 1, 1) := by decide +kernel
theorem dX3_lay_68 : decode cX3_lay 68 = .ok (.ireturn, 1) := by decide +kernel
end
section
theorem dX4_init_0 : decode cX4_init 0 = .ok (.aload_n 0, 1) := by decide +kernel
theorem dX4_init_1 : decode cX4_init 1 = .ok (.invokespecial 1, 3) := by decide +kernel
theorem dX4_init_4 : decode cX4_init 4 = .ok (.aload_n 0, 1) := by decide +kernel
theorem dX4_init_5 : decode cX4_init 5 = .ok (.ldc 7, 2) := by decide +kernel
theorem dX4_init_7 : decode cX4_init 7 = .ok (.newarray .byte, 2) := by decide +kernel
theorem dX4_init_9 : decode cX4_init 9 = .ok (.putfield 8, 3) := by decide +kernel
theorem dX4_init_12 : decode cX4_init 12 = .ok (.aload_n 0, 1) := by decide +kernel
theorem dX4_init_13 : decode cX4_init 13 = .ok (.sipush 400, 3) := by decide +kernel
theorem dX4_init_16 : decode cX4_init 16 = .ok (.newarray .int, 2) := by decide +kernel
theorem dX4_init_18 : decode cX4_init 18 = .ok (.putfield 14, 3) := by decide +kernel
theorem dX4_init_21 : decode cX4_init 21 = .ok (.aload_n 0, 1) := by decide +kernel
theorem dX4_init_22 : decode cX4_init 22 = .ok (.sipush 400, 3) := by decide +kernel
theorem dX4_init_25 : decode cX4_init 25 = .ok (.newarray .int, 2) := by decide +kernel
theorem dX4_init_27 : decode cX4_init 27 = .ok (.putfield 18, 3) := by decide +kernel
theorem dX4_init_30 : decode cX4_init 30 = .ok (.aload_n 0, 1) := by decide +kernel
theorem dX4_init_31 : decode cX4_init 31 = .ok (.bipush 40, 2) := by decide +kernel
theorem dX4_init_33 : decode cX4_init 33 = .ok (.newarray .int, 2) := by decide +kernel
theorem dX4_init_35 : decode cX4_init 35 = .ok (.putfield 21, 3) := by decide +kernel
theorem dX4_init_38 : decode cX4_init 38 = .ok (.aload_n 0, 1) := by decide +kernel
theorem dX4_init_39 : decode cX4_init 39 = .ok (.sipush 400, 3) := by decide +kernel
theorem dX4_init_42 : decode cX4_init 42 = .ok (.newarray .boolean, 2) := by decide +kernel
theorem dX4_init_44 : decode cX4_init 44 = .ok (.putfield 24, 3) := by decide +kernel
theorem dX4_init_47 : decode cX4_init 47 = .ok (.aload_n 0, 1) := by decide +kernel
theorem dX4_init_48 : decode cX4_init 48 = .ok (.sipush 400, 3) := by decide +kernel
theorem dX4_init_51 : decode cX4_init 51 = .ok (.newarray .boolean, 2) := by decide +kernel
theorem dX4_init_53 : decode cX4_init 53 = .ok (.putfield 28, 3) := by decide +kernel
theorem dX4_init_56 : decode cX4_init 56 = .ok (.aload_n 0, 1) := by decide +kernel
theorem dX4_init_57 : decode cX4_init 57 = .ok (.sipush 4096, 3) := by decide +kernel
theorem dX4_init_60 : decode cX4_init 60 = .ok (.newarray .byte, 2) := by decide +kernel
theorem dX4_init_62 : decode cX4_init 62 = .ok (.putfield 31, 3) := by decide +kernel
theorem dX4_init_65 : decode cX4_init 65 = .ok (.aload_n 0, 1) := by decide +kernel
theorem dX4_init_66 : decode cX4_init 66 = .ok (.bipush 64, 2) := by decide +kernel
theorem dX4_init_68 : decode cX4_init 68 = .ok (.newarray .int, 2) := by decide +kernel
theorem dX4_init_70 : decode cX4_init 70 = .ok (.putfield 34, 3) := by decide +kernel
theorem dX4_init_73 : decode cX4_init 73 = .ok (.aload_n 0, 1) := by decide +kernel
theorem dX4_init_74 : decode cX4_init 74 = .ok (.bipush 64, 2) := by decide +kernel
theorem dX4_init_76 : decode cX4_init 76 = .ok (.newarray .int, 2) := by decide +kernel
theorem dX4_init_78 : decode cX4_init 78 = .ok (.putfield 37, 3) := by decide +kernel
theorem dX4_init_81 : decode cX4_init 81 = .ok (.aload_n 0, 1) := by decide +kernel
theorem dX4_init_82 : decode cX4_init 82 = .ok (.bipush 64, 2) := by decide +kernel
theorem dX4_init_84 : decode cX4_init 84 = .ok (.newarray .int, 2) := by decide +kernel
theorem dX4_init_86 : decode cX4_init 86 = .ok (.putfield 40, 3) := by decide +kernel
theorem dX4_init_89 : decode cX4_init 89 = .ok (.aload_n 0, 1) := by decide +kernel
theorem dX4_init_90 : decode cX4_init 90 = .ok (.getfield 14, 3) := by decide +kernel
theorem dX4_init_93 : decode cX4_init 93 = .ok (.iconst 0, 1) := by decide +kernel
theorem dX4_init_94 : decode cX4_init 94 = .ok (.iconst (-1), 1) := by decide +kernel
theorem dX4_init_95 : decode cX4_init 95 = .ok (.iastore, 1) := by decide +kernel
theorem dX4_init_96 : decode cX4_init 96 = .ok (.aload_n 0, 1) := by decide +kernel
theorem dX4_init_97 : decode cX4_init 97 = .ok (.getfield 18, 3) := by decide +kernel
theorem dX4_init_100 : decode cX4_init 100 = .ok (.iconst 0, 1) := by decide +kernel
theorem dX4_init_101 : decode cX4_init 101 = .ok (.iconst (-1), 1) := by decide +kernel
theorem dX4_init_102 : decode cX4_init 102 = .ok (.iastore, 1) := by decide +kernel
theorem dX4_init_103 : decode cX4_init 103 = .ok (.aload_n 0, 1) := by decide +kernel
theorem dX4_init_104 : decode cX4_init 104 = .ok (.iconst 1, 1) := by decide +kernel
theorem dX4_init_105 : decode cX4_init 105 = .ok (.putfield 43, 3) := by decide +kernel
theorem dX4_init_108 : decode cX4_init 108 = .ok (.aload_n 0, 1) := by decide +kernel
theorem dX4_init_109 : decode cX4_init 109 = .ok (.iconst 1, 1) := by decide +kernel
theorem dX4_init_110 : decode cX4_init 110 = .ok (.putfield 47, 3) := by decide +kernel
theorem dX4_init_113 : decode cX4_init 113 = .ok (.return_, 1) := by decide +kernel
theorem dX4_isBranch_0 : decode cX4_isBranch 0 = .ok (.iload_n 1, 1) := by decide +kernel
theorem dX4_isBranch_1 : decode cX4_isBranch 1 = .ok (.ifCond .lt 15, 3) := by decide +kernel
theorem dX4_isBranch_4 : decode cX4_isBranch 4 = .ok (.iload_n 1, 1) := by decide +kernel
theorem dX4_isBranch_5 : decode cX4_isBranch 5 = .ok (.aload_n 0, 1) := by decide +kernel
theorem dX4_isBranch_6 : decode cX4_isBranch 6 = .ok (.getfield 47, 3) := by decide +kernel
theorem dX4_isBranch_9 : decode cX4_isBranch 9 = .ok (.if_icmp .ge 7, 3) := by decide +kernel
theorem dX4_isBranch_12 : decode cX4_isBranch 12 = .ok (.iconst 1, 1) := by decide +kernel
theorem dX4_isBranch_13 : decode cX4_isBranch 13 = .ok (.goto 4, 3) := by decide +kernel
theorem dX4_isBranch_16 : decode cX4_isBranch 16 = .ok (.iconst 0, 1) := by decide +kernel
theorem dX4_isBranch_17 : decode cX4_isBranch 17 = .ok (.ireturn, 1) := by decide +kernel
theorem dX4_isVersion_0 : decode cX4_isVersion 0 = .ok (.iload_n 1, 1) := by decide +kernel
theorem dX4_isVersion_1 : decode cX4_isVersion 1 = .ok (.ifCond .lt 15, 3) := by decide +kernel
theorem dX4_isVersion_4 : decode cX4_isVersion 4 = .ok (.iload_n 1, 1) := by decide +kernel
theorem dX4_isVersion_5 : decode cX4_isVersion 5 = .ok (.aload_n 0, 1) := by decide +kernel
theorem dX4_isVersion_6 : decode cX4_isVersion 6 = .ok (.getfield 43, 3) := by decide +kernel
theorem dX4_isVersion_9 : decode cX4_isVersion 9 = .ok (.if_icmp .ge 7, 3) := by decide +kernel
theorem dX4_isVersion_12 : decode cX4_isVersion 12 = .ok (.iconst 1, 1) := by decide +kernel
theorem dX4_isVersion_13 : decode cX4_isVersion 13 = .ok (.goto 4, 3) := by decide +kernel
theorem dX4_isVersion_16 : decode cX4_isVersion 16 = .ok (.iconst 0, 1) := by decide +kernel
theorem dX4_isVersion_17 : decode cX4_isVersion 17 = .ok (.ireturn, 1) := by decide +kernel
theorem dX4_isTriple_0 : decode cX4_isTriple 0 = .ok (.iload_n 0, 1) := by decide +kernel
theorem dX4_isTriple_1 : decode cX4_isTriple 1 = .ok (.ifCond .lt 14, 3) := by decide +kernel
theorem dX4_isTriple_4 : decode cX4_isTriple 4 = .ok (.iload_n 0, 1) := by decide +kernel
theorem dX4_isTriple_5 : decode cX4_isTriple 5 = .ok (.sipush 4096, 3) := by decide +kernel
theorem dX4_isTriple_8 : decode cX4_isTriple 8 = .ok (.if_icmp .ge 7, 3) := by decide +kernel
theorem dX4_isTriple_11 : decode cX4_isTriple 11 = .ok (.iconst 1, 1) := by decide +kernel
theorem dX4_isTriple_12 : decode cX4_isTriple 12 = .ok (.goto 4, 3) := by decide +kernel
theorem dX4_isTriple_15 : decode cX4_isTriple 15 = .ok (.iconst 0, 1) := by decide +kernel
theorem dX4_isTriple_16 : decode cX4_isTriple 16 = .ok (.ireturn, 1) := by decide +kernel
theorem dX4_has_0 : decode cX4_has 0 = .ok (.iload_n 1, 1) := by decide +kernel
theorem dX4_has_1 : decode cX4_has 1 = .ok (.ifCond .lt 23, 3) := by decide +kernel
theorem dX4_has_4 : decode cX4_has 4 = .ok (.aload_n 0, 1) := by decide +kernel
theorem dX4_has_5 : decode cX4_has 5 = .ok (.getfield 8, 3) := by decide +kernel
theorem dX4_has_8 : decode cX4_has 8 = .ok (.sipush 4096, 3) := by decide +kernel
theorem dX4_has_11 : decode cX4_has 11 = .ok (.iload_n 1, 1) := by decide +kernel
theorem dX4_has_12 : decode cX4_has 12 = .ok (.imul, 1) := by decide +kernel
theorem dX4_has_13 : decode cX4_has 13 = .ok (.iload_n 2, 1) := by decide +kernel
theorem dX4_has_14 : decode cX4_has 14 = .ok (.iadd, 1) := by decide +kernel
theorem dX4_has_15 : decode cX4_has 15 = .ok (.baload, 1) := by decide +kernel
theorem dX4_has_16 : decode cX4_has 16 = .ok (.iconst 1, 1) := by decide +kernel
theorem dX4_has_17 : decode cX4_has 17 = .ok (.if_icmp .ne 7, 3) := by decide +kernel
theorem dX4_has_20 : decode cX4_has 20 = .ok (.iconst 1, 1) := by decide +kernel
theorem dX4_has_21 : decode cX4_has 21 = .ok (.goto 4, 3) := by decide +kernel
theorem dX4_has_24 : decode cX4_has 24 = .ok (.iconst 0, 1) := by decide +kernel
theorem dX4_has_25 : decode cX4_has 25 = .ok (.ireturn, 1) := by decide +kernel
theorem dX4_grow_0 : decode cX4_grow 0 = .ok (.aload_n 0, 1) := by decide +kernel
theorem dX4_grow_1 : decode cX4_grow 1 = .ok (.getfield 14, 3) := by decide +kernel
theorem dX4_grow_4 : decode cX4_grow 4 = .ok (.aload_n 0, 1) := by decide +kernel
theorem dX4_grow_5 : decode cX4_grow 5 = .ok (.getfield 43, 3) := by decide +kernel
theorem dX4_grow_8 : decode cX4_grow 8 = .ok (.iload_n 1, 1) := by decide +kernel
theorem dX4_grow_9 : decode cX4_grow 9 = .ok (.iastore, 1) := by decide +kernel
theorem dX4_grow_10 : decode cX4_grow 10 = .ok (.aload_n 0, 1) := by decide +kernel
theorem dX4_grow_11 : decode cX4_grow 11 = .ok (.getfield 18, 3) := by decide +kernel
theorem dX4_grow_14 : decode cX4_grow 14 = .ok (.aload_n 0, 1) := by decide +kernel
theorem dX4_grow_15 : decode cX4_grow 15 = .ok (.getfield 43, 3) := by decide +kernel
theorem dX4_grow_18 : decode cX4_grow 18 = .ok (.iload_n 2, 1) := by decide +kernel
theorem dX4_grow_19 : decode cX4_grow 19 = .ok (.iastore, 1) := by decide +kernel
theorem dX4_grow_20 : decode cX4_grow 20 = .ok (.iconst 0, 1) := by decide +kernel
theorem dX4_grow_21 : decode cX4_grow 21 = .ok (.istore_n 3, 1) := by decide +kernel
theorem dX4_grow_22 : decode cX4_grow 22 = .ok (.iload_n 3, 1) := by decide +kernel
theorem dX4_grow_23 : decode cX4_grow 23 = .ok (.sipush 4096, 3) := by decide +kernel
theorem dX4_grow_26 : decode cX4_grow 26 = .ok (.if_icmp .ge 30, 3) := by decide +kernel
theorem dX4_grow_29 : decode cX4_grow 29 = .ok (.aload_n 0, 1) := by decide +kernel
theorem dX4_grow_30 : decode cX4_grow 30 = .ok (.getfield 8, 3) := by decide +kernel
theorem dX4_grow_33 : decode cX4_grow 33 = .ok (.sipush 4096, 3) := by decide +kernel
theorem dX4_grow_36 : decode cX4_grow 36 = .ok (.aload_n 0, 1) := by decide +kernel
theorem dX4_grow_37 : decode cX4_grow 37 = .ok (.getfield 43, 3) := by decide +kernel
theorem dX4_grow_40 : decode cX4_grow 40 = .ok (.imul, 1) := by decide +kernel
theorem dX4_grow_41 : decode cX4_grow 41 = .ok (.iload_n 3, 1) := by decide +kernel
theorem dX4_grow_42 : decode cX4_grow 42 = .ok (.iadd, 1) := by decide +kernel
theorem dX4_grow_43 : decode cX4_grow 43 = .ok (.aload_n 0, 1) := by decide +kernel
theorem dX4_grow_44 : decode cX4_grow 44 = .ok (.getfield 31, 3) := by decide +kernel
theorem dX4_grow_47 : decode cX4_grow 47 = .ok (.iload_n 3, 1) := by decide +kernel
theorem dX4_grow_48 : decode cX4_grow 48 = .ok (.baload, 1) := by decide +kernel
theorem dX4_grow_49 : decode cX4_grow 49 = .ok (.bastore, 1) := by decide +kernel
theorem dX4_grow_50 : decode cX4_grow 50 = .ok (.iinc 3 1, 3) := by decide +kernel
theorem dX4_grow_53 : decode cX4_grow 53 = .ok (.goto (-31), 3) := by decide +kernel
theorem dX4_grow_56 : decode cX4_grow 56 = .ok (.aload_n 0, 1) := by decide +kernel
theorem dX4_grow_57 : decode cX4_grow 57 = .ok (.dup, 1) := by decide +kernel
theorem dX4_grow_58 : decode cX4_grow 58 = .ok (.getfield 43, 3) := by decide +kernel
theorem dX4_grow_61 : decode cX4_grow 61 = .ok (.iconst 1, 1) := by decide +kernel
theorem dX4_grow_62 : decode cX4_grow 62 = .ok (.iadd, 1) := by decide +kernel
theorem dX4_grow_63 : decode cX4_grow 63 = .ok (.putfield 43, 3) := by decide +kernel
theorem dX4_grow_66 : decode cX4_grow 66 = .ok (.aload_n 0, 1) := by decide +kernel
theorem dX4_grow_67 : decode cX4_grow 67 = .ok (.getfield 43, 3) := by decide +kernel
theorem dX4_grow_70 : decode cX4_grow 70 = .ok (.iconst 1, 1) := by decide +kernel
theorem dX4_grow_71 : decode cX4_grow 71 = .ok (.isub, 1) := by decide +kernel
theorem dX4_grow_72 : decode cX4_grow 72 = .ok (.ireturn, 1) := by decide +kernel
set_option maxRecDepth 20000 in
theorem ggX4_take_X4_has : GoodIn wsX4_take wsX4_has := goodIn_r _ [6, 7, 8, 9, 10, 11, 12, 13, 14, 15, 16, 17, 18, 19, 20] (by decide +kernel) (by decide +kernel)
set_option maxRecDepth 20000 in
theorem gX4_take_X4_has : GoodIn wsX4_take (wsV RX4 50 RX4 yX4_has wsX4_has) := goodIn_app (goodIn_of _ (by decide +kernel)) ggX4_take_X4_has
theorem dX4_take_0 : decode cX4_take 0 = .ok (.iconst 0, 1) := by decide +kernel
theorem dX4_take_1 : decode cX4_take 1 = .ok (.istore_n 2, 1) := by decide +kernel
theorem dX4_take_2 : decode cX4_take 2 = .ok (.iload_n 2, 1) := by decide +kernel
theorem dX4_take_3 : decode cX4_take 3 = .ok (.sipush 4096, 3) := by decide +kernel
theorem dX4_take_6 : decode cX4_take 6 = .ok (.if_icmp .ge 30, 3) := by decide +kernel
theorem dX4_take_9 : decode cX4_take 9 = .ok (.aload_n 0, 1) := by decide +kernel
theorem dX4_take_10 : decode cX4_take 10 = .ok (.getfield 31, 3) := by decide +kernel
theorem dX4_take_13 : decode cX4_take 13 = .ok (.iload_n 2, 1) := by decide +kernel
theorem dX4_take_14 : decode cX4_take 14 = .ok (.aload_n 0, 1) := by decide +kernel
theorem dX4_take_15 : decode cX4_take 15 = .ok (.iload_n 1, 1) := by decide +kernel
theorem dX4_take_16 : decode cX4_take 16 = .ok (.iload_n 2, 1) := by decide +kernel
theorem dX4_take_17 : decode cX4_take 17 = .ok (.invokevirtual 50, 3) := by decide +kernel
theorem dX4_take_20 : decode cX4_take 20 = .ok (.ifCond .eq 7, 3) := by decide +kernel
theorem dX4_take_23 : decode cX4_take 23 = .ok (.iconst 1, 1) := by decide +kernel
theorem dX4_take_24 : decode cX4_take 24 = .ok (.goto 4, 3) := by decide +kernel
theorem dX4_take_27 : decode cX4_take 27 = .ok (.iconst 0, 1) := by decide +kernel
theorem dX4_take_28 : decode cX4_take 28 = .ok (.i2b, 1) := by decide +kernel
theorem dX4_take_29 : decode cX4_take 29 = .ok (.bastore, 1) := by decide +kernel
theorem dX4_take_30 : decode cX4_take 30 = .ok (.iinc 2 1, 3) := by decide +kernel
theorem dX4_take_33 : decode cX4_take 33 = .ok (.goto (-31), 3) := by decide +kernel
theorem dX4_take_36 : decode cX4_take 36 = .ok (.return_, 1) := by decide +kernel
set_option maxRecDepth 20000 in
theorem ggX4_branch_X4_isBranch : GoodIn wsX4_branch wsX4_isBranch := goodIn_r _ [8, 1, 25, 26, 27, 28, 29, 30, 31, 32, 33, 34, 35, 36, 37] (by decide +kernel) (by decide +kernel)
set_option maxRecDepth 20000 in
theorem gX4_branch_X4_isBranch : GoodIn wsX4_branch (wsV RX4 54 RX4 yX4_isBranch wsX4_isBranch) := goodIn_app (goodIn_of _ (by decide +kernel)) ggX4_branch_X4_isBranch
set_option maxRecDepth 20000 in
theorem ggX4_branch_X4_take : GoodIn wsX4_branch wsX4_take := goodIn_r _ [12, 13, 14, 15, 16, 7, 17, 18, 25, 26, 27, 28, 29, 30, 31, 32, 33, 34, 35, 36, 37] (by decide +kernel) (by decide +kernel)
set_option maxRecDepth 20000 in
theorem gX4_branch_X4_take : GoodIn wsX4_branch (wsV RX4 58 RX4 yX4_take wsX4_take) := goodIn_app (goodIn_of _ (by decide +kernel)) ggX4_branch_X4_take
set_option maxRecDepth 20000 in
theorem ggX4_branch_X4_grow : GoodIn wsX4_branch wsX4_grow := goodIn_r _ [22, 23, 2, 24, 18, 13, 25, 26, 27, 28, 29, 30, 31, 32, 33, 34, 35, 36, 37] (by decide +kernel) (by decide +kernel)
set_option maxRecDepth 20000 in
theorem gX4_branch_X4_grow : GoodIn wsX4_branch (wsV RX4 62 RX4 yX4_grow wsX4_grow) := goodIn_app (goodIn_of _ (by decide +kernel)) ggX4_branch_X4_grow
theorem dX4_branch_0 : decode cX4_branch 0 = .ok (.iload_n 1, 1) := by decide +kernel
theorem dX4_branch_1 : decode cX4_branch 1 = .ok (.iconst (-1), 1) := by decide +kernel
theorem dX4_branch_2 : decode cX4_branch 2 = .ok (.if_icmp .eq 13, 3) := by decide +kernel
theorem dX4_branch_5 : decode cX4_branch 5 = .ok (.aload_n 0, 1) := by decide +kernel
theorem dX4_branch_6 : decode cX4_branch 6 = .ok (.iload_n 1, 1) := by decide +kernel
theorem dX4_branch_7 : decode cX4_branch 7 = .ok (.invokevirtual 54, 3) := by decide +kernel
theorem dX4_branch_10 : decode cX4_branch 10 = .ok (.ifCond .ne 5, 3) := by decide +kernel
theorem dX4_branch_13 : decode cX4_branch 13 = .ok (.iconst (-1), 1) := by decide +kernel
theorem dX4_branch_14 : decode cX4_branch 14 = .ok (.ireturn, 1) := by decide +kernel
theorem dX4_branch_15 : decode cX4_branch 15 = .ok (.aload_n 0, 1) := by decide +kernel
theorem dX4_branch_16 : decode cX4_branch 16 = .ok (.getfield 47, 3) := by decide +kernel
theorem dX4_branch_19 : decode cX4_branch 19 = .ok (.bipush 40, 2) := by decide +kernel
theorem dX4_branch_21 : decode cX4_branch 21 = .ok (.if_icmp .eq 18, 3) := by decide +kernel
theorem dX4_branch_24 : decode cX4_branch 24 = .ok (.iload_n 1, 1) := by decide +kernel
theorem dX4_branch_25 : decode cX4_branch 25 = .ok (.iconst (-1), 1) := by decide +kernel
theorem dX4_branch_26 : decode cX4_branch 26 = .ok (.if_icmp .ne 16, 3) := by decide +kernel
theorem dX4_branch_29 : decode cX4_branch 29 = .ok (.aload_n 0, 1) := by decide +kernel
theorem dX4_branch_30 : decode cX4_branch 30 = .ok (.getfield 43, 3) := by decide +kernel
theorem dX4_branch_33 : decode cX4_branch 33 = .ok (.sipush 400, 3) := by decide +kernel
theorem dX4_branch_36 : decode cX4_branch 36 = .ok (.if_icmp .ne 6, 3) := by decide +kernel
theorem dX4_branch_39 : decode cX4_branch 39 = .ok (.bipush (-4), 2) := by decide +kernel
theorem dX4_branch_41 : decode cX4_branch 41 = .ok (.ireturn, 1) := by decide +kernel
theorem dX4_branch_42 : decode cX4_branch 42 = .ok (.iload_n 1, 1) := by decide +kernel
theorem dX4_branch_43 : decode cX4_branch 43 = .ok (.iconst (-1), 1) := by decide +kernel
theorem dX4_branch_44 : decode cX4_branch 44 = .ok (.if_icmp .ne 8, 3) := by decide +kernel
theorem dX4_branch_47 : decode cX4_branch 47 = .ok (.aload_n 0, 1) := by decide +kernel
theorem dX4_branch_48 : decode cX4_branch 48 = .ok (.iconst (-1), 1) := by decide +kernel
theorem dX4_branch_49 : decode cX4_branch 49 = .ok (.invokevirtual 58, 3) := by decide +kernel
theorem dX4_branch_52 : decode cX4_branch 52 = .ok (.aload_n 0, 1) := by decide +kernel
theorem dX4_branch_53 : decode cX4_branch 53 = .ok (.getfield 21, 3) := by decide +kernel
theorem dX4_branch_56 : decode cX4_branch 56 = .ok (.aload_n 0, 1) := by decide +kernel
theorem dX4_branch_57 : decode cX4_branch 57 = .ok (.getfield 47, 3) := by decide +kernel
theorem dX4_branch_60 : decode cX4_branch 60 = .ok (.iload_n 1, 1) := by decide +kernel
theorem dX4_branch_61 : decode cX4_branch 61 = .ok (.iconst (-1), 1) := by decide +kernel
theorem dX4_branch_62 : decode cX4_branch 62 = .ok (.if_icmp .ne 12, 3) := by decide +kernel
theorem dX4_branch_65 : decode cX4_branch 65 = .ok (.aload_n 0, 1) := by decide +kernel
theorem dX4_branch_66 : decode cX4_branch 66 = .ok (.iconst (-1), 1) := by decide +kernel
theorem dX4_branch_67 : decode cX4_branch 67 = .ok (.iconst (-1), 1) := by decide +kernel
theorem dX4_branch_68 : decode cX4_branch 68 = .ok (.invokevirtual 62, 3) := by decide +kernel
theorem dX4_branch_71 : decode cX4_branch 71 = .ok (.goto 9, 3) := by decide +kernel
theorem dX4_branch_74 : decode cX4_branch 74 = .ok (.aload_n 0, 1) := by decide +kernel
theorem dX4_branch_75 : decode cX4_branch 75 = .ok (.getfield 21, 3) := by decide +kernel
theorem dX4_branch_78 : decode cX4_branch 78 = .ok (.iload_n 1, 1) := by decide +kernel
theorem dX4_branch_79 : decode cX4_branch 79 = .ok (.iaload, 1) := by decide +kernel
theorem dX4_branch_80 : decode cX4_branch 80 = .ok (.iastore, 1) := by decide +kernel
theorem dX4_branch_81 : decode cX4_branch 81 = .ok (.aload_n 0, 1) := by decide +kernel
theorem dX4_branch_82 : decode cX4_branch 82 = .ok (.dup, 1) := by decide +kernel
theorem dX4_branch_83 : decode cX4_branch 83 = .ok (.getfield 47, 3) := by decide +kernel
theorem dX4_branch_86 : decode cX4_branch 86 = .ok (.iconst 1, 1) := by decide +kernel
theorem dX4_branch_87 : decode cX4_branch 87 = .ok (.iadd, 1) := by decide +kernel
theorem dX4_branch_88 : decode cX4_branch 88 = .ok (.putfield 47, 3) := by decide +kernel
theorem dX4_branch_91 : decode cX4_branch 91 = .ok (.aload_n 0, 1) := by decide +kernel
theorem dX4_branch_92 : decode cX4_branch 92 = .ok (.getfield 47, 3) := by decide +kernel
theorem dX4_branch_95 : decode cX4_branch 95 = .ok (.iconst 1, 1) := by decide +kernel
theorem dX4_branch_96 : decode cX4_branch 96 = .ok (.isub, 1) := by decide +kernel
theorem dX4_branch_97 : decode cX4_branch 97 = .ok (.ireturn, 1) := by decide +kernel
set_option maxRecDepth 20000 in
theorem ggX4_head_X4_isBranch : GoodIn wsX4_head wsX4_isBranch := goodIn_r _ [6, 7, 8, 9, 10, 11, 12, 13, 14, 15, 16, 17, 18, 19, 20] (by decide +kernel) (by decide +kernel)
set_option maxRecDepth 20000 in
theorem gX4_head_X4_isBranch : GoodIn wsX4_head (wsV RX4 54 RX4 yX4_isBranch wsX4_isBranch) := goodIn_app (goodIn_of _ (by decide +kernel)) ggX4_head_X4_isBranch
theorem dX4_head_0 : decode cX4_head 0 = .ok (.aload_n 0, 1) := by decide +kernel
theorem dX4_head_1 : decode cX4_head 1 = .ok (.iload_n 1, 1) := by decide +kernel
theorem dX4_head_2 : decode cX4_head 2 = .ok (.invokevirtual 54, 3) := by decide +kernel
theorem dX4_head_5 : decode cX4_head 5 = .ok (.ifCond .eq 12, 3) := by decide +kernel
theorem dX4_head_8 : decode cX4_head 8 = .ok (.aload_n 0, 1) := by decide +kernel
theorem dX4_head_9 : decode cX4_head 9 = .ok (.getfield 21, 3) := by decide +kernel
theorem dX4_head_12 : decode cX4_head 12 = .ok (.iload_n 1, 1) := by decide +kernel
theorem dX4_head_13 : decode cX4_head 13 = .ok (.iaload, 1) := by decide +kernel
theorem dX4_head_14 : decode cX4_head 14 = .ok (.goto 4, 3) := by decide +kernel
theorem dX4_head_17 : decode cX4_head 17 = .ok (.iconst (-1), 1) := by decide +kernel
theorem dX4_head_18 : decode cX4_head 18 = .ok (.ireturn, 1) := by decide +kernel
set_option maxRecDepth 20000 in
theorem ggX4_step_X4_grow : GoodIn wsX4_step wsX4_grow := goodIn_r _ [6, 7, 8, 9, 10, 11, 12, 13, 14, 15, 16, 17, 18, 19, 20, 21, 22, 23, 24] (by decide +kernel) (by decide +kernel)
set_option maxRecDepth 20000 in
theorem gX4_step_X4_grow : GoodIn wsX4_step (wsV RX4 62 RX4 yX4_grow wsX4_grow) := goodIn_app (goodIn_of _ (by decide +kernel)) ggX4_step_X4_grow
theorem dX4_step_0 : decode cX4_step 0 = .ok (.aload_n 0, 1) := by decide +kernel
theorem dX4_step_1 : decode cX4_step 1 = .ok (.getfield 21, 3) := by decide +kernel
theorem dX4_step_4 : decode cX4_step 4 = .ok (.iload_n 1, 1) := by decide +kernel
theorem dX4_step_5 : decode cX4_step 5 = .ok (.aload_n 0, 1) := by decide +kernel
theorem dX4_step_6 : decode cX4_step 6 = .ok (.aload_n 0, 1) := by decide +kernel
theorem dX4_step_7 : decode cX4_step 7 = .ok (.getfield 21, 3) := by decide +kernel
theorem dX4_step_10 : decode cX4_step 10 = .ok (.iload_n 1, 1) := by decide +kernel
theorem dX4_step_11 : decode cX4_step 11 = .ok (.iaload, 1) := by decide +kernel
theorem dX4_step_12 : decode cX4_step 12 = .ok (.iconst (-1), 1) := by decide +kernel
theorem dX4_step_13 : decode cX4_step 13 = .ok (.invokevirtual 62, 3) := by decide +kernel
theorem dX4_step_16 : decode cX4_step 16 = .ok (.iastore, 1) := by decide +kernel
theorem dX4_step_17 : decode cX4_step 17 = .ok (.aload_n 0, 1) := by decide +kernel
theorem dX4_step_18 : decode cX4_step 18 = .ok (.getfield 21, 3) := by decide +kernel
theorem dX4_step_21 : decode cX4_step 21 = .ok (.iload_n 1, 1) := by decide +kernel
theorem dX4_step_22 : decode cX4_step 22 = .ok (.iaload, 1) := by decide +kernel
theorem dX4_step_23 : decode cX4_step 23 = .ok (.ireturn, 1) := by decide +kernel
set_option maxRecDepth 20000 in
theorem ggX4_put_X4_isBranch : GoodIn wsX4_put wsX4_isBranch := goodIn_r _ [8, 9, 32, 33, 34, 35, 36, 37, 38, 39, 40, 41, 42, 43, 44] (by decide +kernel) (by decide +kernel)
set_option maxRecDepth 20000 in
theorem gX4_put_X4_isBranch : GoodIn wsX4_put (wsV RX4 54 RX4 yX4_isBranch wsX4_isBranch) := goodIn_app (goodIn_of _ (by decide +kernel)) ggX4_put_X4_isBranch
set_option maxRecDepth 20000 in
theorem ggX4_put_X4_isTriple : GoodIn wsX4_put wsX4_isTriple := goodIn_r _ [12] (by decide +kernel) (by decide +kernel)
set_option maxRecDepth 20000 in
theorem gX4_put_X4_isTriple : GoodIn wsX4_put (va_wsS RX4 66 yX4_isTriple wsX4_isTriple) := goodIn_app (goodIn_of _ (by decide +kernel)) ggX4_put_X4_isTriple
set_option maxRecDepth 20000 in
theorem ggX4_put_X4_has : GoodIn wsX4_put wsX4_has := goodIn_r _ [16, 17, 32, 33, 34, 35, 36, 37, 38, 39, 40, 41, 42, 43, 44] (by decide +kernel) (by decide +kernel)
set_option maxRecDepth 20000 in
theorem gX4_put_X4_has : GoodIn wsX4_put (wsV RX4 50 RX4 yX4_has wsX4_has) := goodIn_app (goodIn_of _ (by decide +kernel)) ggX4_put_X4_has
set_option maxRecDepth 20000 in
theorem ggX4_put_X4_take : GoodIn wsX4_put wsX4_take := goodIn_r _ [21, 3, 13, 14, 15, 7, 16, 17, 32, 33, 34, 35, 36, 37, 38, 39, 40, 41, 42, 43, 44] (by decide +kernel) (by decide +kernel)
set_option maxRecDepth 20000 in
theorem gX4_put_X4_take : GoodIn wsX4_put (wsV RX4 58 RX4 yX4_take wsX4_take) := goodIn_app (goodIn_of _ (by decide +kernel)) ggX4_put_X4_take
set_option maxRecDepth 20000 in
theorem ggX4_put_X4_step : GoodIn wsX4_put wsX4_step := goodIn_r _ [25, 1, 26, 27, 28, 7, 29, 30, 2, 31, 17, 3, 32, 33, 34, 35, 36, 37, 38, 39, 40, 41, 42, 43, 44] (by decide +kernel) (by decide +kernel)
set_option maxRecDepth 20000 in
theorem gX4_put_X4_step : GoodIn wsX4_put (wsV RX4 69 RX4 yX4_step wsX4_step) := goodIn_app (goodIn_of _ (by decide +kernel)) ggX4_put_X4_step
theorem dX4_put_0 : decode cX4_put 0 = .ok (.aload_n 0, 1) := by decide +kernel
theorem dX4_put_1 : decode cX4_put 1 = .ok (.iload_n 1, 1) := by decide +kernel
theorem dX4_put_2 : decode cX4_put 2 = .ok (.invokevirtual 54, 3) := by decide +kernel
theorem dX4_put_5 : decode cX4_put 5 = .ok (.ifCond .ne 5, 3) := by decide +kernel
theorem dX4_put_8 : decode cX4_put 8 = .ok (.iconst (-1), 1) := by decide +kernel
theorem dX4_put_9 : decode cX4_put 9 = .ok (.ireturn, 1) := by decide +kernel
theorem dX4_put_10 : decode cX4_put 10 = .ok (.iload_n 2, 1) := by decide +kernel
theorem dX4_put_11 : decode cX4_put 11 = .ok (.invokestatic 66, 3) := by decide +kernel
theorem dX4_put_14 : decode cX4_put 14 = .ok (.ifCond .ne 6, 3) := by decide +kernel
theorem dX4_put_17 : decode cX4_put 17 = .ok (.bipush (-2), 2) := by decide +kernel
theorem dX4_put_19 : decode cX4_put 19 = .ok (.ireturn, 1) := by decide +kernel
theorem dX4_put_20 : decode cX4_put 20 = .ok (.aload_n 0, 1) := by decide +kernel
theorem dX4_put_21 : decode cX4_put 21 = .ok (.aload_n 0, 1) := by decide +kernel
theorem dX4_put_22 : decode cX4_put 22 = .ok (.getfield 21, 3) := by decide +kernel
theorem dX4_put_25 : decode cX4_put 25 = .ok (.iload_n 1, 1) := by decide +kernel
theorem dX4_put_26 : decode cX4_put 26 = .ok (.iaload, 1) := by decide +kernel
theorem dX4_put_27 : decode cX4_put 27 = .ok (.iload_n 2, 1) := by decide +kernel
theorem dX4_put_28 : decode cX4_put 28 = .ok (.invokevirtual 50, 3) := by decide +kernel
theorem dX4_put_31 : decode cX4_put 31 = .ok (.iload_n 3, 1) := by decide +kernel
theorem dX4_put_32 : decode cX4_put 32 = .ok (.if_icmp .ne 6, 3) := by decide +kernel
theorem dX4_put_35 : decode cX4_put 35 = .ok (.bipush (-3), 2) := by decide +kernel
theorem dX4_put_37 : decode cX4_put 37 = .ok (.ireturn, 1) := by decide +kernel
theorem dX4_put_38 : decode cX4_put 38 = .ok (.aload_n 0, 1) := by decide +kernel
theorem dX4_put_39 : decode cX4_put 39 = .ok (.getfield 43, 3) := by decide +kernel
theorem dX4_put_42 : decode cX4_put 42 = .ok (.sipush 400, 3) := by decide +kernel
theorem dX4_put_45 : decode cX4_put 45 = .ok (.if_icmp .ne 6, 3) := by decide +kernel
theorem dX4_put_48 : decode cX4_put 48 = .ok (.bipush (-4), 2) := by decide +kernel
theorem dX4_put_50 : decode cX4_put 50 = .ok (.ireturn, 1) := by decide +kernel
theorem dX4_put_51 : decode cX4_put 51 = .ok (.aload_n 0, 1) := by decide +kernel
theorem dX4_put_52 : decode cX4_put 52 = .ok (.aload_n 0, 1) := by decide +kernel
theorem dX4_put_53 : decode cX4_put 53 = .ok (.getfield 21, 3) := by decide +kernel
theorem dX4_put_56 : decode cX4_put 56 = .ok (.iload_n 1, 1) := by decide +kernel
theorem dX4_put_57 : decode cX4_put 57 = .ok (.iaload, 1) := by decide +kernel
theorem dX4_put_58 : decode cX4_put 58 = .ok (.invokevirtual 58, 3) := by decide +kernel
theorem dX4_put_61 : decode cX4_put 61 = .ok (.aload_n 0, 1) := by decide +kernel
theorem dX4_put_62 : decode cX4_put 62 = .ok (.getfield 31, 3) := by decide +kernel
theorem dX4_put_65 : decode cX4_put 65 = .ok (.iload_n 2, 1) := by decide +kernel
theorem dX4_put_66 : decode cX4_put 66 = .ok (.iload_n 3, 1) := by decide +kernel
theorem dX4_put_67 : decode cX4_put 67 = .ok (.ifCond .eq 7, 3) := by decide +kernel
theorem dX4_put_70 : decode cX4_put 70 = .ok (.iconst 1, 1) := by decide +kernel
theorem dX4_put_71 : decode cX4_put 71 = .ok (.goto 4, 3) := by decide +kernel
theorem dX4_put_74 : decode cX4_put 74 = .ok (.iconst 0, 1) := by decide +kernel
theorem dX4_put_75 : decode cX4_put 75 = .ok (.i2b, 1) := by decide +kernel
theorem dX4_put_76 : decode cX4_put 76 = .ok (.bastore, 1) := by decide +kernel
theorem dX4_put_77 : decode cX4_put 77 = .ok (.aload_n 0, 1) := by decide +kernel
theorem dX4_put_78 : decode cX4_put 78 = .ok (.iload_n 1, 1) := by decide +kernel
theorem dX4_put_79 : decode cX4_put 79 = .ok (.invokevirtual 69, 3) := by decide +kernel
theorem dX4_put_82 : decode cX4_put 82 = .ok (.ireturn, 1) := by decide +kernel
theorem dX4_isBlank_0 : decode cX4_isBlank 0 = .ok (.iload_n 0, 1) := by decide +kernel
theorem dX4_isBlank_1 : decode cX4_isBlank 1 = .ok (.ifCond .lt 13, 3) := by decide +kernel
theorem dX4_isBlank_4 : decode cX4_isBlank 4 = .ok (.iload_n 0, 1) := by decide +kernel
theorem dX4_isBlank_5 : decode cX4_isBlank 5 = .ok (.bipush 8, 2) := by decide +kernel
theorem dX4_isBlank_7 : decode cX4_isBlank 7 = .ok (.if_icmp .ge 7, 3) := by decide +kernel
theorem dX4_isBlank_10 : decode cX4_isBlank 10 = .ok (.iconst 1, 1) := by decide +kernel
theorem dX4_isBlank_11 : decode cX4_isBlank 11 = .ok (.goto 4, 3) := by decide +kernel
theorem dX4_isBlank_14 : decode cX4_isBlank 14 = .ok (.iconst 0, 1) := by decide +kernel
theorem dX4_isBlank_15 : decode cX4_isBlank 15 = .ok (.ireturn, 1) := by decide +kernel
set_option maxRecDepth 20000 in
theorem ggX4_stands_X4_has : GoodIn wsX4_stands wsX4_has := goodIn_r _ [5, 6, 7, 8, 9, 10, 11, 12, 13, 14, 15, 16, 17, 18, 19] (by decide +kernel) (by decide +kernel)
set_option maxRecDepth 20000 in
theorem gX4_stands_X4_has : GoodIn wsX4_stands (wsV RX4 50 RX4 yX4_has wsX4_has) := goodIn_app (goodIn_of _ (by decide +kernel)) ggX4_stands_X4_has
theorem dX4_stands_0 : decode cX4_stands 0 = .ok (.iconst 0, 1) := by decide +kernel
theorem dX4_stands_1 : decode cX4_stands 1 = .ok (.istore_n 3, 1) := by decide +kernel
theorem dX4_stands_2 : decode cX4_stands 2 = .ok (.iconst 0, 1) := by decide +kernel
theorem dX4_stands_3 : decode cX4_stands 3 = .ok (.istore 4, 2) := by decide +kernel
theorem dX4_stands_5 : decode cX4_stands 5 = .ok (.iload 4, 2) := by decide +kernel
theorem dX4_stands_7 : decode cX4_stands 7 = .ok (.sipush 4096, 3) := by decide +kernel
theorem dX4_stands_10 : decode cX4_stands 10 = .ok (.if_icmp .ge 58, 3) := by decide +kernel
theorem dX4_stands_13 : decode cX4_stands 13 = .ok (.iload_n 3, 1) := by decide +kernel
theorem dX4_stands_14 : decode cX4_stands 14 = .ok (.ifCond .ne 54, 3) := by decide +kernel
theorem dX4_stands_17 : decode cX4_stands 17 = .ok (.aload_n 0, 1) := by decide +kernel
theorem dX4_stands_18 : decode cX4_stands 18 = .ok (.iload_n 1, 1) := by decide +kernel
theorem dX4_stands_19 : decode cX4_stands 19 = .ok (.iload 4, 2) := by decide +kernel
theorem dX4_stands_21 : decode cX4_stands 21 = .ok (.invokevirtual 50, 3) := by decide +kernel
theorem dX4_stands_24 : decode cX4_stands 24 = .ok (.ifCond .eq 36, 3) := by decide +kernel
theorem dX4_stands_27 : decode cX4_stands 27 = .ok (.iload 4, 2) := by decide +kernel
theorem dX4_stands_29 : decode cX4_stands 29 = .ok (.bipush 8, 2) := by decide +kernel
theorem dX4_stands_31 : decode cX4_stands 31 = .ok (.ishr, 1) := by decide +kernel
theorem dX4_stands_32 : decode cX4_stands 32 = .ok (.iload_n 2, 1) := by decide +kernel
theorem dX4_stands_33 : decode cX4_stands 33 = .ok (.if_icmp .eq 23, 3) := by decide +kernel
theorem dX4_stands_36 : decode cX4_stands 36 = .ok (.iload 4, 2) := by decide +kernel
theorem dX4_stands_38 : decode cX4_stands 38 = .ok (.iconst 4, 1) := by decide +kernel
theorem dX4_stands_39 : decode cX4_stands 39 = .ok (.ishr, 1) := by decide +kernel
theorem dX4_stands_40 : decode cX4_stands 40 = .ok (.bipush 15, 2) := by decide +kernel
theorem dX4_stands_42 : decode cX4_stands 42 = .ok (.iand, 1) := by decide +kernel
theorem dX4_stands_43 : decode cX4_stands 43 = .ok (.iload_n 2, 1) := by decide +kernel
theorem dX4_stands_44 : decode cX4_stands 44 = .ok (.if_icmp .eq 12, 3) := by decide +kernel
theorem dX4_stands_47 : decode cX4_stands 47 = .ok (.iload 4, 2) := by decide +kernel
theorem dX4_stands_49 : decode cX4_stands 49 = .ok (.bipush 15, 2) := by decide +kernel
theorem dX4_stands_51 : decode cX4_stands 51 = .ok (.iand, 1) := by decide +kernel
theorem dX4_stands_52 : decode cX4_stands 52 = .ok (.iload_n 2, 1) := by decide +kernel
theorem dX4_stands_53 : decode cX4_stands 53 = .ok (.if_icmp .ne 7, 3) := by decide +kernel
theorem dX4_stands_56 : decode cX4_stands 56 = .ok (.iconst 1, 1) := by decide +kernel
theorem dX4_stands_57 : decode cX4_stands 57 = .ok (.goto 4, 3) := by decide +kernel
theorem dX4_stands_60 : decode cX4_stands 60 = .ok (.iconst 0, 1) := by decide +kernel
theorem dX4_stands_61 : decode cX4_stands 61 = .ok (.istore_n 3, 1) := by decide +kernel
theorem dX4_stands_62 : decode cX4_stands 62 = .ok (.iinc 4 1, 3) := by decide +kernel
theorem dX4_stands_65 : decode cX4_stands 65 = .ok (.goto (-60), 3) := by decide +kernel
theorem dX4_stands_68 : decode cX4_stands 68 = .ok (.iload_n 3, 1) := by decide +kernel
theorem dX4_stands_69 : decode cX4_stands 69 = .ok (.ireturn, 1) := by decide +kernel
theorem dX4_turned_0 : decode cX4_turned 0 = .ok (.iload_n 0, 1) := by decide +kernel
theorem dX4_turned_1 : decode cX4_turned 1 = .ok (.iload_n 1, 1) := by decide +kernel
theorem dX4_turned_2 : decode cX4_turned 2 = .ok (.if_icmp .ne 7, 3) := by decide +kernel
theorem dX4_turned_5 : decode cX4_turned 5 = .ok (.iload_n 2, 1) := by decide +kernel
theorem dX4_turned_6 : decode cX4_turned 6 = .ok (.goto 4, 3) := by decide +kernel
theorem dX4_turned_9 : decode cX4_turned 9 = .ok (.iload_n 0, 1) := by decide +kernel
theorem dX4_turned_10 : decode cX4_turned 10 = .ok (.ireturn, 1) := by decide +kernel
set_option maxRecDepth 20000 in
theorem ggX4_blank_X4_isBranch : GoodIn wsX4_blank wsX4_isBranch := goodIn_r _ [8, 9, 39, 40, 41, 42, 43, 44, 45, 46, 47, 48, 49, 50, 51] (by decide +kernel) (by decide +kernel)
set_option maxRecDepth 20000 in
theorem gX4_blank_X4_isBranch : GoodIn wsX4_blank (wsV RX4 54 RX4 yX4_isBranch wsX4_isBranch) := goodIn_app (goodIn_of _ (by decide +kernel)) ggX4_blank_X4_isBranch
set_option maxRecDepth 20000 in
theorem ggX4_blank_X4_isBlank : GoodIn wsX4_blank wsX4_isBlank := goodIn_r _ [12] (by decide +kernel) (by decide +kernel)
set_option maxRecDepth 20000 in
theorem gX4_blank_X4_isBlank : GoodIn wsX4_blank (va_wsS RX4 73 yX4_isBlank wsX4_isBlank) := goodIn_app (goodIn_of _ (by decide +kernel)) ggX4_blank_X4_isBlank
set_option maxRecDepth 20000 in
theorem ggX4_blank_X4_stands : GoodIn wsX4_blank wsX4_stands := goodIn_r _ [16, 17, 18, 19, 7, 20, 21, 39, 40, 41, 42, 43, 44, 45, 46, 47, 48, 49, 50, 51] (by decide +kernel) (by decide +kernel)
set_option maxRecDepth 20000 in
theorem gX4_blank_X4_stands : GoodIn wsX4_blank (wsV RX4 76 RX4 yX4_stands wsX4_stands) := goodIn_app (goodIn_of _ (by decide +kernel)) ggX4_blank_X4_stands
set_option maxRecDepth 20000 in
theorem ggX4_blank_X4_take : GoodIn wsX4_blank wsX4_take := goodIn_r _ [25, 3, 17, 18, 19, 7, 20, 21, 39, 40, 41, 42, 43, 44, 45, 46, 47, 48, 49, 50, 51] (by decide +kernel) (by decide +kernel)
set_option maxRecDepth 20000 in
theorem gX4_blank_X4_take : GoodIn wsX4_blank (wsV RX4 58 RX4 yX4_take wsX4_take) := goodIn_app (goodIn_of _ (by decide +kernel)) ggX4_blank_X4_take
set_option maxRecDepth 20000 in
theorem ggX4_blank_X4_has : GoodIn wsX4_blank wsX4_has := goodIn_r _ [20, 21, 39, 40, 41, 42, 43, 44, 45, 46, 47, 48, 49, 50, 51] (by decide +kernel) (by decide +kernel)
set_option maxRecDepth 20000 in
theorem gX4_blank_X4_has : GoodIn wsX4_blank (wsV RX4 50 RX4 yX4_has wsX4_has) := goodIn_app (goodIn_of _ (by decide +kernel)) ggX4_blank_X4_has
set_option maxRecDepth 20000 in
theorem ggX4_blank_X4_turned : GoodIn wsX4_blank wsX4_turned := goodIn_r _ [28] (by decide +kernel) (by decide +kernel)
set_option maxRecDepth 20000 in
theorem gX4_blank_X4_turned : GoodIn wsX4_blank (va_wsS RX4 79 yX4_turned wsX4_turned) := goodIn_app (goodIn_of _ (by decide +kernel)) ggX4_blank_X4_turned
set_option maxRecDepth 20000 in
theorem ggX4_blank_X4_step : GoodIn wsX4_blank wsX4_step := goodIn_r _ [32, 1, 33, 34, 35, 7, 36, 37, 2, 38, 21, 3, 39, 40, 41, 42, 43, 44, 45, 46, 47, 48, 49, 50, 51] (by decide +kernel) (by decide +kernel)
set_option maxRecDepth 20000 in
theorem gX4_blank_X4_step : GoodIn wsX4_blank (wsV RX4 69 RX4 yX4_step wsX4_step) := goodIn_app (goodIn_of _ (by decide +kernel)) ggX4_blank_X4_step
theorem dX4_blank_0 : decode cX4_blank 0 = .ok (.aload_n 0, 1) := by decide +kernel
theorem dX4_blank_1 : decode cX4_blank 1 = .ok (.iload_n 1, 1) := by decide +kernel
theorem dX4_blank_2 : decode cX4_blank 2 = .ok (.invokevirtual 54, 3) := by decide +kernel
theorem dX4_blank_5 : decode cX4_blank 5 = .ok (.ifCond .ne 5, 3) := by decide +kernel
theorem dX4_blank_8 : decode cX4_blank 8 = .ok (.iconst (-1), 1) := by decide +kernel
theorem dX4_blank_9 : decode cX4_blank 9 = .ok (.ireturn, 1) := by decide +kernel
theorem dX4_blank_10 : decode cX4_blank 10 = .ok (.iload_n 2, 1) := by decide +kernel
theorem dX4_blank_11 : decode cX4_blank 11 = .ok (.invokestatic 73, 3) := by decide +kernel
theorem dX4_blank_14 : decode cX4_blank 14 = .ok (.ifCond .eq 10, 3) := by decide +kernel
theorem dX4_blank_17 : decode cX4_blank 17 = .ok (.iload_n 3, 1) := by decide +kernel
theorem dX4_blank_18 : decode cX4_blank 18 = .ok (.invokestatic 73, 3) := by decide +kernel
theorem dX4_blank_21 : decode cX4_blank 21 = .ok (.ifCond .ne 6, 3) := by decide +kernel
theorem dX4_blank_24 : decode cX4_blank 24 = .ok (.bipush (-2), 2) := by decide +kernel
theorem dX4_blank_26 : decode cX4_blank 26 = .ok (.ireturn, 1) := by decide +kernel
theorem dX4_blank_27 : decode cX4_blank 27 = .ok (.iload_n 2, 1) := by decide +kernel
theorem dX4_blank_28 : decode cX4_blank 28 = .ok (.iload_n 3, 1) := by decide +kernel
theorem dX4_blank_29 : decode cX4_blank 29 = .ok (.if_icmp .eq 31, 3) := by decide +kernel
theorem dX4_blank_32 : decode cX4_blank 32 = .ok (.aload_n 0, 1) := by decide +kernel
theorem dX4_blank_33 : decode cX4_blank 33 = .ok (.aload_n 0, 1) := by decide +kernel
theorem dX4_blank_34 : decode cX4_blank 34 = .ok (.getfield 21, 3) := by decide +kernel
theorem dX4_blank_37 : decode cX4_blank 37 = .ok (.iload_n 1, 1) := by decide +kernel
theorem dX4_blank_38 : decode cX4_blank 38 = .ok (.iaload, 1) := by decide +kernel
theorem dX4_blank_39 : decode cX4_blank 39 = .ok (.iload_n 2, 1) := by decide +kernel
theorem dX4_blank_40 : decode cX4_blank 40 = .ok (.invokevirtual 76, 3) := by decide +kernel
theorem dX4_blank_43 : decode cX4_blank 43 = .ok (.ifCond .eq 17, 3) := by decide +kernel
theorem dX4_blank_46 : decode cX4_blank 46 = .ok (.aload_n 0, 1) := by decide +kernel
theorem dX4_blank_47 : decode cX4_blank 47 = .ok (.aload_n 0, 1) := by decide +kernel
theorem dX4_blank_48 : decode cX4_blank 48 = .ok (.getfield 21, 3) := by decide +kernel
theorem dX4_blank_51 : decode cX4_blank 51 = .ok (.iload_n 1, 1) := by decide +kernel
theorem dX4_blank_52 : decode cX4_blank 52 = .ok (.iaload, 1) := by decide +kernel
theorem dX4_blank_53 : decode cX4_blank 53 = .ok (.iload_n 3, 1) := by decide +kernel
theorem dX4_blank_54 : decode cX4_blank 54 = .ok (.invokevirtual 76, 3) := by decide +kernel
theorem dX4_blank_57 : decode cX4_blank 57 = .ok (.ifCond .eq 6, 3) := by decide +kernel
theorem dX4_blank_60 : decode cX4_blank 60 = .ok (.bipush (-3), 2) := by decide +kernel
theorem dX4_blank_62 : decode cX4_blank 62 = .ok (.ireturn, 1) := by decide +kernel
theorem dX4_blank_63 : decode cX4_blank 63 = .ok (.aload_n 0, 1) := by decide +kernel
theorem dX4_blank_64 : decode cX4_blank 64 = .ok (.getfield 43, 3) := by decide +kernel
theorem dX4_blank_67 : decode cX4_blank 67 = .ok (.sipush 400, 3) := by decide +kernel
theorem dX4_blank_70 : decode cX4_blank 70 = .ok (.if_icmp .ne 6, 3) := by decide +kernel
theorem dX4_blank_73 : decode cX4_blank 73 = .ok (.bipush (-4), 2) := by decide +kernel
theorem dX4_blank_75 : decode cX4_blank 75 = .ok (.ireturn, 1) := by decide +kernel
theorem dX4_blank_76 : decode cX4_blank 76 = .ok (.aload_n 0, 1) := by decide +kernel
theorem dX4_blank_77 : decode cX4_blank 77 = .ok (.iconst (-1), 1) := by decide +kernel
theorem dX4_blank_78 : decode cX4_blank 78 = .ok (.invokevirtual 58, 3) := by decide +kernel
theorem dX4_blank_81 : decode cX4_blank 81 = .ok (.iconst 0, 1) := by decide +kernel
theorem dX4_blank_82 : decode cX4_blank 82 = .ok (.istore 4, 2) := by decide +kernel
theorem dX4_blank_84 : decode cX4_blank 84 = .ok (.iload 4, 2) := by decide +kernel
theorem dX4_blank_86 : decode cX4_blank 86 = .ok (.sipush 4096, 3) := by decide +kernel
theorem dX4_blank_89 : decode cX4_blank 89 = .ok (.if_icmp .ge 71, 3) := by decide +kernel
theorem dX4_blank_92 : decode cX4_blank 92 = .ok (.aload_n 0, 1) := by decide +kernel
theorem dX4_blank_93 : decode cX4_blank 93 = .ok (.aload_n 0, 1) := by decide +kernel
theorem dX4_blank_94 : decode cX4_blank 94 = .ok (.getfield 21, 3) := by decide +kernel
theorem dX4_blank_97 : decode cX4_blank 97 = .ok (.iload_n 1, 1) := by decide +kernel
theorem dX4_blank_98 : decode cX4_blank 98 = .ok (.iaload, 1) := by decide +kernel
theorem dX4_blank_99 : decode cX4_blank 99 = .ok (.iload 4, 2) := by decide +kernel
theorem dX4_blank_101 : decode cX4_blank 101 = .ok (.invokevirtual 50, 3) := by decide +kernel
theorem dX4_blank_104 : decode cX4_blank 104 = .ok (.ifCond .eq 50, 3) := by decide +kernel
theorem dX4_blank_107 : decode cX4_blank 107 = .ok (.aload_n 0, 1) := by decide +kernel
theorem dX4_blank_108 : decode cX4_blank 108 = .ok (.getfield 31, 3) := by decide +kernel
theorem dX4_blank_111 : decode cX4_blank 111 = .ok (.sipush 256, 3) := by decide +kernel
theorem dX4_blank_114 : decode cX4_blank 114 = .ok (.iload 4, 2) := by decide +kernel
theorem dX4_blank_116 : decode cX4_blank 116 = .ok (.bipush 8, 2) := by decide +kernel
theorem dX4_blank_118 : decode cX4_blank 118 = .ok (.ishr, 1) := by decide +kernel
theorem dX4_blank_119 : decode cX4_blank 119 = .ok (.iload_n 2, 1) := by decide +kernel
theorem dX4_blank_120 : decode cX4_blank 120 = .ok (.iload_n 3, 1) := by decide +kernel
theorem dX4_blank_121 : decode cX4_blank 121 = .ok (.invokestatic 79, 3) := by decide +kernel
theorem dX4_blank_124 : decode cX4_blank 124 = .ok (.imul, 1) := by decide +kernel
theorem dX4_blank_125 : decode cX4_blank 125 = .ok (.bipush 16, 2) := by decide +kernel
theorem dX4_blank_127 : decode cX4_blank 127 = .ok (.iload 4, 2) := by decide +kernel
theorem dX4_blank_129 : decode cX4_blank 129 = .ok (.iconst 4, 1) := by decide +kernel
theorem dX4_blank_130 : decode cX4_blank 130 = .ok (.ishr, 1) := by decide +kernel
theorem dX4_blank_131 : decode cX4_blank 131 = .ok (.bipush 15, 2) := by decide +kernel
theorem dX4_blank_133 : decode cX4_blank 133 = .ok (.iand, 1) := by decide +kernel
theorem dX4_blank_134 : decode cX4_blank 134 = .ok (.iload_n 2, 1) := by decide +kernel
theorem dX4_blank_135 : decode cX4_blank 135 = .ok (.iload_n 3, 1) := by decide +kernel
theorem dX4_blank_136 : decode cX4_blank 136 = .ok (.invokestatic 79, 3) := by decide +kernel
theorem dX4_blank_139 : decode cX4_blank 139 = .ok (.imul, 1) := by decide +kernel
theorem dX4_blank_140 : decode cX4_blank 140 = .ok (.iadd, 1) := by decide +kernel
theorem dX4_blank_141 : decode cX4_blank 141 = .ok (.iload 4, 2) := by decide +kernel
theorem dX4_blank_143 : decode cX4_blank 143 = .ok (.bipush 15, 2) := by decide +kernel
theorem dX4_blank_145 : decode cX4_blank 145 = .ok (.iand, 1) := by decide +kernel
theorem dX4_blank_146 : decode cX4_blank 146 = .ok (.iload_n 2, 1) := by decide +kernel
theorem dX4_blank_147 : decode cX4_blank 147 = .ok (.iload_n 3, 1) := by decide +kernel
theorem dX4_blank_148 : decode cX4_blank 148 = .ok (.invokestatic 79, 3) := by decide +kernel
theorem dX4_blank_151 : decode cX4_blank 151 = .ok (.iadd, 1) := by decide +kernel
theorem dX4_blank_152 : decode cX4_blank 152 = .ok (.iconst 1, 1) := by decide +kernel
theorem dX4_blank_153 : decode cX4_blank 153 = .ok (.bastore, 1) := by decide +kernel
theorem dX4_blank_154 : decode cX4_blank 154 = .ok (.iinc 4 1, 3) := by decide +kernel
theorem dX4_blank_157 : decode cX4_blank 157 = .ok (.goto (-73), 3) := by decide +kernel
theorem dX4_blank_160 : decode cX4_blank 160 = .ok (.aload_n 0, 1) := by decide +kernel
theorem dX4_blank_161 : decode cX4_blank 161 = .ok (.iload_n 1, 1) := by decide +kernel
theorem dX4_blank_162 : decode cX4_blank 162 = .ok (.invokevirtual 69, 3) := by decide +kernel
theorem dX4_blank_165 : decode cX4_blank 165 = .ok (.ireturn, 1) := by decide +kernel
theorem dX4_mark_0 : decode cX4_mark 0 = .ok (.iconst 0, 1) := by decide +kernel
theorem dX4_mark_1 : decode cX4_mark 1 = .ok (.istore_n 3, 1) := by decide +kernel
theorem dX4_mark_2 : decode cX4_mark 2 = .ok (.iload_n 3, 1) := by decide +kernel
theorem dX4_mark_3 : decode cX4_mark 3 = .ok (.aload_n 0, 1) := by decide +kernel
theorem dX4_mark_4 : decode cX4_mark 4 = .ok (.getfield 43, 3) := by decide +kernel
theorem dX4_mark_7 : decode cX4_mark 7 = .ok (.if_icmp .ge 22, 3) := by decide +kernel
theorem dX4_mark_10 : decode cX4_mark 10 = .ok (.aload_n 2, 1) := by decide +kernel
theorem dX4_mark_11 : decode cX4_mark 11 = .ok (.iload_n 3, 1) := by decide +kernel
theorem dX4_mark_12 : decode cX4_mark 12 = .ok (.iload_n 3, 1) := by decide +kernel
theorem dX4_mark_13 : decode cX4_mark 13 = .ok (.iload_n 1, 1) := by decide +kernel
theorem dX4_mark_14 : decode cX4_mark 14 = .ok (.if_icmp .ne 7, 3) := by decide +kernel
theorem dX4_mark_17 : decode cX4_mark 17 = .ok (.iconst 1, 1) := by decide +kernel
theorem dX4_mark_18 : decode cX4_mark 18 = .ok (.goto 4, 3) := by decide +kernel
theorem dX4_mark_21 : decode cX4_mark 21 = .ok (.iconst 0, 1) := by decide +kernel
theorem dX4_mark_22 : decode cX4_mark 22 = .ok (.bastore, 1) := by decide +kernel
theorem dX4_mark_23 : decode cX4_mark 23 = .ok (.iinc 3 1, 3) := by decide +kernel
theorem dX4_mark_26 : decode cX4_mark 26 = .ok (.goto (-24), 3) := by decide +kernel
theorem dX4_mark_29 : decode cX4_mark 29 = .ok (.iload_n 1, 1) := by decide +kernel
theorem dX4_mark_30 : decode cX4_mark 30 = .ok (.istore_n 3, 1) := by decide +kernel
theorem dX4_mark_31 : decode cX4_mark 31 = .ok (.iload_n 3, 1) := by decide +kernel
theorem dX4_mark_32 : decode cX4_mark 32 = .ok (.ifCond .lt 54, 3) := by decide +kernel
theorem dX4_mark_35 : decode cX4_mark 35 = .ok (.aload_n 2, 1) := by decide +kernel
theorem dX4_mark_36 : decode cX4_mark 36 = .ok (.iload_n 3, 1) := by decide +kernel
theorem dX4_mark_37 : decode cX4_mark 37 = .ok (.baload, 1) := by decide +kernel
theorem dX4_mark_38 : decode cX4_mark 38 = .ok (.ifCond .ne 6, 3) := by decide +kernel
theorem dX4_mark_41 : decode cX4_mark 41 = .ok (.goto 39, 3) := by decide +kernel
theorem dX4_mark_44 : decode cX4_mark 44 = .ok (.aload_n 0, 1) := by decide +kernel
theorem dX4_mark_45 : decode cX4_mark 45 = .ok (.getfield 14, 3) := by decide +kernel
theorem dX4_mark_48 : decode cX4_mark 48 = .ok (.iload_n 3, 1) := by decide +kernel
theorem dX4_mark_49 : decode cX4_mark 49 = .ok (.iaload, 1) := by decide +kernel
theorem dX4_mark_50 : decode cX4_mark 50 = .ok (.ifCond .lt 12, 3) := by decide +kernel
theorem dX4_mark_53 : decode cX4_mark 53 = .ok (.aload_n 2, 1) := by decide +kernel
theorem dX4_mark_54 : decode cX4_mark 54 = .ok (.aload_n 0, 1) := by decide +kernel
theorem dX4_mark_55 : decode cX4_mark 55 = .ok (.getfield 14, 3) := by decide +kernel
theorem dX4_mark_58 : decode cX4_mark 58 = .ok (.iload_n 3, 1) := by decide +kernel
theorem dX4_mark_59 : decode cX4_mark 59 = .ok (.iaload, 1) := by decide +kernel
theorem dX4_mark_60 : decode cX4_mark 60 = .ok (.iconst 1, 1) := by decide +kernel
theorem dX4_mark_61 : decode cX4_mark 61 = .ok (.bastore, 1) := by decide +kernel
theorem dX4_mark_62 : decode cX4_mark 62 = .ok (.aload_n 0, 1) := by decide +kernel
theorem dX4_mark_63 : decode cX4_mark 63 = .ok (.getfield 18, 3) := by decide +kernel
theorem dX4_mark_66 : decode cX4_mark 66 = .ok (.iload_n 3, 1) := by decide +kernel
theorem dX4_mark_67 : decode cX4_mark 67 = .ok (.iaload, 1) := by decide +kernel
theorem dX4_mark_68 : decode cX4_mark 68 = .ok (.ifCond .lt 12, 3) := by decide +kernel
theorem dX4_mark_71 : decode cX4_mark 71 = .ok (.aload_n 2, 1) := by decide +kernel
theorem dX4_mark_72 : decode cX4_mark 72 = .ok (.aload_n 0, 1) := by decide +kernel
theorem dX4_mark_73 : decode cX4_mark 73 = .ok (.getfield 18, 3) := by decide +kernel
theorem dX4_mark_76 : decode cX4_mark 76 = .ok (.iload_n 3, 1) := by decide +kernel
theorem dX4_mark_77 : decode cX4_mark 77 = .ok (.iaload, 1) := by decide +kernel
theorem dX4_mark_78 : decode cX4_mark 78 = .ok (.iconst 1, 1) := by decide +kernel
theorem dX4_mark_79 : decode cX4_mark 79 = .ok (.bastore, 1) := by decide +kernel
theorem dX4_mark_80 : decode cX4_mark 80 = .ok (.iinc 3 (-1), 3) := by decide +kernel
theorem dX4_mark_83 : decode cX4_mark 83 = .ok (.goto (-52), 3) := by decide +kernel
theorem dX4_mark_86 : decode cX4_mark 86 = .ok (.return_, 1) := by decide +kernel
set_option maxRecDepth 20000 in
theorem ggX4_common_X4_mark : GoodIn wsX4_common wsX4_mark := goodIn_r _ [8, 3, 9, 10, 11, 12, 13, 14, 15, 16, 17, 18, 19, 20, 21, 22, 23] (by decide +kernel) (by decide +kernel)
set_option maxRecDepth 20000 in
theorem gX4_common_X4_mark : GoodIn wsX4_common (wsV RX4 83 RX4 yX4_mark wsX4_mark) := goodIn_app (goodIn_of _ (by decide +kernel)) ggX4_common_X4_mark
theorem dX4_common_0 : decode cX4_common 0 = .ok (.aload_n 0, 1) := by decide +kernel
theorem dX4_common_1 : decode cX4_common 1 = .ok (.iload_n 1, 1) := by decide +kernel
theorem dX4_common_2 : decode cX4_common 2 = .ok (.aload_n 0, 1) := by decide +kernel
theorem dX4_common_3 : decode cX4_common 3 = .ok (.getfield 24, 3) := by decide +kernel
theorem dX4_common_6 : decode cX4_common 6 = .ok (.invokevirtual 83, 3) := by decide +kernel
theorem dX4_common_9 : decode cX4_common 9 = .ok (.aload_n 0, 1) := by decide +kernel
theorem dX4_common_10 : decode cX4_common 10 = .ok (.iload_n 2, 1) := by decide +kernel
theorem dX4_common_11 : decode cX4_common 11 = .ok (.aload_n 0, 1) := by decide +kernel
theorem dX4_common_12 : decode cX4_common 12 = .ok (.getfield 28, 3) := by decide +kernel
theorem dX4_common_15 : decode cX4_common 15 = .ok (.invokevirtual 83, 3) := by decide +kernel
theorem dX4_common_18 : decode cX4_common 18 = .ok (.aload_n 0, 1) := by decide +kernel
theorem dX4_common_19 : decode cX4_common 19 = .ok (.getfield 43, 3) := by decide +kernel
theorem dX4_common_22 : decode cX4_common 22 = .ok (.iconst 1, 1) := by decide +kernel
theorem dX4_common_23 : decode cX4_common 23 = .ok (.isub, 1) := by decide +kernel
theorem dX4_common_24 : decode cX4_common 24 = .ok (.istore_n 3, 1) := by decide +kernel
theorem dX4_common_25 : decode cX4_common 25 = .ok (.iload_n 3, 1) := by decide +kernel
theorem dX4_common_26 : decode cX4_common 26 = .ok (.ifCond .lt 27, 3) := by decide +kernel
theorem dX4_common_29 : decode cX4_common 29 = .ok (.aload_n 0, 1) := by decide +kernel
theorem dX4_common_30 : decode cX4_common 30 = .ok (.getfield 24, 3) := by decide +kernel
theorem dX4_common_33 : decode cX4_common 33 = .ok (.iload_n 3, 1) := by decide +kernel
theorem dX4_common_34 : decode cX4_common 34 = .ok (.baload, 1) := by decide +kernel
theorem dX4_common_35 : decode cX4_common 35 = .ok (.ifCond .eq 12, 3) := by decide +kernel
theorem dX4_common_38 : decode cX4_common 38 = .ok (.aload_n 0, 1) := by decide +kernel
theorem dX4_common_39 : decode cX4_common 39 = .ok (.getfield 28, 3) := by decide +kernel
theorem dX4_common_42 : decode cX4_common 42 = .ok (.iload_n 3, 1) := by decide +kernel
theorem dX4_common_43 : decode cX4_common 43 = .ok (.baload, 1) := by decide +kernel
theorem dX4_common_44 : decode cX4_common 44 = .ok (.ifCond .ne 9, 3) := by decide +kernel
theorem dX4_common_47 : decode cX4_common 47 = .ok (.iinc 3 (-1), 3) := by decide +kernel
theorem dX4_common_50 : decode cX4_common 50 = .ok (.goto (-25), 3) := by decide +kernel
theorem dX4_common_53 : decode cX4_common 53 = .ok (.iload_n 3, 1) := by decide +kernel
theorem dX4_common_54 : decode cX4_common 54 = .ok (.ireturn, 1) := by decide +kernel
set_option maxRecDepth 20000 in
theorem ggX4_base_X4_isBranch : GoodIn wsX4_base wsX4_isBranch := goodIn_r _ [6, 7, 21, 22, 23, 24, 25, 26, 27, 28, 29, 30, 31, 32, 33] (by decide +kernel) (by decide +kernel)
set_option maxRecDepth 20000 in
theorem gX4_base_X4_isBranch : GoodIn wsX4_base (wsV RX4 54 RX4 yX4_isBranch wsX4_isBranch) := goodIn_app (goodIn_of _ (by decide +kernel)) ggX4_base_X4_isBranch
set_option maxRecDepth 20000 in
theorem ggX4_base_X4_common : GoodIn wsX4_base wsX4_common := goodIn_r _ [11, 12, 13, 14, 15, 16, 17, 5, 18, 19, 20, 21, 22, 23, 24, 25, 26, 27, 28, 29, 30, 31, 32, 33] (by decide +kernel) (by decide +kernel)
set_option maxRecDepth 20000 in
theorem gX4_base_X4_common : GoodIn wsX4_base (wsV RX4 87 RX4 yX4_common wsX4_common) := goodIn_app (goodIn_of _ (by decide +kernel)) ggX4_base_X4_common
theorem dX4_base_0 : decode cX4_base 0 = .ok (.aload_n 0, 1) := by decide +kernel
theorem dX4_base_1 : decode cX4_base 1 = .ok (.iload_n 1, 1) := by decide +kernel
theorem dX4_base_2 : decode cX4_base 2 = .ok (.invokevirtual 54, 3) := by decide +kernel
theorem dX4_base_5 : decode cX4_base 5 = .ok (.ifCond .eq 11, 3) := by decide +kernel
theorem dX4_base_8 : decode cX4_base 8 = .ok (.aload_n 0, 1) := by decide +kernel
theorem dX4_base_9 : decode cX4_base 9 = .ok (.iload_n 2, 1) := by decide +kernel
theorem dX4_base_10 : decode cX4_base 10 = .ok (.invokevirtual 54, 3) := by decide +kernel
theorem dX4_base_13 : decode cX4_base 13 = .ok (.ifCond .ne 5, 3) := by decide +kernel
theorem dX4_base_16 : decode cX4_base 16 = .ok (.iconst (-1), 1) := by decide +kernel
theorem dX4_base_17 : decode cX4_base 17 = .ok (.ireturn, 1) := by decide +kernel
theorem dX4_base_18 : decode cX4_base 18 = .ok (.aload_n 0, 1) := by decide +kernel
theorem dX4_base_19 : decode cX4_base 19 = .ok (.aload_n 0, 1) := by decide +kernel
theorem dX4_base_20 : decode cX4_base 20 = .ok (.getfield 21, 3) := by decide +kernel
theorem dX4_base_23 : decode cX4_base 23 = .ok (.iload_n 1, 1) := by decide +kernel
theorem dX4_base_24 : decode cX4_base 24 = .ok (.iaload, 1) := by decide +kernel
theorem dX4_base_25 : decode cX4_base 25 = .ok (.aload_n 0, 1) := by decide +kernel
theorem dX4_base_26 : decode cX4_base 26 = .ok (.getfield 21, 3) := by decide +kernel
theorem dX4_base_29 : decode cX4_base 29 = .ok (.iload_n 2, 1) := by decide +kernel
theorem dX4_base_30 : decode cX4_base 30 = .ok (.iaload, 1) := by decide +kernel
theorem dX4_base_31 : decode cX4_base 31 = .ok (.invokevirtual 87, 3) := by decide +kernel
theorem dX4_base_34 : decode cX4_base 34 = .ok (.istore_n 3, 1) := by decide +kernel
theorem dX4_base_35 : decode cX4_base 35 = .ok (.iload_n 3, 1) := by decide +kernel
theorem dX4_base_36 : decode cX4_base 36 = .ok (.ifCond .ge 8, 3) := by decide +kernel
theorem dX4_base_39 : decode cX4_base 39 = .ok (.bipush (-3), 2) := by decide +kernel
theorem dX4_base_41 : decode cX4_base 41 = .ok (.goto 4, 3) := by decide +kernel
theorem dX4_base_44 : decode cX4_base 44 = .ok (.iload_n 3, 1) := by decide +kernel
theorem dX4_base_45 : decode cX4_base 45 = .ok (.ireturn, 1) := by decide +kernel
set_option maxRecDepth 20000 in
theorem ggX4_merge_X4_isBranch : GoodIn wsX4_merge wsX4_isBranch := goodIn_r _ [9, 10, 39, 40, 41, 42, 43, 44, 45, 46, 47, 48, 49, 50, 51] (by decide +kernel) (by decide +kernel)
set_option maxRecDepth 20000 in
theorem gX4_merge_X4_isBranch : GoodIn wsX4_merge (wsV RX4 54 RX4 yX4_isBranch wsX4_isBranch) := goodIn_app (goodIn_of _ (by decide +kernel)) ggX4_merge_X4_isBranch
set_option maxRecDepth 20000 in
theorem ggX4_merge_X4_common : GoodIn wsX4_merge wsX4_common := goodIn_r _ [14, 15, 16, 3, 17, 18, 19, 8, 20, 21, 22, 39, 40, 41, 42, 43, 44, 45, 46, 47, 48, 49, 50, 51] (by decide +kernel) (by decide +kernel)
set_option maxRecDepth 20000 in
theorem gX4_merge_X4_common : GoodIn wsX4_merge (wsV RX4 87 RX4 yX4_common wsX4_common) := goodIn_app (goodIn_of _ (by decide +kernel)) ggX4_merge_X4_common
set_option maxRecDepth 20000 in
theorem ggX4_merge_X4_has : GoodIn wsX4_merge wsX4_has := goodIn_r _ [26, 27, 39, 40, 41, 42, 43, 44, 45, 46, 47, 48, 49, 50, 51] (by decide +kernel) (by decide +kernel)
set_option maxRecDepth 20000 in
theorem gX4_merge_X4_has : GoodIn wsX4_merge (wsV RX4 50 RX4 yX4_has wsX4_has) := goodIn_app (goodIn_of _ (by decide +kernel)) ggX4_merge_X4_has
set_option maxRecDepth 20000 in
theorem ggX4_merge_X4_look : GoodIn wsX4_merge wsX4_look := goodIn_r _ [31, 2, 4, 32, 33, 34, 39, 40, 41, 42, 43, 44, 45, 46, 47, 48, 49, 50, 51] (by decide +kernel) (by decide +kernel)
set_option maxRecDepth 20000 in
theorem gX4_merge_X4_look : GoodIn wsX4_merge (wsV RX4 93 RX4 yX4_look wsX4_look) := goodIn_app (goodIn_of _ (by decide +kernel)) ggX4_merge_X4_look
set_option maxRecDepth 20000 in
theorem ggX4_merge_X4_grow : GoodIn wsX4_merge wsX4_grow := goodIn_r _ [38, 21, 3, 22, 27, 4, 39, 40, 41, 42, 43, 44, 45, 46, 47, 48, 49, 50, 51] (by decide +kernel) (by decide +kernel)
set_option maxRecDepth 20000 in
theorem gX4_merge_X4_grow : GoodIn wsX4_merge (wsV RX4 62 RX4 yX4_grow wsX4_grow) := goodIn_app (goodIn_of _ (by decide +kernel)) ggX4_merge_X4_grow
theorem dX4_merge_0 : decode cX4_merge 0 = .ok (.aload_n 0, 1) := by decide +kernel
theorem dX4_merge_1 : decode cX4_merge 1 = .ok (.iload_n 1, 1) := by decide +kernel
theorem dX4_merge_2 : decode cX4_merge 2 = .ok (.invokevirtual 54, 3) := by decide +kernel
theorem dX4_merge_5 : decode cX4_merge 5 = .ok (.ifCond .eq 11, 3) := by decide +kernel
theorem dX4_merge_8 : decode cX4_merge 8 = .ok (.aload_n 0, 1) := by decide +kernel
theorem dX4_merge_9 : decode cX4_merge 9 = .ok (.iload_n 2, 1) := by decide +kernel
theorem dX4_merge_10 : decode cX4_merge 10 = .ok (.invokevirtual 54, 3) := by decide +kernel
theorem dX4_merge_13 : decode cX4_merge 13 = .ok (.ifCond .ne 5, 3) := by decide +kernel
theorem dX4_merge_16 : decode cX4_merge 16 = .ok (.iconst (-1), 1) := by decide +kernel
theorem dX4_merge_17 : decode cX4_merge 17 = .ok (.ireturn, 1) := by decide +kernel
theorem dX4_merge_18 : decode cX4_merge 18 = .ok (.aload_n 0, 1) := by decide +kernel
theorem dX4_merge_19 : decode cX4_merge 19 = .ok (.getfield 21, 3) := by decide +kernel
theorem dX4_merge_22 : decode cX4_merge 22 = .ok (.iload_n 1, 1) := by decide +kernel
theorem dX4_merge_23 : decode cX4_merge 23 = .ok (.iaload, 1) := by decide +kernel
theorem dX4_merge_24 : decode cX4_merge 24 = .ok (.istore_n 3, 1) := by decide +kernel
theorem dX4_merge_25 : decode cX4_merge 25 = .ok (.aload_n 0, 1) := by decide +kernel
theorem dX4_merge_26 : decode cX4_merge 26 = .ok (.getfield 21, 3) := by decide +kernel
theorem dX4_merge_29 : decode cX4_merge 29 = .ok (.iload_n 2, 1) := by decide +kernel
theorem dX4_merge_30 : decode cX4_merge 30 = .ok (.iaload, 1) := by decide +kernel
theorem dX4_merge_31 : decode cX4_merge 31 = .ok (.istore 4, 2) := by decide +kernel
theorem dX4_merge_33 : decode cX4_merge 33 = .ok (.aload_n 0, 1) := by decide +kernel
theorem dX4_merge_34 : decode cX4_merge 34 = .ok (.iload_n 3, 1) := by decide +kernel
theorem dX4_merge_35 : decode cX4_merge 35 = .ok (.iload 4, 2) := by decide +kernel
theorem dX4_merge_37 : decode cX4_merge 37 = .ok (.invokevirtual 87, 3) := by decide +kernel
theorem dX4_merge_40 : decode cX4_merge 40 = .ok (.istore 5, 2) := by decide +kernel
theorem dX4_merge_42 : decode cX4_merge 42 = .ok (.iload 5, 2) := by decide +kernel
theorem dX4_merge_44 : decode cX4_merge 44 = .ok (.iload 4, 2) := by decide +kernel
theorem dX4_merge_46 : decode cX4_merge 46 = .ok (.if_icmp .eq 9, 3) := by decide +kernel
theorem dX4_merge_49 : decode cX4_merge 49 = .ok (.iload 5, 2) := by decide +kernel
theorem dX4_merge_51 : decode cX4_merge 51 = .ok (.iload_n 3, 1) := by decide +kernel
theorem dX4_merge_52 : decode cX4_merge 52 = .ok (.if_icmp .ne 24, 3) := by decide +kernel
theorem dX4_merge_55 : decode cX4_merge 55 = .ok (.aload_n 0, 1) := by decide +kernel
theorem dX4_merge_56 : decode cX4_merge 56 = .ok (.iconst 0, 1) := by decide +kernel
theorem dX4_merge_57 : decode cX4_merge 57 = .ok (.putfield 90, 3) := by decide +kernel
theorem dX4_merge_60 : decode cX4_merge 60 = .ok (.iload 5, 2) := by decide +kernel
theorem dX4_merge_62 : decode cX4_merge 62 = .ok (.iload_n 3, 1) := by decide +kernel
theorem dX4_merge_63 : decode cX4_merge 63 = .ok (.if_icmp .ne 11, 3) := by decide +kernel
theorem dX4_merge_66 : decode cX4_merge 66 = .ok (.aload_n 0, 1) := by decide +kernel
theorem dX4_merge_67 : decode cX4_merge 67 = .ok (.getfield 21, 3) := by decide +kernel
theorem dX4_merge_70 : decode cX4_merge 70 = .ok (.iload_n 1, 1) := by decide +kernel
theorem dX4_merge_71 : decode cX4_merge 71 = .ok (.iload 4, 2) := by decide +kernel
theorem dX4_merge_73 : decode cX4_merge 73 = .ok (.iastore, 1) := by decide +kernel
theorem dX4_merge_74 : decode cX4_merge 74 = .ok (.iconst 0, 1) := by decide +kernel
theorem dX4_merge_75 : decode cX4_merge 75 = .ok (.ireturn, 1) := by decide +kernel
theorem dX4_merge_76 : decode cX4_merge 76 = .ok (.aload_n 0, 1) := by decide +kernel
theorem dX4_merge_77 : decode cX4_merge 77 = .ok (.getfield 43, 3) := by decide +kernel
theorem dX4_merge_80 : decode cX4_merge 80 = .ok (.sipush 400, 3) := by decide +kernel
theorem dX4_merge_83 : decode cX4_merge 83 = .ok (.if_icmp .ne 6, 3) := by decide +kernel
theorem dX4_merge_86 : decode cX4_merge 86 = .ok (.bipush (-4), 2) := by decide +kernel
theorem dX4_merge_88 : decode cX4_merge 88 = .ok (.ireturn, 1) := by decide +kernel
theorem dX4_merge_89 : decode cX4_merge 89 = .ok (.iconst 0, 1) := by decide +kernel
theorem dX4_merge_90 : decode cX4_merge 90 = .ok (.istore 6, 2) := by decide +kernel
theorem dX4_merge_92 : decode cX4_merge 92 = .ok (.iload 6, 2) := by decide +kernel
theorem dX4_merge_94 : decode cX4_merge 94 = .ok (.sipush 4096, 3) := by decide +kernel
theorem dX4_merge_97 : decode cX4_merge 97 = .ok (.if_icmp .ge 72, 3) := by decide +kernel
theorem dX4_merge_100 : decode cX4_merge 100 = .ok (.aload_n 0, 1) := by decide +kernel
theorem dX4_merge_101 : decode cX4_merge 101 = .ok (.iload_n 3, 1) := by decide +kernel
theorem dX4_merge_102 : decode cX4_merge 102 = .ok (.iload 6, 2) := by decide +kernel
theorem dX4_merge_104 : decode cX4_merge 104 = .ok (.invokevirtual 50, 3) := by decide +kernel
theorem dX4_merge_107 : decode cX4_merge 107 = .ok (.istore 7, 2) := by decide +kernel
theorem dX4_merge_109 : decode cX4_merge 109 = .ok (.iload 7, 2) := by decide +kernel
theorem dX4_merge_111 : decode cX4_merge 111 = .ok (.aload_n 0, 1) := by decide +kernel
theorem dX4_merge_112 : decode cX4_merge 112 = .ok (.iload 4, 2) := by decide +kernel
theorem dX4_merge_114 : decode cX4_merge 114 = .ok (.iload 6, 2) := by decide +kernel
theorem dX4_merge_116 : decode cX4_merge 116 = .ok (.invokevirtual 50, 3) := by decide +kernel
theorem dX4_merge_119 : decode cX4_merge 119 = .ok (.if_icmp .ne 8, 3) := by decide +kernel
theorem dX4_merge_122 : decode cX4_merge 122 = .ok (.iload 7, 2) := by decide +kernel
theorem dX4_merge_124 : decode cX4_merge 124 = .ok (.goto 19, 3) := by decide +kernel
theorem dX4_merge_127 : decode cX4_merge 127 = .ok (.aload_n 0, 1) := by decide +kernel
theorem dX4_merge_128 : decode cX4_merge 128 = .ok (.iload 5, 2) := by decide +kernel
theorem dX4_merge_130 : decode cX4_merge 130 = .ok (.iload 6, 2) := by decide +kernel
theorem dX4_merge_132 : decode cX4_merge 132 = .ok (.invokevirtual 50, 3) := by decide +kernel
theorem dX4_merge_135 : decode cX4_merge 135 = .ok (.ifCond .ne 7, 3) := by decide +kernel
theorem dX4_merge_138 : decode cX4_merge 138 = .ok (.iconst 1, 1) := by decide +kernel
theorem dX4_merge_139 : decode cX4_merge 139 = .ok (.goto 4, 3) := by decide +kernel
theorem dX4_merge_142 : decode cX4_merge 142 = .ok (.iconst 0, 1) := by decide +kernel
theorem dX4_merge_143 : decode cX4_merge 143 = .ok (.istore 8, 2) := by decide +kernel
theorem dX4_merge_145 : decode cX4_merge 145 = .ok (.aload_n 0, 1) := by decide +kernel
theorem dX4_merge_146 : decode cX4_merge 146 = .ok (.getfield 31, 3) := by decide +kernel
theorem dX4_merge_149 : decode cX4_merge 149 = .ok (.iload 6, 2) := by decide +kernel
theorem dX4_merge_151 : decode cX4_merge 151 = .ok (.iload 8, 2) := by decide +kernel
theorem dX4_merge_153 : decode cX4_merge 153 = .ok (.ifCond .eq 7, 3) := by decide +kernel
theorem dX4_merge_156 : decode cX4_merge 156 = .ok (.iconst 1, 1) := by decide +kernel
theorem dX4_merge_157 : decode cX4_merge 157 = .ok (.goto 4, 3) := by decide +kernel
theorem dX4_merge_160 : decode cX4_merge 160 = .ok (.iconst 0, 1) := by decide +kernel
theorem dX4_merge_161 : decode cX4_merge 161 = .ok (.i2b, 1) := by decide +kernel
theorem dX4_merge_162 : decode cX4_merge 162 = .ok (.bastore, 1) := by decide +kernel
theorem dX4_merge_163 : decode cX4_merge 163 = .ok (.iinc 6 1, 3) := by decide +kernel
theorem dX4_merge_166 : decode cX4_merge 166 = .ok (.goto (-74), 3) := by decide +kernel
theorem dX4_merge_169 : decode cX4_merge 169 = .ok (.aload_n 0, 1) := by decide +kernel
theorem dX4_merge_170 : decode cX4_merge 170 = .ok (.invokevirtual 93, 3) := by decide +kernel
theorem dX4_merge_173 : decode cX4_merge 173 = .ok (.aload_n 0, 1) := by decide +kernel
theorem dX4_merge_174 : decode cX4_merge 174 = .ok (.getfield 90, 3) := by decide +kernel
theorem dX4_merge_177 : decode cX4_merge 177 = .ok (.ifCond .ne 16, 3) := by decide +kernel
theorem dX4_merge_180 : decode cX4_merge 180 = .ok (.aload_n 0, 1) := by decide +kernel
theorem dX4_merge_181 : decode cX4_merge 181 = .ok (.getfield 21, 3) := by decide +kernel
theorem dX4_merge_184 : decode cX4_merge 184 = .ok (.iload_n 1, 1) := by decide +kernel
theorem dX4_merge_185 : decode cX4_merge 185 = .ok (.aload_n 0, 1) := by decide +kernel
theorem dX4_merge_186 : decode cX4_merge 186 = .ok (.iload_n 3, 1) := by decide +kernel
theorem dX4_merge_187 : decode cX4_merge 187 = .ok (.iload 4, 2) := by decide +kernel
theorem dX4_merge_189 : decode cX4_merge 189 = .ok (.invokevirtual 62, 3) := by decide +kernel
theorem dX4_merge_192 : decode cX4_merge 192 = .ok (.iastore, 1) := by decide +kernel
theorem dX4_merge_193 : decode cX4_merge 193 = .ok (.aload_n 0, 1) := by decide +kernel
theorem dX4_merge_194 : decode cX4_merge 194 = .ok (.getfield 90, 3) := by decide +kernel
theorem dX4_merge_197 : decode cX4_merge 197 = .ok (.ireturn, 1) := by decide +kernel
theorem dX4_look_0 : decode cX4_look 0 = .ok (.aload_n 0, 1) := by decide +kernel
theorem dX4_look_1 : decode cX4_look 1 = .ok (.iconst 0, 1) := by decide +kernel
theorem dX4_look_2 : decode cX4_look 2 = .ok (.putfield 90, 3) := by decide +kernel
theorem dX4_look_5 : decode cX4_look 5 = .ok (.iconst 0, 1) := by decide +kernel
theorem dX4_look_6 : decode cX4_look 6 = .ok (.istore_n 1, 1) := by decide +kernel
theorem dX4_look_7 : decode cX4_look 7 = .ok (.iload_n 1, 1) := by decide +kernel
theorem dX4_look_8 : decode cX4_look 8 = .ok (.sipush 256, 3) := by decide +kernel
theorem dX4_look_11 : decode cX4_look 11 = .ok (.if_icmp .ge 129, 3) := by decide +kernel
theorem dX4_look_14 : decode cX4_look 14 = .ok (.iload_n 1, 1) := by decide +kernel
theorem dX4_look_15 : decode cX4_look 15 = .ok (.bipush 15, 2) := by decide +kernel
theorem dX4_look_17 : decode cX4_look 17 = .ok (.iand, 1) := by decide +kernel
theorem dX4_look_18 : decode cX4_look 18 = .ok (.bipush 12, 2) := by decide +kernel
theorem dX4_look_20 : decode cX4_look 20 = .ok (.if_icmp .ge 6, 3) := by decide +kernel
theorem dX4_look_23 : decode cX4_look 23 = .ok (.goto 111, 3) := by decide +kernel
theorem dX4_look_26 : decode cX4_look 26 = .ok (.iconst 0, 1) := by decide +kernel
theorem dX4_look_27 : decode cX4_look 27 = .ok (.istore_n 2, 1) := by decide +kernel
theorem dX4_look_28 : decode cX4_look 28 = .ok (.iconst 0, 1) := by decide +kernel
theorem dX4_look_29 : decode cX4_look 29 = .ok (.istore_n 3, 1) := by decide +kernel
theorem dX4_look_30 : decode cX4_look 30 = .ok (.iconst 0, 1) := by decide +kernel
theorem dX4_look_31 : decode cX4_look 31 = .ok (.istore 4, 2) := by decide +kernel
theorem dX4_look_33 : decode cX4_look 33 = .ok (.bipush 15, 2) := by decide +kernel
theorem dX4_look_35 : decode cX4_look 35 = .ok (.istore 5, 2) := by decide +kernel
theorem dX4_look_37 : decode cX4_look 37 = .ok (.iload 5, 2) := by decide +kernel
theorem dX4_look_39 : decode cX4_look 39 = .ok (.ifCond .lt 46, 3) := by decide +kernel
theorem dX4_look_42 : decode cX4_look 42 = .ok (.aload_n 0, 1) := by decide +kernel
theorem dX4_look_43 : decode cX4_look 43 = .ok (.getfield 31, 3) := by decide +kernel
theorem dX4_look_46 : decode cX4_look 46 = .ok (.bipush 16, 2) := by decide +kernel
theorem dX4_look_48 : decode cX4_look 48 = .ok (.iload_n 1, 1) := by decide +kernel
theorem dX4_look_49 : decode cX4_look 49 = .ok (.imul, 1) := by decide +kernel
theorem dX4_look_50 : decode cX4_look 50 = .ok (.iload 5, 2) := by decide +kernel
theorem dX4_look_52 : decode cX4_look 52 = .ok (.iadd, 1) := by decide +kernel
theorem dX4_look_53 : decode cX4_look 53 = .ok (.baload, 1) := by decide +kernel
theorem dX4_look_54 : decode cX4_look 54 = .ok (.ifCond .ne 6, 3) := by decide +kernel
theorem dX4_look_57 : decode cX4_look 57 = .ok (.goto 22, 3) := by decide +kernel
theorem dX4_look_60 : decode cX4_look 60 = .ok (.iinc 2 1, 3) := by decide +kernel
theorem dX4_look_63 : decode cX4_look 63 = .ok (.bipush 16, 2) := by decide +kernel
theorem dX4_look_65 : decode cX4_look 65 = .ok (.iload_n 1, 1) := by decide +kernel
theorem dX4_look_66 : decode cX4_look 66 = .ok (.imul, 1) := by decide +kernel
theorem dX4_look_67 : decode cX4_look 67 = .ok (.iload 5, 2) := by decide +kernel
theorem dX4_look_69 : decode cX4_look 69 = .ok (.iadd, 1) := by decide +kernel
theorem dX4_look_70 : decode cX4_look 70 = .ok (.istore_n 3, 1) := by decide +kernel
theorem dX4_look_71 : decode cX4_look 71 = .ok (.iload_n 2, 1) := by decide +kernel
theorem dX4_look_72 : decode cX4_look 72 = .ok (.iconst 1, 1) := by decide +kernel
theorem dX4_look_73 : decode cX4_look 73 = .ok (.if_icmp .ne 6, 3) := by decide +kernel
theorem dX4_look_76 : decode cX4_look 76 = .ok (.iload_n 3, 1) := by decide +kernel
theorem dX4_look_77 : decode cX4_look 77 = .ok (.istore 4, 2) := by decide +kernel
theorem dX4_look_79 : decode cX4_look 79 = .ok (.iinc 5 (-1), 3) := by decide +kernel
theorem dX4_look_82 : decode cX4_look 82 = .ok (.goto (-45), 3) := by decide +kernel
theorem dX4_look_85 : decode cX4_look 85 = .ok (.iload_n 2, 1) := by decide +kernel
theorem dX4_look_86 : decode cX4_look 86 = .ok (.iconst 2, 1) := by decide +kernel
theorem dX4_look_87 : decode cX4_look 87 = .ok (.if_icmp .ge 6, 3) := by decide +kernel
theorem dX4_look_90 : decode cX4_look 90 = .ok (.goto 44, 3) := by decide +kernel
theorem dX4_look_93 : decode cX4_look 93 = .ok (.aload_n 0, 1) := by decide +kernel
theorem dX4_look_94 : decode cX4_look 94 = .ok (.getfield 34, 3) := by decide +kernel
theorem dX4_look_97 : decode cX4_look 97 = .ok (.aload_n 0, 1) := by decide +kernel
theorem dX4_look_98 : decode cX4_look 98 = .ok (.getfield 90, 3) := by decide +kernel
theorem dX4_look_101 : decode cX4_look 101 = .ok (.iload_n 1, 1) := by decide +kernel
theorem dX4_look_102 : decode cX4_look 102 = .ok (.iastore, 1) := by decide +kernel
theorem dX4_look_103 : decode cX4_look 103 = .ok (.aload_n 0, 1) := by decide +kernel
theorem dX4_look_104 : decode cX4_look 104 = .ok (.getfield 37, 3) := by decide +kernel
theorem dX4_look_107 : decode cX4_look 107 = .ok (.aload_n 0, 1) := by decide +kernel
theorem dX4_look_108 : decode cX4_look 108 = .ok (.getfield 90, 3) := by decide +kernel
theorem dX4_look_111 : decode cX4_look 111 = .ok (.iload_n 3, 1) := by decide +kernel
theorem dX4_look_112 : decode cX4_look 112 = .ok (.iastore, 1) := by decide +kernel
theorem dX4_look_113 : decode cX4_look 113 = .ok (.aload_n 0, 1) := by decide +kernel
theorem dX4_look_114 : decode cX4_look 114 = .ok (.getfield 40, 3) := by decide +kernel
theorem dX4_look_117 : decode cX4_look 117 = .ok (.aload_n 0, 1) := by decide +kernel
theorem dX4_look_118 : decode cX4_look 118 = .ok (.getfield 90, 3) := by decide +kernel
theorem dX4_look_121 : decode cX4_look 121 = .ok (.iload 4, 2) := by decide +kernel
theorem dX4_look_123 : decode cX4_look 123 = .ok (.iastore, 1) := by decide +kernel
theorem dX4_look_124 : decode cX4_look 124 = .ok (.aload_n 0, 1) := by decide +kernel
theorem dX4_look_125 : decode cX4_look 125 = .ok (.dup, 1) := by decide +kernel
theorem dX4_look_126 : decode cX4_look 126 = .ok (.getfield 90, 3) := by decide +kernel
theorem dX4_look_129 : decode cX4_look 129 = .ok (.iconst 1, 1) := by decide +kernel
theorem dX4_look_130 : decode cX4_look 130 = .ok (.iadd, 1) := by decide +kernel
theorem dX4_look_131 : decode cX4_look 131 = .ok (.putfield 90, 3) := by decide +kernel
theorem dX4_look_134 : decode cX4_look 134 = .ok (.iinc 1 1, 3) := by decide +kernel
theorem dX4_look_137 : decode cX4_look 137 = .ok (.goto (-130), 3) := by decide +kernel
theorem dX4_look_140 : decode cX4_look 140 = .ok (.return_, 1) := by decide +kernel
theorem dX4_conflict_0 : decode cX4_conflict 0 = .ok (.iload_n 1, 1) := by decide +kernel
theorem dX4_conflict_1 : decode cX4_conflict 1 = .ok (.ifCond .lt 11, 3) := by decide +kernel
theorem dX4_conflict_4 : decode cX4_conflict 4 = .ok (.iload_n 1, 1) := by decide +kernel
theorem dX4_conflict_5 : decode cX4_conflict 5 = .ok (.aload_n 0, 1) := by decide +kernel
theorem dX4_conflict_6 : decode cX4_conflict 6 = .ok (.getfield 90, 3) := by decide +kernel
theorem dX4_conflict_9 : decode cX4_conflict 9 = .ok (.if_icmp .lt 6, 3) := by decide +kernel
theorem dX4_conflict_12 : decode cX4_conflict 12 = .ok (.bipush (-2), 2) := by decide +kernel
theorem dX4_conflict_14 : decode cX4_conflict 14 = .ok (.ireturn, 1) := by decide +kernel
theorem dX4_conflict_15 : decode cX4_conflict 15 = .ok (.iload_n 2, 1) := by decide +kernel
theorem dX4_conflict_16 : decode cX4_conflict 16 = .ok (.tableswitch 49 0 2 #[28, 35, 42], 28) := by decide +kernel
theorem dX4_conflict_44 : decode cX4_conflict 44 = .ok (.aload_n 0, 1) := by decide +kernel
theorem dX4_conflict_45 : decode cX4_conflict 45 = .ok (.getfield 34, 3) := by decide +kernel
theorem dX4_conflict_48 : decode cX4_conflict 48 = .ok (.iload_n 1, 1) := by decide +kernel
theorem dX4_conflict_49 : decode cX4_conflict 49 = .ok (.iaload, 1) := by decide +kernel
theorem dX4_conflict_50 : decode cX4_conflict 50 = .ok (.ireturn, 1) := by decide +kernel
theorem dX4_conflict_51 : decode cX4_conflict 51 = .ok (.aload_n 0, 1) := by decide +kernel
theorem dX4_conflict_52 : decode cX4_conflict 52 = .ok (.getfield 37, 3) := by decide +kernel
theorem dX4_conflict_55 : decode cX4_conflict 55 = .ok (.iload_n 1, 1) := by decide +kernel
theorem dX4_conflict_56 : decode cX4_conflict 56 = .ok (.iaload, 1) := by decide +kernel
theorem dX4_conflict_57 : decode cX4_conflict 57 = .ok (.ireturn, 1) := by decide +kernel
theorem dX4_conflict_58 : decode cX4_conflict 58 = .ok (.aload_n 0, 1) := by decide +kernel
theorem dX4_conflict_59 : decode cX4_conflict 59 = .ok (.getfield 40, 3) := by decide +kernel
theorem dX4_conflict_62 : decode cX4_conflict 62 = .ok (.iload_n 1, 1) := by decide +kernel
theorem dX4_conflict_63 : decode cX4_conflict 63 = .ok (.iaload, 1) := by decide +kernel
theorem dX4_conflict_64 : decode cX4_conflict 64 = .ok (.ireturn, 1) := by decide +kernel
theorem dX4_conflict_65 : decode cX4_conflict 65 = .ok (.bipush (-2), 2) := by decide +kernel
theorem dX4_conflict_67 : decode cX4_conflict 67 = .ok (.ireturn, 1) := by decide +kernel
set_option maxRecDepth 20000 in
theorem ggX4_patch_X4_isVersion : GoodIn wsX4_patch wsX4_isVersion := goodIn_r _ [5, 6, 12, 13, 14, 15, 16, 17, 18, 19, 20, 21, 22, 23, 24] (by decide +kernel) (by decide +kernel)
set_option maxRecDepth 20000 in
theorem gX4_patch_X4_isVersion : GoodIn wsX4_patch (wsV RX4 96 RX4 yX4_isVersion wsX4_isVersion) := goodIn_app (goodIn_of _ (by decide +kernel)) ggX4_patch_X4_isVersion
set_option maxRecDepth 20000 in
theorem ggX4_patch_X4_has : GoodIn wsX4_patch wsX4_has := goodIn_r _ [10, 11, 12, 13, 14, 15, 16, 17, 18, 19, 20, 21, 22, 23, 24] (by decide +kernel) (by decide +kernel)
set_option maxRecDepth 20000 in
theorem gX4_patch_X4_has : GoodIn wsX4_patch (wsV RX4 50 RX4 yX4_has wsX4_has) := goodIn_app (goodIn_of _ (by decide +kernel)) ggX4_patch_X4_has
theorem dX4_patch_0 : decode cX4_patch 0 = .ok (.aload_n 0, 1) := by decide +kernel
theorem dX4_patch_1 : decode cX4_patch 1 = .ok (.iload_n 1, 1) := by decide +kernel
theorem dX4_patch_2 : decode cX4_patch 2 = .ok (.invokevirtual 96, 3) := by decide +kernel
theorem dX4_patch_5 : decode cX4_patch 5 = .ok (.ifCond .eq 11, 3) := by decide +kernel
theorem dX4_patch_8 : decode cX4_patch 8 = .ok (.aload_n 0, 1) := by decide +kernel
theorem dX4_patch_9 : decode cX4_patch 9 = .ok (.iload_n 2, 1) := by decide +kernel
theorem dX4_patch_10 : decode cX4_patch 10 = .ok (.invokevirtual 96, 3) := by decide +kernel
theorem dX4_patch_13 : decode cX4_patch 13 = .ok (.ifCond .ne 5, 3) := by decide +kernel
theorem dX4_patch_16 : decode cX4_patch 16 = .ok (.iconst (-1), 1) := by decide +kernel
theorem dX4_patch_17 : decode cX4_patch 17 = .ok (.ireturn, 1) := by decide +kernel
theorem dX4_patch_18 : decode cX4_patch 18 = .ok (.iload_n 3, 1) := by decide +kernel
theorem dX4_patch_19 : decode cX4_patch 19 = .ok (.istore 4, 2) := by decide +kernel
theorem dX4_patch_21 : decode cX4_patch 21 = .ok (.iconst 0, 1) := by decide +kernel
theorem dX4_patch_22 : decode cX4_patch 22 = .ok (.istore 5, 2) := by decide +kernel
theorem dX4_patch_24 : decode cX4_patch 24 = .ok (.iload 5, 2) := by decide +kernel
theorem dX4_patch_26 : decode cX4_patch 26 = .ok (.sipush 4096, 3) := by decide +kernel
theorem dX4_patch_29 : decode cX4_patch 29 = .ok (.if_icmp .ge 62, 3) := by decide +kernel
theorem dX4_patch_32 : decode cX4_patch 32 = .ok (.iload_n 3, 1) := by decide +kernel
theorem dX4_patch_33 : decode cX4_patch 33 = .ok (.ifCond .lt 58, 3) := by decide +kernel
theorem dX4_patch_36 : decode cX4_patch 36 = .ok (.aload_n 0, 1) := by decide +kernel
theorem dX4_patch_37 : decode cX4_patch 37 = .ok (.iload_n 1, 1) := by decide +kernel
theorem dX4_patch_38 : decode cX4_patch 38 = .ok (.iload 5, 2) := by decide +kernel
theorem dX4_patch_40 : decode cX4_patch 40 = .ok (.invokevirtual 50, 3) := by decide +kernel
theorem dX4_patch_43 : decode cX4_patch 43 = .ok (.aload_n 0, 1) := by decide +kernel
theorem dX4_patch_44 : decode cX4_patch 44 = .ok (.iload_n 2, 1) := by decide +kernel
theorem dX4_patch_45 : decode cX4_patch 45 = .ok (.iload 5, 2) := by decide +kernel
theorem dX4_patch_47 : decode cX4_patch 47 = .ok (.invokevirtual 50, 3) := by decide +kernel
theorem dX4_patch_50 : decode cX4_patch 50 = .ok (.if_icmp .ne 6, 3) := by decide +kernel
theorem dX4_patch_53 : decode cX4_patch 53 = .ok (.goto 32, 3) := by decide +kernel
theorem dX4_patch_56 : decode cX4_patch 56 = .ok (.iload 4, 2) := by decide +kernel
theorem dX4_patch_58 : decode cX4_patch 58 = .ok (.ifCond .ne 24, 3) := by decide +kernel
theorem dX4_patch_61 : decode cX4_patch 61 = .ok (.aload_n 0, 1) := by decide +kernel
theorem dX4_patch_62 : decode cX4_patch 62 = .ok (.iload_n 2, 1) := by decide +kernel
theorem dX4_patch_63 : decode cX4_patch 63 = .ok (.iload 5, 2) := by decide +kernel
theorem dX4_patch_65 : decode cX4_patch 65 = .ok (.invokevirtual 50, 3) := by decide +kernel
theorem dX4_patch_68 : decode cX4_patch 68 = .ok (.ifCond .eq 8, 3) := by decide +kernel
theorem dX4_patch_71 : decode cX4_patch 71 = .ok (.iload 5, 2) := by decide +kernel
theorem dX4_patch_73 : decode cX4_patch 73 = .ok (.goto 8, 3) := by decide +kernel
theorem dX4_patch_76 : decode cX4_patch 76 = .ok (.bipush (-10), 2) := by decide +kernel
theorem dX4_patch_78 : decode cX4_patch 78 = .ok (.iload 5, 2) := by decide +kernel
theorem dX4_patch_80 : decode cX4_patch 80 = .ok (.isub, 1) := by decide +kernel
theorem dX4_patch_81 : decode cX4_patch 81 = .ok (.ireturn, 1) := by decide +kernel
theorem dX4_patch_82 : decode cX4_patch 82 = .ok (.iinc 4 (-1), 3) := by decide +kernel
theorem dX4_patch_85 : decode cX4_patch 85 = .ok (.iinc 5 1, 3) := by decide +kernel
theorem dX4_patch_88 : decode cX4_patch 88 = .ok (.goto (-64), 3) := by decide +kernel
theorem dX4_patch_91 : decode cX4_patch 91 = .ok (.bipush (-2), 2) := by decide +kernel
theorem dX4_patch_93 : decode cX4_patch 93 = .ok (.ireturn, 1) := by decide +kernel
set_option maxRecDepth 20000 in
theorem ggX4_isPatch_X4_isVersion : GoodIn wsX4_isPatch wsX4_isVersion := goodIn_r _ [5, 6, 7, 8, 9, 10, 11, 12, 13, 14, 15, 16, 17, 18, 19] (by decide +kernel) (by decide +kernel)
set_option maxRecDepth 20000 in
theorem gX4_isPatch_X4_isVersion : GoodIn wsX4_isPatch (wsV RX4 96 RX4 yX4_isVersion wsX4_isVersion) := goodIn_app (goodIn_of _ (by decide +kernel)) ggX4_isPatch_X4_isVersion
theorem dX4_isPatch_0 : decode cX4_isPatch 0 = .ok (.aload_n 0, 1) := by decide +kernel
theorem dX4_isPatch_1 : decode cX4_isPatch 1 = .ok (.iload_n 1, 1) := by decide +kernel
theorem dX4_isPatch_2 : decode cX4_isPatch 2 = .ok (.ifCond .ge 9, 3) := by decide +kernel
theorem dX4_isPatch_5 : decode cX4_isPatch 5 = .ok (.iconst (-1), 1) := by decide +kernel
theorem dX4_isPatch_6 : decode cX4_isPatch 6 = .ok (.iload_n 1, 1) := by decide +kernel
theorem dX4_isPatch_7 : decode cX4_isPatch 7 = .ok (.isub, 1) := by decide +kernel
theorem dX4_isPatch_8 : decode cX4_isPatch 8 = .ok (.goto 4, 3) := by decide +kernel
theorem dX4_isPatch_11 : decode cX4_isPatch 11 = .ok (.iload_n 1, 1) := by decide +kernel
theorem dX4_isPatch_12 : decode cX4_isPatch 12 = .ok (.invokevirtual 96, 3) := by decide +kernel
theorem dX4_isPatch_15 : decode cX4_isPatch 15 = .ok (.ireturn, 1) := by decide +kernel
set_option maxRecDepth 20000 in
theorem ggX4_inverse_X4_isPatch : GoodIn wsX4_inverse wsX4_isPatch := goodIn_r _ [5, 6, 7, 8, 4, 9, 10, 11, 12, 13, 14, 15, 16, 17, 18, 19, 20, 21, 22, 23] (by decide +kernel) (by decide +kernel)
set_option maxRecDepth 20000 in
theorem gX4_inverse_X4_isPatch : GoodIn wsX4_inverse (wsV RX4 99 RX4 yX4_isPatch wsX4_isPatch) := goodIn_app (goodIn_of _ (by decide +kernel)) ggX4_inverse_X4_isPatch
theorem dX4_inverse_0 : decode cX4_inverse 0 = .ok (.aload_n 0, 1) := by decide +kernel
theorem dX4_inverse_1 : decode cX4_inverse 1 = .ok (.iload_n 1, 1) := by decide +kernel
theorem dX4_inverse_2 : decode cX4_inverse 2 = .ok (.invokevirtual 99, 3) := by decide +kernel
theorem dX4_inverse_5 : decode cX4_inverse 5 = .ok (.ifCond .eq 9, 3) := by decide +kernel
theorem dX4_inverse_8 : decode cX4_inverse 8 = .ok (.iconst (-1), 1) := by decide +kernel
theorem dX4_inverse_9 : decode cX4_inverse 9 = .ok (.iload_n 1, 1) := by decide +kernel
theorem dX4_inverse_10 : decode cX4_inverse 10 = .ok (.isub, 1) := by decide +kernel
theorem dX4_inverse_11 : decode cX4_inverse 11 = .ok (.goto 4, 3) := by decide +kernel
theorem dX4_inverse_14 : decode cX4_inverse 14 = .ok (.iconst (-1), 1) := by decide +kernel
theorem dX4_inverse_15 : decode cX4_inverse 15 = .ok (.ireturn, 1) := by decide +kernel
set_option maxRecDepth 20000 in
theorem ggX4_lay_X4_has : GoodIn wsX4_lay wsX4_has := goodIn_r _ [7, 8, 9, 10, 11, 12, 13, 14, 15, 16, 17, 18, 19, 20, 21] (by decide +kernel) (by decide +kernel)
set_option maxRecDepth 20000 in
theorem gX4_lay_X4_has : GoodIn wsX4_lay (wsV RX4 50 RX4 yX4_has wsX4_has) := goodIn_app (goodIn_of _ (by decide +kernel)) ggX4_lay_X4_has
theorem dX4_lay_0 : decode cX4_lay 0 = .ok (.iload_n 2, 1) := by decide +kernel
theorem dX4_lay_1 : decode cX4_lay 1 = .ok (.ifCond .ge 9, 3) := by decide +kernel
theorem dX4_lay_4 : decode cX4_lay 4 = .ok (.iconst (-1), 1) := by decide +kernel
theorem dX4_lay_5 : decode cX4_lay 5 = .ok (.iload_n 2, 1) := by decide +kernel
theorem dX4_lay_6 : decode cX4_lay 6 = .ok (.isub, 1) := by decide +kernel
theorem dX4_lay_7 : decode cX4_lay 7 = .ok (.goto 4, 3) := by decide +kernel
theorem dX4_lay_10 : decode cX4_lay 10 = .ok (.iload_n 2, 1) := by decide +kernel
theorem dX4_lay_11 : decode cX4_lay 11 = .ok (.istore_n 3, 1) := by decide +kernel
theorem dX4_lay_12 : decode cX4_lay 12 = .ok (.iconst 1, 1) := by decide +kernel
theorem dX4_lay_13 : decode cX4_lay 13 = .ok (.istore 4, 2) := by decide +kernel
theorem dX4_lay_15 : decode cX4_lay 15 = .ok (.iconst 0, 1) := by decide +kernel
theorem dX4_lay_16 : decode cX4_lay 16 = .ok (.istore 5, 2) := by decide +kernel
theorem dX4_lay_18 : decode cX4_lay 18 = .ok (.iconst 0, 1) := by decide +kernel
theorem dX4_lay_19 : decode cX4_lay 19 = .ok (.istore 6, 2) := by decide +kernel
theorem dX4_lay_21 : decode cX4_lay 21 = .ok (.iload 6, 2) := by decide +kernel
theorem dX4_lay_23 : decode cX4_lay 23 = .ok (.sipush 4096, 3) := by decide +kernel
theorem dX4_lay_26 : decode cX4_lay 26 = .ok (.if_icmp .ge 181, 3) := by decide +kernel
theorem dX4_lay_29 : decode cX4_lay 29 = .ok (.aload_n 0, 1) := by decide +kernel
theorem dX4_lay_30 : decode cX4_lay 30 = .ok (.iload_n 3, 1) := by decide +kernel
theorem dX4_lay_31 : decode cX4_lay 31 = .ok (.iload 6, 2) := by decide +kernel
theorem dX4_lay_33 : decode cX4_lay 33 = .ok (.invokevirtual 50, 3) := by decide +kernel
theorem dX4_lay_36 : decode cX4_lay 36 = .ok (.istore 7, 2) := by decide +kernel
theorem dX4_lay_38 : decode cX4_lay 38 = .ok (.aload_n 0, 1) := by decide +kernel
theorem dX4_lay_39 : decode cX4_lay 39 = .ok (.aload_n 0, 1) := by decide +kernel
theorem dX4_lay_40 : decode cX4_lay 40 = .ok (.getfield 14, 3) := by decide +kernel
theorem dX4_lay_43 : decode cX4_lay 43 = .ok (.iload_n 3, 1) := by decide +kernel
theorem dX4_lay_44 : decode cX4_lay 44 = .ok (.iaload, 1) := by decide +kernel
theorem dX4_lay_45 : decode cX4_lay 45 = .ok (.iload 6, 2) := by decide +kernel
theorem dX4_lay_47 : decode cX4_lay 47 = .ok (.invokevirtual 50, 3) := by decide +kernel
theorem dX4_lay_50 : decode cX4_lay 50 = .ok (.istore 8, 2) := by decide +kernel
theorem dX4_lay_52 : decode cX4_lay 52 = .ok (.aload_n 0, 1) := by decide +kernel
theorem dX4_lay_53 : decode cX4_lay 53 = .ok (.iload_n 1, 1) := by decide +kernel
theorem dX4_lay_54 : decode cX4_lay 54 = .ok (.iload 6, 2) := by decide +kernel
theorem dX4_lay_56 : decode cX4_lay 56 = .ok (.invokevirtual 50, 3) := by decide +kernel
theorem dX4_lay_59 : decode cX4_lay 59 = .ok (.istore 9, 2) := by decide +kernel
theorem dX4_lay_61 : decode cX4_lay 61 = .ok (.iload_n 2, 1) := by decide +kernel
theorem dX4_lay_62 : decode cX4_lay 62 = .ok (.ifCond .ge 21, 3) := by decide +kernel
theorem dX4_lay_65 : decode cX4_lay 65 = .ok (.iload 8, 2) := by decide +kernel
theorem dX4_lay_67 : decode cX4_lay 67 = .ok (.ifCond .eq 12, 3) := by decide +kernel
theorem dX4_lay_70 : decode cX4_lay 70 = .ok (.iload 7, 2) := by decide +kernel
theorem dX4_lay_72 : decode cX4_lay 72 = .ok (.ifCond .ne 7, 3) := by decide +kernel
theorem dX4_lay_75 : decode cX4_lay 75 = .ok (.iconst 1, 1) := by decide +kernel
theorem dX4_lay_76 : decode cX4_lay 76 = .ok (.goto 22, 3) := by decide +kernel
theorem dX4_lay_79 : decode cX4_lay 79 = .ok (.iconst 0, 1) := by decide +kernel
theorem dX4_lay_80 : decode cX4_lay 80 = .ok (.goto 18, 3) := by decide +kernel
theorem dX4_lay_83 : decode cX4_lay 83 = .ok (.iload 7, 2) := by decide +kernel
theorem dX4_lay_85 : decode cX4_lay 85 = .ok (.ifCond .eq 12, 3) := by decide +kernel
theorem dX4_lay_88 : decode cX4_lay 88 = .ok (.iload 8, 2) := by decide +kernel
theorem dX4_lay_90 : decode cX4_lay 90 = .ok (.ifCond .ne 7, 3) := by decide +kernel
theorem dX4_lay_93 : decode cX4_lay 93 = .ok (.iconst 1, 1) := by decide +kernel
theorem dX4_lay_94 : decode cX4_lay 94 = .ok (.goto 4, 3) := by decide +kernel
theorem dX4_lay_97 : decode cX4_lay 97 = .ok (.iconst 0, 1) := by decide +kernel
theorem dX4_lay_98 : decode cX4_lay 98 = .ok (.istore 10, 2) := by decide +kernel
theorem dX4_lay_100 : decode cX4_lay 100 = .ok (.iload 7, 2) := by decide +kernel
theorem dX4_lay_102 : decode cX4_lay 102 = .ok (.iload 8, 2) := by decide +kernel
theorem dX4_lay_104 : decode cX4_lay 104 = .ok (.if_icmp .eq 12, 3) := by decide +kernel
theorem dX4_lay_107 : decode cX4_lay 107 = .ok (.iload 10, 2) := by decide +kernel
theorem dX4_lay_109 : decode cX4_lay 109 = .ok (.ifCond .ne 7, 3) := by decide +kernel
theorem dX4_lay_112 : decode cX4_lay 112 = .ok (.iconst 1, 1) := by decide +kernel
theorem dX4_lay_113 : decode cX4_lay 113 = .ok (.goto 4, 3) := by decide +kernel
theorem dX4_lay_116 : decode cX4_lay 116 = .ok (.iconst 0, 1) := by decide +kernel
theorem dX4_lay_117 : decode cX4_lay 117 = .ok (.istore 11, 2) := by decide +kernel
theorem dX4_lay_119 : decode cX4_lay 119 = .ok (.iload 4, 2) := by decide +kernel
theorem dX4_lay_121 : decode cX4_lay 121 = .ok (.ifCond .eq 17, 3) := by decide +kernel
theorem dX4_lay_124 : decode cX4_lay 124 = .ok (.iload 11, 2) := by decide +kernel
theorem dX4_lay_126 : decode cX4_lay 126 = .ok (.ifCond .eq 8, 3) := by decide +kernel
theorem dX4_lay_129 : decode cX4_lay 129 = .ok (.iload 9, 2) := by decide +kernel
theorem dX4_lay_131 : decode cX4_lay 131 = .ok (.ifCond .eq 7, 3) := by decide +kernel
theorem dX4_lay_134 : decode cX4_lay 134 = .ok (.iconst 1, 1) := by decide +kernel
theorem dX4_lay_135 : decode cX4_lay 135 = .ok (.goto 4, 3) := by decide +kernel
theorem dX4_lay_138 : decode cX4_lay 138 = .ok (.iconst 0, 1) := by decide +kernel
theorem dX4_lay_139 : decode cX4_lay 139 = .ok (.istore 4, 2) := by decide +kernel
theorem dX4_lay_141 : decode cX4_lay 141 = .ok (.iload 5, 2) := by decide +kernel
theorem dX4_lay_143 : decode cX4_lay 143 = .ok (.ifCond .ne 23, 3) := by decide +kernel
theorem dX4_lay_146 : decode cX4_lay 146 = .ok (.iload 10, 2) := by decide +kernel
theorem dX4_lay_148 : decode cX4_lay 148 = .ok (.ifCond .eq 8, 3) := by decide +kernel
theorem dX4_lay_151 : decode cX4_lay 151 = .ok (.iload 9, 2) := by decide +kernel
theorem dX4_lay_153 : decode cX4_lay 153 = .ok (.ifCond .eq 13, 3) := by decide +kernel
theorem dX4_lay_156 : decode cX4_lay 156 = .ok (.iload 11, 2) := by decide +kernel
theorem dX4_lay_158 : decode cX4_lay 158 = .ok (.ifCond .eq 12, 3) := by decide +kernel
theorem dX4_lay_161 : decode cX4_lay 161 = .ok (.iload 9, 2) := by decide +kernel
theorem dX4_lay_163 : decode cX4_lay 163 = .ok (.ifCond .eq 7, 3) := by decide +kernel
theorem dX4_lay_166 : decode cX4_lay 166 = .ok (.iconst 1, 1) := by decide +kernel
theorem dX4_lay_167 : decode cX4_lay 167 = .ok (.goto 4, 3) := by decide +kernel
theorem dX4_lay_170 : decode cX4_lay 170 = .ok (.iconst 0, 1) := by decide +kernel
theorem dX4_lay_171 : decode cX4_lay 171 = .ok (.istore 5, 2) := by decide +kernel
theorem dX4_lay_173 : decode cX4_lay 173 = .ok (.aload_n 0, 1) := by decide +kernel
theorem dX4_lay_174 : decode cX4_lay 174 = .ok (.getfield 31, 3) := by decide +kernel
theorem dX4_lay_177 : decode cX4_lay 177 = .ok (.iload 6, 2) := by decide +kernel
theorem dX4_lay_179 : decode cX4_lay 179 = .ok (.iload 10, 2) := by decide +kernel
theorem dX4_lay_181 : decode cX4_lay 181 = .ok (.ifCond .ne 13, 3) := by decide +kernel
theorem dX4_lay_184 : decode cX4_lay 184 = .ok (.iload 9, 2) := by decide +kernel
theorem dX4_lay_186 : decode cX4_lay 186 = .ok (.ifCond .eq 12, 3) := by decide +kernel
theorem dX4_lay_189 : decode cX4_lay 189 = .ok (.iload 11, 2) := by decide +kernel
theorem dX4_lay_191 : decode cX4_lay 191 = .ok (.ifCond .ne 7, 3) := by decide +kernel
theorem dX4_lay_194 : decode cX4_lay 194 = .ok (.iconst 1, 1) := by decide +kernel
theorem dX4_lay_195 : decode cX4_lay 195 = .ok (.goto 4, 3) := by decide +kernel
theorem dX4_lay_198 : decode cX4_lay 198 = .ok (.iconst 0, 1) := by decide +kernel
theorem dX4_lay_199 : decode cX4_lay 199 = .ok (.i2b, 1) := by decide +kernel
theorem dX4_lay_200 : decode cX4_lay 200 = .ok (.bastore, 1) := by decide +kernel
theorem dX4_lay_201 : decode cX4_lay 201 = .ok (.iinc 6 1, 3) := by decide +kernel
theorem dX4_lay_204 : decode cX4_lay 204 = .ok (.goto (-183), 3) := by decide +kernel
theorem dX4_lay_207 : decode cX4_lay 207 = .ok (.iload 4, 2) := by decide +kernel
theorem dX4_lay_209 : decode cX4_lay 209 = .ok (.ifCond .eq 12, 3) := by decide +kernel
theorem dX4_lay_212 : decode cX4_lay 212 = .ok (.iload 5, 2) := by decide +kernel
theorem dX4_lay_214 : decode cX4_lay 214 = .ok (.ifCond .eq 7, 3) := by decide +kernel
theorem dX4_lay_217 : decode cX4_lay 217 = .ok (.iconst 1, 1) := by decide +kernel
theorem dX4_lay_218 : decode cX4_lay 218 = .ok (.goto 4, 3) := by decide +kernel
theorem dX4_lay_221 : decode cX4_lay 221 = .ok (.iconst 0, 1) := by decide +kernel
theorem dX4_lay_222 : decode cX4_lay 222 = .ok (.ireturn, 1) := by decide +kernel
set_option maxRecDepth 20000 in
theorem ggX4_laid_X4_lay : GoodIn wsX4_laid wsX4_lay := goodIn_r _ [7, 8, 9, 10, 11, 12, 6, 13, 14, 24, 25, 26, 27, 28, 29, 30, 31, 32, 33, 34, 35, 36] (by decide +kernel) (by decide +kernel)
set_option maxRecDepth 20000 in
theorem gX4_laid_X4_lay : GoodIn wsX4_laid (wsV RX4 102 RX4 yX4_lay wsX4_lay) := goodIn_app (goodIn_of _ (by decide +kernel)) ggX4_laid_X4_lay
set_option maxRecDepth 20000 in
theorem ggX4_laid_X4_step : GoodIn wsX4_laid wsX4_step := goodIn_r _ [18, 1, 19, 20, 21, 6, 22, 8, 2, 23, 14, 9, 24, 25, 26, 27, 28, 29, 30, 31, 32, 33, 34, 35, 36] (by decide +kernel) (by decide +kernel)
set_option maxRecDepth 20000 in
theorem gX4_laid_X4_step : GoodIn wsX4_laid (wsV RX4 69 RX4 yX4_step wsX4_step) := goodIn_app (goodIn_of _ (by decide +kernel)) ggX4_laid_X4_step
theorem dX4_laid_0 : decode cX4_laid 0 = .ok (.aload_n 0, 1) := by decide +kernel
theorem dX4_laid_1 : decode cX4_laid 1 = .ok (.aload_n 0, 1) := by decide +kernel
theorem dX4_laid_2 : decode cX4_laid 2 = .ok (.getfield 21, 3) := by decide +kernel
theorem dX4_laid_5 : decode cX4_laid 5 = .ok (.iload_n 1, 1) := by decide +kernel
theorem dX4_laid_6 : decode cX4_laid 6 = .ok (.iaload, 1) := by decide +kernel
theorem dX4_laid_7 : decode cX4_laid 7 = .ok (.iload_n 2, 1) := by decide +kernel
theorem dX4_laid_8 : decode cX4_laid 8 = .ok (.invokevirtual 102, 3) := by decide +kernel
theorem dX4_laid_11 : decode cX4_laid 11 = .ok (.ifCond .ne 5, 3) := by decide +kernel
theorem dX4_laid_14 : decode cX4_laid 14 = .ok (.iconst 0, 1) := by decide +kernel
theorem dX4_laid_15 : decode cX4_laid 15 = .ok (.ireturn, 1) := by decide +kernel
theorem dX4_laid_16 : decode cX4_laid 16 = .ok (.aload_n 0, 1) := by decide +kernel
theorem dX4_laid_17 : decode cX4_laid 17 = .ok (.getfield 43, 3) := by decide +kernel
theorem dX4_laid_20 : decode cX4_laid 20 = .ok (.sipush 400, 3) := by decide +kernel
theorem dX4_laid_23 : decode cX4_laid 23 = .ok (.if_icmp .ne 6, 3) := by decide +kernel
theorem dX4_laid_26 : decode cX4_laid 26 = .ok (.bipush (-4), 2) := by decide +kernel
theorem dX4_laid_28 : decode cX4_laid 28 = .ok (.ireturn, 1) := by decide +kernel
theorem dX4_laid_29 : decode cX4_laid 29 = .ok (.aload_n 0, 1) := by decide +kernel
theorem dX4_laid_30 : decode cX4_laid 30 = .ok (.iload_n 1, 1) := by decide +kernel
theorem dX4_laid_31 : decode cX4_laid 31 = .ok (.invokevirtual 69, 3) := by decide +kernel
theorem dX4_laid_34 : decode cX4_laid 34 = .ok (.pop, 1) := by decide +kernel
theorem dX4_laid_35 : decode cX4_laid 35 = .ok (.iconst 1, 1) := by decide +kernel
theorem dX4_laid_36 : decode cX4_laid 36 = .ok (.ireturn, 1) := by decide +kernel
set_option maxRecDepth 20000 in
theorem ggX4_apply_X4_isBranch : GoodIn wsX4_apply wsX4_isBranch := goodIn_r _ [5, 6, 41, 42, 43, 44, 45, 46, 47, 48, 49, 50, 51, 52, 53] (by decide +kernel) (by decide +kernel)
set_option maxRecDepth 20000 in
theorem gX4_apply_X4_isBranch : GoodIn wsX4_apply (wsV RX4 54 RX4 yX4_isBranch wsX4_isBranch) := goodIn_app (goodIn_of _ (by decide +kernel)) ggX4_apply_X4_isBranch
set_option maxRecDepth 20000 in
theorem ggX4_apply_X4_isPatch : GoodIn wsX4_apply wsX4_isPatch := goodIn_r _ [10, 11, 12, 13, 4, 14, 15, 41, 42, 43, 44, 45, 46, 47, 48, 49, 50, 51, 52, 53] (by decide +kernel) (by decide +kernel)
set_option maxRecDepth 20000 in
theorem gX4_apply_X4_isPatch : GoodIn wsX4_apply (wsV RX4 99 RX4 yX4_isPatch wsX4_isPatch) := goodIn_app (goodIn_of _ (by decide +kernel)) ggX4_apply_X4_isPatch
set_option maxRecDepth 20000 in
theorem ggX4_apply_X4_laid : GoodIn wsX4_apply wsX4_laid := goodIn_r _ [19, 20, 15, 21, 22, 23, 4, 24, 25, 26, 27, 28, 29, 30, 31, 32, 33, 34, 35, 36, 37, 38, 39, 40, 41, 42, 43, 44, 45, 46, 47, 48, 49, 50, 51, 52, 53] (by decide +kernel) (by decide +kernel)
set_option maxRecDepth 20000 in
theorem gX4_apply_X4_laid : GoodIn wsX4_apply (wsV RX4 105 RX4 yX4_laid wsX4_laid) := goodIn_app (goodIn_of _ (by decide +kernel)) ggX4_apply_X4_laid
theorem dX4_apply_0 : decode cX4_apply 0 = .ok (.aload_n 0, 1) := by decide +kernel
theorem dX4_apply_1 : decode cX4_apply 1 = .ok (.iload_n 1, 1) := by decide +kernel
theorem dX4_apply_2 : decode cX4_apply 2 = .ok (.invokevirtual 54, 3) := by decide +kernel
theorem dX4_apply_5 : decode cX4_apply 5 = .ok (.ifCond .eq 20, 3) := by decide +kernel
theorem dX4_apply_8 : decode cX4_apply 8 = .ok (.aload_n 0, 1) := by decide +kernel
theorem dX4_apply_9 : decode cX4_apply 9 = .ok (.iload_n 2, 1) := by decide +kernel
theorem dX4_apply_10 : decode cX4_apply 10 = .ok (.invokevirtual 99, 3) := by decide +kernel
theorem dX4_apply_13 : decode cX4_apply 13 = .ok (.ifCond .eq 12, 3) := by decide +kernel
theorem dX4_apply_16 : decode cX4_apply 16 = .ok (.aload_n 0, 1) := by decide +kernel
theorem dX4_apply_17 : decode cX4_apply 17 = .ok (.iload_n 1, 1) := by decide +kernel
theorem dX4_apply_18 : decode cX4_apply 18 = .ok (.iload_n 2, 1) := by decide +kernel
theorem dX4_apply_19 : decode cX4_apply 19 = .ok (.invokevirtual 105, 3) := by decide +kernel
theorem dX4_apply_22 : decode cX4_apply 22 = .ok (.goto 4, 3) := by decide +kernel
theorem dX4_apply_25 : decode cX4_apply 25 = .ok (.iconst (-1), 1) := by decide +kernel
theorem dX4_apply_26 : decode cX4_apply 26 = .ok (.ireturn, 1) := by decide +kernel
set_option maxRecDepth 20000 in
theorem ggX4_revert_X4_isBranch : GoodIn wsX4_revert wsX4_isBranch := goodIn_r _ [8, 9, 42, 43, 44, 45, 46, 47, 48, 49, 50, 51, 52, 53, 54] (by decide +kernel) (by decide +kernel)
set_option maxRecDepth 20000 in
theorem gX4_revert_X4_isBranch : GoodIn wsX4_revert (wsV RX4 54 RX4 yX4_isBranch wsX4_isBranch) := goodIn_app (goodIn_of _ (by decide +kernel)) ggX4_revert_X4_isBranch
set_option maxRecDepth 20000 in
theorem ggX4_revert_X4_isVersion : GoodIn wsX4_revert wsX4_isVersion := goodIn_r _ [13, 14, 42, 43, 44, 45, 46, 47, 48, 49, 50, 51, 52, 53, 54] (by decide +kernel) (by decide +kernel)
set_option maxRecDepth 20000 in
theorem gX4_revert_X4_isVersion : GoodIn wsX4_revert (wsV RX4 96 RX4 yX4_isVersion wsX4_isVersion) := goodIn_app (goodIn_of _ (by decide +kernel)) ggX4_revert_X4_isVersion
set_option maxRecDepth 20000 in
theorem ggX4_revert_X4_mark : GoodIn wsX4_revert wsX4_mark := goodIn_r _ [18, 14, 19, 3, 42, 43, 44, 45, 46, 47, 48, 49, 50, 51, 52, 53, 54] (by decide +kernel) (by decide +kernel)
set_option maxRecDepth 20000 in
theorem gX4_revert_X4_mark : GoodIn wsX4_revert (wsV RX4 83 RX4 yX4_mark wsX4_mark) := goodIn_app (goodIn_of _ (by decide +kernel)) ggX4_revert_X4_mark
set_option maxRecDepth 20000 in
theorem ggX4_revert_X4_laid : GoodIn wsX4_revert wsX4_laid := goodIn_r _ [23, 1, 14, 24, 25, 26, 7, 27, 19, 28, 29, 30, 31, 32, 33, 34, 35, 36, 37, 38, 39, 40, 41, 3, 42, 43, 44, 45, 46, 47, 48, 49, 50, 51, 52, 53, 54] (by decide +kernel) (by decide +kernel)
set_option maxRecDepth 20000 in
theorem gX4_revert_X4_laid : GoodIn wsX4_revert (wsV RX4 105 RX4 yX4_laid wsX4_laid) := goodIn_app (goodIn_of _ (by decide +kernel)) ggX4_revert_X4_laid
theorem dX4_revert_0 : decode cX4_revert 0 = .ok (.aload_n 0, 1) := by decide +kernel
theorem dX4_revert_1 : decode cX4_revert 1 = .ok (.iload_n 1, 1) := by decide +kernel
theorem dX4_revert_2 : decode cX4_revert 2 = .ok (.invokevirtual 54, 3) := by decide +kernel
theorem dX4_revert_5 : decode cX4_revert 5 = .ok (.ifCond .eq 11, 3) := by decide +kernel
theorem dX4_revert_8 : decode cX4_revert 8 = .ok (.aload_n 0, 1) := by decide +kernel
theorem dX4_revert_9 : decode cX4_revert 9 = .ok (.iload_n 2, 1) := by decide +kernel
theorem dX4_revert_10 : decode cX4_revert 10 = .ok (.invokevirtual 96, 3) := by decide +kernel
theorem dX4_revert_13 : decode cX4_revert 13 = .ok (.ifCond .ne 5, 3) := by decide +kernel
theorem dX4_revert_16 : decode cX4_revert 16 = .ok (.iconst (-1), 1) := by decide +kernel
theorem dX4_revert_17 : decode cX4_revert 17 = .ok (.ireturn, 1) := by decide +kernel
theorem dX4_revert_18 : decode cX4_revert 18 = .ok (.aload_n 0, 1) := by decide +kernel
theorem dX4_revert_19 : decode cX4_revert 19 = .ok (.aload_n 0, 1) := by decide +kernel
theorem dX4_revert_20 : decode cX4_revert 20 = .ok (.getfield 21, 3) := by decide +kernel
theorem dX4_revert_23 : decode cX4_revert 23 = .ok (.iload_n 1, 1) := by decide +kernel
theorem dX4_revert_24 : decode cX4_revert 24 = .ok (.iaload, 1) := by decide +kernel
theorem dX4_revert_25 : decode cX4_revert 25 = .ok (.aload_n 0, 1) := by decide +kernel
theorem dX4_revert_26 : decode cX4_revert 26 = .ok (.getfield 24, 3) := by decide +kernel
theorem dX4_revert_29 : decode cX4_revert 29 = .ok (.invokevirtual 83, 3) := by decide +kernel
theorem dX4_revert_32 : decode cX4_revert 32 = .ok (.aload_n 0, 1) := by decide +kernel
theorem dX4_revert_33 : decode cX4_revert 33 = .ok (.getfield 24, 3) := by decide +kernel
theorem dX4_revert_36 : decode cX4_revert 36 = .ok (.iload_n 2, 1) := by decide +kernel
theorem dX4_revert_37 : decode cX4_revert 37 = .ok (.baload, 1) := by decide +kernel
theorem dX4_revert_38 : decode cX4_revert 38 = .ok (.ifCond .eq 12, 3) := by decide +kernel
theorem dX4_revert_41 : decode cX4_revert 41 = .ok (.aload_n 0, 1) := by decide +kernel
theorem dX4_revert_42 : decode cX4_revert 42 = .ok (.getfield 18, 3) := by decide +kernel
theorem dX4_revert_45 : decode cX4_revert 45 = .ok (.iload_n 2, 1) := by decide +kernel
theorem dX4_revert_46 : decode cX4_revert 46 = .ok (.iaload, 1) := by decide +kernel
theorem dX4_revert_47 : decode cX4_revert 47 = .ok (.ifCond .lt 6, 3) := by decide +kernel
theorem dX4_revert_50 : decode cX4_revert 50 = .ok (.bipush (-3), 2) := by decide +kernel
theorem dX4_revert_52 : decode cX4_revert 52 = .ok (.ireturn, 1) := by decide +kernel
theorem dX4_revert_53 : decode cX4_revert 53 = .ok (.aload_n 0, 1) := by decide +kernel
theorem dX4_revert_54 : decode cX4_revert 54 = .ok (.iload_n 1, 1) := by decide +kernel
theorem dX4_revert_55 : decode cX4_revert 55 = .ok (.iconst (-1), 1) := by decide +kernel
theorem dX4_revert_56 : decode cX4_revert 56 = .ok (.iload_n 2, 1) := by decide +kernel
theorem dX4_revert_57 : decode cX4_revert 57 = .ok (.isub, 1) := by decide +kernel
theorem dX4_revert_58 : decode cX4_revert 58 = .ok (.invokevirtual 105, 3) := by decide +kernel
theorem dX4_revert_61 : decode cX4_revert 61 = .ok (.ireturn, 1) := by decide +kernel
set_option maxRecDepth 20000 in
theorem ggX4_history_X4_isTriple : GoodIn wsX4_history wsX4_isTriple := goodIn_r _ [7] (by decide +kernel) (by decide +kernel)
set_option maxRecDepth 20000 in
theorem gX4_history_X4_isTriple : GoodIn wsX4_history (va_wsS RX4 66 yX4_isTriple wsX4_isTriple) := goodIn_app (goodIn_of _ (by decide +kernel)) ggX4_history_X4_isTriple
set_option maxRecDepth 20000 in
theorem ggX4_history_X4_has : GoodIn wsX4_history wsX4_has := goodIn_r _ [11, 12, 13, 14, 15, 16, 17, 18, 19, 20, 21, 22, 23, 24, 25] (by decide +kernel) (by decide +kernel)
set_option maxRecDepth 20000 in
theorem gX4_history_X4_has : GoodIn wsX4_history (wsV RX4 50 RX4 yX4_has wsX4_has) := goodIn_app (goodIn_of _ (by decide +kernel)) ggX4_history_X4_has
theorem dX4_history_0 : decode cX4_history 0 = .ok (.iload_n 1, 1) := by decide +kernel
theorem dX4_history_1 : decode cX4_history 1 = .ok (.invokestatic 66, 3) := by decide +kernel
theorem dX4_history_4 : decode cX4_history 4 = .ok (.ifCond .eq 7, 3) := by decide +kernel
theorem dX4_history_7 : decode cX4_history 7 = .ok (.iload_n 2, 1) := by decide +kernel
theorem dX4_history_8 : decode cX4_history 8 = .ok (.ifCond .ge 6, 3) := by decide +kernel
theorem dX4_history_11 : decode cX4_history 11 = .ok (.bipush (-2), 2) := by decide +kernel
theorem dX4_history_13 : decode cX4_history 13 = .ok (.ireturn, 1) := by decide +kernel
theorem dX4_history_14 : decode cX4_history 14 = .ok (.iload_n 2, 1) := by decide +kernel
theorem dX4_history_15 : decode cX4_history 15 = .ok (.istore_n 3, 1) := by decide +kernel
theorem dX4_history_16 : decode cX4_history 16 = .ok (.iconst 0, 1) := by decide +kernel
theorem dX4_history_17 : decode cX4_history 17 = .ok (.istore 4, 2) := by decide +kernel
theorem dX4_history_19 : decode cX4_history 19 = .ok (.iload 4, 2) := by decide +kernel
theorem dX4_history_21 : decode cX4_history 21 = .ok (.aload_n 0, 1) := by decide +kernel
theorem dX4_history_22 : decode cX4_history 22 = .ok (.getfield 43, 3) := by decide +kernel
theorem dX4_history_25 : decode cX4_history 25 = .ok (.if_icmp .ge 54, 3) := by decide +kernel
theorem dX4_history_28 : decode cX4_history 28 = .ok (.aload_n 0, 1) := by decide +kernel
theorem dX4_history_29 : decode cX4_history 29 = .ok (.getfield 18, 3) := by decide +kernel
theorem dX4_history_32 : decode cX4_history 32 = .ok (.iload 4, 2) := by decide +kernel
theorem dX4_history_34 : decode cX4_history 34 = .ok (.iaload, 1) := by decide +kernel
theorem dX4_history_35 : decode cX4_history 35 = .ok (.ifCond .ge 38, 3) := by decide +kernel
theorem dX4_history_38 : decode cX4_history 38 = .ok (.aload_n 0, 1) := by decide +kernel
theorem dX4_history_39 : decode cX4_history 39 = .ok (.iload 4, 2) := by decide +kernel
theorem dX4_history_41 : decode cX4_history 41 = .ok (.iload_n 1, 1) := by decide +kernel
theorem dX4_history_42 : decode cX4_history 42 = .ok (.invokevirtual 50, 3) := by decide +kernel
theorem dX4_history_45 : decode cX4_history 45 = .ok (.aload_n 0, 1) := by decide +kernel
theorem dX4_history_46 : decode cX4_history 46 = .ok (.aload_n 0, 1) := by decide +kernel
theorem dX4_history_47 : decode cX4_history 47 = .ok (.getfield 14, 3) := by decide +kernel
theorem dX4_history_50 : decode cX4_history 50 = .ok (.iload 4, 2) := by decide +kernel
theorem dX4_history_52 : decode cX4_history 52 = .ok (.iaload, 1) := by decide +kernel
theorem dX4_history_53 : decode cX4_history 53 = .ok (.iload_n 1, 1) := by decide +kernel
theorem dX4_history_54 : decode cX4_history 54 = .ok (.invokevirtual 50, 3) := by decide +kernel
theorem dX4_history_57 : decode cX4_history 57 = .ok (.if_icmp .ne 6, 3) := by decide +kernel
theorem dX4_history_60 : decode cX4_history 60 = .ok (.goto 13, 3) := by decide +kernel
theorem dX4_history_63 : decode cX4_history 63 = .ok (.iload_n 3, 1) := by decide +kernel
theorem dX4_history_64 : decode cX4_history 64 = .ok (.ifCond .ne 6, 3) := by decide +kernel
theorem dX4_history_67 : decode cX4_history 67 = .ok (.iload 4, 2) := by decide +kernel
theorem dX4_history_69 : decode cX4_history 69 = .ok (.ireturn, 1) := by decide +kernel
theorem dX4_history_70 : decode cX4_history 70 = .ok (.iinc 3 (-1), 3) := by decide +kernel
theorem dX4_history_73 : decode cX4_history 73 = .ok (.iinc 4 1, 3) := by decide +kernel
theorem dX4_history_76 : decode cX4_history 76 = .ok (.goto (-57), 3) := by decide +kernel
theorem dX4_history_79 : decode cX4_history 79 = .ok (.bipush (-2), 2) := by decide +kernel
theorem dX4_history_81 : decode cX4_history 81 = .ok (.ireturn, 1) := by decide +kernel
set_option maxRecDepth 20000 in
theorem ggX4_report_X4_isBranch : GoodIn wsX4_report wsX4_isBranch := goodIn_r _ [6, 7, 13, 14, 15, 16, 17, 18, 19, 20, 21, 22, 23, 24, 25] (by decide +kernel) (by decide +kernel)
set_option maxRecDepth 20000 in
theorem gX4_report_X4_isBranch : GoodIn wsX4_report (wsV RX4 54 RX4 yX4_isBranch wsX4_isBranch) := goodIn_app (goodIn_of _ (by decide +kernel)) ggX4_report_X4_isBranch
set_option maxRecDepth 20000 in
theorem ggX4_report_X4_has : GoodIn wsX4_report wsX4_has := goodIn_r _ [11, 12, 13, 14, 15, 16, 17, 18, 19, 20, 21, 22, 23, 24, 25] (by decide +kernel) (by decide +kernel)
set_option maxRecDepth 20000 in
theorem gX4_report_X4_has : GoodIn wsX4_report (wsV RX4 50 RX4 yX4_has wsX4_has) := goodIn_app (goodIn_of _ (by decide +kernel)) ggX4_report_X4_has
theorem dX4_report_0 : decode cX4_report 0 = .ok (.aload_n 0, 1) := by decide +kernel
theorem dX4_report_1 : decode cX4_report 1 = .ok (.iload_n 1, 1) := by decide +kernel
theorem dX4_report_2 : decode cX4_report 2 = .ok (.invokevirtual 54, 3) := by decide +kernel
theorem dX4_report_5 : decode cX4_report 5 = .ok (.ifCond .ne 5, 3) := by decide +kernel
theorem dX4_report_8 : decode cX4_report 8 = .ok (.iconst (-1), 1) := by decide +kernel
theorem dX4_report_9 : decode cX4_report 9 = .ok (.ireturn, 1) := by decide +kernel
theorem dX4_report_10 : decode cX4_report 10 = .ok (.iconst 1, 1) := by decide +kernel
theorem dX4_report_11 : decode cX4_report 11 = .ok (.istore_n 2, 1) := by decide +kernel
theorem dX4_report_12 : decode cX4_report 12 = .ok (.iconst 0, 1) := by decide +kernel
theorem dX4_report_13 : decode cX4_report 13 = .ok (.istore_n 3, 1) := by decide +kernel
theorem dX4_report_14 : decode cX4_report 14 = .ok (.iload_n 3, 1) := by decide +kernel
theorem dX4_report_15 : decode cX4_report 15 = .ok (.sipush 256, 3) := by decide +kernel
theorem dX4_report_18 : decode cX4_report 18 = .ok (.if_icmp .ge 83, 3) := by decide +kernel
theorem dX4_report_21 : decode cX4_report 21 = .ok (.iconst 0, 1) := by decide +kernel
theorem dX4_report_22 : decode cX4_report 22 = .ok (.istore 4, 2) := by decide +kernel
theorem dX4_report_24 : decode cX4_report 24 = .ok (.iconst 0, 1) := by decide +kernel
theorem dX4_report_25 : decode cX4_report 25 = .ok (.istore 5, 2) := by decide +kernel
theorem dX4_report_27 : decode cX4_report 27 = .ok (.iload 5, 2) := by decide +kernel
theorem dX4_report_29 : decode cX4_report 29 = .ok (.bipush 16, 2) := by decide +kernel
theorem dX4_report_31 : decode cX4_report 31 = .ok (.if_icmp .ge 48, 3) := by decide +kernel
theorem dX4_report_34 : decode cX4_report 34 = .ok (.iload_n 3, 1) := by decide +kernel
theorem dX4_report_35 : decode cX4_report 35 = .ok (.bipush 15, 2) := by decide +kernel
theorem dX4_report_37 : decode cX4_report 37 = .ok (.iand, 1) := by decide +kernel
theorem dX4_report_38 : decode cX4_report 38 = .ok (.bipush 11, 2) := by decide +kernel
theorem dX4_report_40 : decode cX4_report 40 = .ok (.if_icmp .le 39, 3) := by decide +kernel
theorem dX4_report_43 : decode cX4_report 43 = .ok (.iload 4, 2) := by decide +kernel
theorem dX4_report_45 : decode cX4_report 45 = .ok (.aload_n 0, 1) := by decide +kernel
theorem dX4_report_46 : decode cX4_report 46 = .ok (.aload_n 0, 1) := by decide +kernel
theorem dX4_report_47 : decode cX4_report 47 = .ok (.getfield 21, 3) := by decide +kernel
theorem dX4_report_50 : decode cX4_report 50 = .ok (.iload_n 1, 1) := by decide +kernel
theorem dX4_report_51 : decode cX4_report 51 = .ok (.iaload, 1) := by decide +kernel
theorem dX4_report_52 : decode cX4_report 52 = .ok (.bipush 16, 2) := by decide +kernel
theorem dX4_report_54 : decode cX4_report 54 = .ok (.iload_n 3, 1) := by decide +kernel
theorem dX4_report_55 : decode cX4_report 55 = .ok (.imul, 1) := by decide +kernel
theorem dX4_report_56 : decode cX4_report 56 = .ok (.iload 5, 2) := by decide +kernel
theorem dX4_report_58 : decode cX4_report 58 = .ok (.iadd, 1) := by decide +kernel
theorem dX4_report_59 : decode cX4_report 59 = .ok (.invokevirtual 50, 3) := by decide +kernel
theorem dX4_report_62 : decode cX4_report 62 = .ok (.ifCond .eq 7, 3) := by decide +kernel
theorem dX4_report_65 : decode cX4_report 65 = .ok (.iconst 1, 1) := by decide +kernel
theorem dX4_report_66 : decode cX4_report 66 = .ok (.goto 4, 3) := by decide +kernel
theorem dX4_report_69 : decode cX4_report 69 = .ok (.iconst 0, 1) := by decide +kernel
theorem dX4_report_70 : decode cX4_report 70 = .ok (.iadd, 1) := by decide +kernel
theorem dX4_report_71 : decode cX4_report 71 = .ok (.istore 4, 2) := by decide +kernel
theorem dX4_report_73 : decode cX4_report 73 = .ok (.iinc 5 1, 3) := by decide +kernel
theorem dX4_report_76 : decode cX4_report 76 = .ok (.goto (-49), 3) := by decide +kernel
theorem dX4_report_79 : decode cX4_report 79 = .ok (.iload_n 2, 1) := by decide +kernel
theorem dX4_report_80 : decode cX4_report 80 = .ok (.ifCond .eq 13, 3) := by decide +kernel
theorem dX4_report_83 : decode cX4_report 83 = .ok (.iload 4, 2) := by decide +kernel
theorem dX4_report_85 : decode cX4_report 85 = .ok (.iconst 2, 1) := by decide +kernel
theorem dX4_report_86 : decode cX4_report 86 = .ok (.if_icmp .ge 7, 3) := by decide +kernel
theorem dX4_report_89 : decode cX4_report 89 = .ok (.iconst 1, 1) := by decide +kernel
theorem dX4_report_90 : decode cX4_report 90 = .ok (.goto 4, 3) := by decide +kernel
theorem dX4_report_93 : decode cX4_report 93 = .ok (.iconst 0, 1) := by decide +kernel
theorem dX4_report_94 : decode cX4_report 94 = .ok (.istore_n 2, 1) := by decide +kernel
theorem dX4_report_95 : decode cX4_report 95 = .ok (.iinc 3 1, 3) := by decide +kernel
theorem dX4_report_98 : decode cX4_report 98 = .ok (.goto (-84), 3) := by decide +kernel
theorem dX4_report_101 : decode cX4_report 101 = .ok (.iload_n 2, 1) := by decide +kernel
theorem dX4_report_102 : decode cX4_report 102 = .ok (.ifCond .eq 7, 3) := by decide +kernel
theorem dX4_report_105 : decode cX4_report 105 = .ok (.iconst 1, 1) := by decide +kernel
theorem dX4_report_106 : decode cX4_report 106 = .ok (.goto 4, 3) := by decide +kernel
theorem dX4_report_109 : decode cX4_report 109 = .ok (.iconst 0, 1) := by decide +kernel
theorem dX4_report_110 : decode cX4_report 110 = .ok (.ireturn, 1) := by decide +kernel
set_option maxRecDepth 20000 in
theorem ggX4_list_X4_isBranch : GoodIn wsX4_list wsX4_isBranch := goodIn_r _ [6, 7, 13, 14, 15, 16, 17, 18, 19, 20, 21, 22, 23, 24, 25] (by decide +kernel) (by decide +kernel)
set_option maxRecDepth 20000 in
theorem gX4_list_X4_isBranch : GoodIn wsX4_list (wsV RX4 54 RX4 yX4_isBranch wsX4_isBranch) := goodIn_app (goodIn_of _ (by decide +kernel)) ggX4_list_X4_isBranch
set_option maxRecDepth 20000 in
theorem ggX4_list_X4_has : GoodIn wsX4_list wsX4_has := goodIn_r _ [11, 12, 13, 14, 15, 16, 17, 18, 19, 20, 21, 22, 23, 24, 25] (by decide +kernel) (by decide +kernel)
set_option maxRecDepth 20000 in
theorem gX4_list_X4_has : GoodIn wsX4_list (wsV RX4 50 RX4 yX4_has wsX4_has) := goodIn_app (goodIn_of _ (by decide +kernel)) ggX4_list_X4_has
theorem dX4_list_0 : decode cX4_list 0 = .ok (.aload_n 0, 1) := by decide +kernel
theorem dX4_list_1 : decode cX4_list 1 = .ok (.iload_n 1, 1) := by decide +kernel
theorem dX4_list_2 : decode cX4_list 2 = .ok (.invokevirtual 54, 3) := by decide +kernel
theorem dX4_list_5 : decode cX4_list 5 = .ok (.ifCond .ne 5, 3) := by decide +kernel
theorem dX4_list_8 : decode cX4_list 8 = .ok (.iconst (-1), 1) := by decide +kernel
theorem dX4_list_9 : decode cX4_list 9 = .ok (.ireturn, 1) := by decide +kernel
theorem dX4_list_10 : decode cX4_list 10 = .ok (.iload_n 2, 1) := by decide +kernel
theorem dX4_list_11 : decode cX4_list 11 = .ok (.istore_n 3, 1) := by decide +kernel
theorem dX4_list_12 : decode cX4_list 12 = .ok (.iconst 0, 1) := by decide +kernel
theorem dX4_list_13 : decode cX4_list 13 = .ok (.istore 4, 2) := by decide +kernel
theorem dX4_list_15 : decode cX4_list 15 = .ok (.iload 4, 2) := by decide +kernel
theorem dX4_list_17 : decode cX4_list 17 = .ok (.sipush 4096, 3) := by decide +kernel
theorem dX4_list_20 : decode cX4_list 20 = .ok (.if_icmp .ge 41, 3) := by decide +kernel
theorem dX4_list_23 : decode cX4_list 23 = .ok (.iload_n 2, 1) := by decide +kernel
theorem dX4_list_24 : decode cX4_list 24 = .ok (.ifCond .lt 37, 3) := by decide +kernel
theorem dX4_list_27 : decode cX4_list 27 = .ok (.aload_n 0, 1) := by decide +kernel
theorem dX4_list_28 : decode cX4_list 28 = .ok (.aload_n 0, 1) := by decide +kernel
theorem dX4_list_29 : decode cX4_list 29 = .ok (.getfield 21, 3) := by decide +kernel
theorem dX4_list_32 : decode cX4_list 32 = .ok (.iload_n 1, 1) := by decide +kernel
theorem dX4_list_33 : decode cX4_list 33 = .ok (.iaload, 1) := by decide +kernel
theorem dX4_list_34 : decode cX4_list 34 = .ok (.iload 4, 2) := by decide +kernel
theorem dX4_list_36 : decode cX4_list 36 = .ok (.invokevirtual 50, 3) := by decide +kernel
theorem dX4_list_39 : decode cX4_list 39 = .ok (.ifCond .ne 6, 3) := by decide +kernel
theorem dX4_list_42 : decode cX4_list 42 = .ok (.goto 13, 3) := by decide +kernel
theorem dX4_list_45 : decode cX4_list 45 = .ok (.iload_n 3, 1) := by decide +kernel
theorem dX4_list_46 : decode cX4_list 46 = .ok (.ifCond .ne 6, 3) := by decide +kernel
theorem dX4_list_49 : decode cX4_list 49 = .ok (.iload 4, 2) := by decide +kernel
theorem dX4_list_51 : decode cX4_list 51 = .ok (.ireturn, 1) := by decide +kernel
theorem dX4_list_52 : decode cX4_list 52 = .ok (.iinc 3 (-1), 3) := by decide +kernel
theorem dX4_list_55 : decode cX4_list 55 = .ok (.iinc 4 1, 3) := by decide +kernel
theorem dX4_list_58 : decode cX4_list 58 = .ok (.goto (-43), 3) := by decide +kernel
theorem dX4_list_61 : decode cX4_list 61 = .ok (.bipush (-2), 2) := by decide +kernel
theorem dX4_list_63 : decode cX4_list 63 = .ok (.ireturn, 1) := by decide +kernel
theorem dX4_versions_0 : decode cX4_versions 0 = .ok (.aload_n 0, 1) := by decide +kernel
theorem dX4_versions_1 : decode cX4_versions 1 = .ok (.getfield 43, 3) := by decide +kernel
theorem dX4_versions_4 : decode cX4_versions 4 = .ok (.ireturn, 1) := by decide +kernel
theorem dX4_branches_0 : decode cX4_branches 0 = .ok (.aload_n 0, 1) := by decide +kernel
theorem dX4_branches_1 : decode cX4_branches 1 = .ok (.getfield 47, 3) := by decide +kernel
theorem dX4_branches_4 : decode cX4_branches 4 = .ok (.ireturn, 1) := by decide +kernel
theorem dJ13_bitCount_95d88_0 : decode cJ13_bitCount_95d88 0 = .ok (.lload_n 0, 1) := by decide +kernel
theorem dJ13_bitCount_95d88_1 : decode cJ13_bitCount_95d88 1 = .ok (.lload_n 0, 1) := by decide +kernel
theorem dJ13_bitCount_95d88_2 : decode cJ13_bitCount_95d88 2 = .ok (.iconst 1, 1) := by decide +kernel
theorem dJ13_bitCount_95d88_3 : decode cJ13_bitCount_95d88 3 = .ok (.lushr, 1) := by decide +kernel
theorem dJ13_bitCount_95d88_4 : decode cJ13_bitCount_95d88 4 = .ok (.ldc2_w 314, 3) := by decide +kernel
theorem dJ13_bitCount_95d88_7 : decode cJ13_bitCount_95d88 7 = .ok (.land, 1) := by decide +kernel
theorem dJ13_bitCount_95d88_8 : decode cJ13_bitCount_95d88 8 = .ok (.lsub, 1) := by decide +kernel
theorem dJ13_bitCount_95d88_9 : decode cJ13_bitCount_95d88 9 = .ok (.lstore_n 0, 1) := by decide +kernel
theorem dJ13_bitCount_95d88_10 : decode cJ13_bitCount_95d88 10 = .ok (.lload_n 0, 1) := by decide +kernel
theorem dJ13_bitCount_95d88_11 : decode cJ13_bitCount_95d88 11 = .ok (.ldc2_w 316, 3) := by decide +kernel
theorem dJ13_bitCount_95d88_14 : decode cJ13_bitCount_95d88 14 = .ok (.land, 1) := by decide +kernel
theorem dJ13_bitCount_95d88_15 : decode cJ13_bitCount_95d88 15 = .ok (.lload_n 0, 1) := by decide +kernel
theorem dJ13_bitCount_95d88_16 : decode cJ13_bitCount_95d88 16 = .ok (.iconst 2, 1) := by decide +kernel
theorem dJ13_bitCount_95d88_17 : decode cJ13_bitCount_95d88 17 = .ok (.lushr, 1) := by decide +kernel
theorem dJ13_bitCount_95d88_18 : decode cJ13_bitCount_95d88 18 = .ok (.ldc2_w 316, 3) := by decide +kernel
theorem dJ13_bitCount_95d88_21 : decode cJ13_bitCount_95d88 21 = .ok (.land, 1) := by decide +kernel
theorem dJ13_bitCount_95d88_22 : decode cJ13_bitCount_95d88 22 = .ok (.ladd, 1) := by decide +kernel
theorem dJ13_bitCount_95d88_23 : decode cJ13_bitCount_95d88 23 = .ok (.lstore_n 0, 1) := by decide +kernel
theorem dJ13_bitCount_95d88_24 : decode cJ13_bitCount_95d88 24 = .ok (.lload_n 0, 1) := by decide +kernel
theorem dJ13_bitCount_95d88_25 : decode cJ13_bitCount_95d88 25 = .ok (.lload_n 0, 1) := by decide +kernel
theorem dJ13_bitCount_95d88_26 : decode cJ13_bitCount_95d88 26 = .ok (.iconst 4, 1) := by decide +kernel
theorem dJ13_bitCount_95d88_27 : decode cJ13_bitCount_95d88 27 = .ok (.lushr, 1) := by decide +kernel
theorem dJ13_bitCount_95d88_28 : decode cJ13_bitCount_95d88 28 = .ok (.ladd, 1) := by decide +kernel
theorem dJ13_bitCount_95d88_29 : decode cJ13_bitCount_95d88 29 = .ok (.ldc2_w 318, 3) := by decide +kernel
theorem dJ13_bitCount_95d88_32 : decode cJ13_bitCount_95d88 32 = .ok (.land, 1) := by decide +kernel
theorem dJ13_bitCount_95d88_33 : decode cJ13_bitCount_95d88 33 = .ok (.lstore_n 0, 1) := by decide +kernel
theorem dJ13_bitCount_95d88_34 : decode cJ13_bitCount_95d88 34 = .ok (.lload_n 0, 1) := by decide +kernel
theorem dJ13_bitCount_95d88_35 : decode cJ13_bitCount_95d88 35 = .ok (.lload_n 0, 1) := by decide +kernel
theorem dJ13_bitCount_95d88_36 : decode cJ13_bitCount_95d88 36 = .ok (.bipush 8, 2) := by decide +kernel
theorem dJ13_bitCount_95d88_38 : decode cJ13_bitCount_95d88 38 = .ok (.lushr, 1) := by decide +kernel
theorem dJ13_bitCount_95d88_39 : decode cJ13_bitCount_95d88 39 = .ok (.ladd, 1) := by decide +kernel
theorem dJ13_bitCount_95d88_40 : decode cJ13_bitCount_95d88 40 = .ok (.lstore_n 0, 1) := by decide +kernel
theorem dJ13_bitCount_95d88_41 : decode cJ13_bitCount_95d88 41 = .ok (.lload_n 0, 1) := by decide +kernel
theorem dJ13_bitCount_95d88_42 : decode cJ13_bitCount_95d88 42 = .ok (.lload_n 0, 1) := by decide +kernel
theorem dJ13_bitCount_95d88_43 : decode cJ13_bitCount_95d88 43 = .ok (.bipush 16, 2) := by decide +kernel
theorem dJ13_bitCount_95d88_45 : decode cJ13_bitCount_95d88 45 = .ok (.lushr, 1) := by decide +kernel
theorem dJ13_bitCount_95d88_46 : decode cJ13_bitCount_95d88 46 = .ok (.ladd, 1) := by decide +kernel
theorem dJ13_bitCount_95d88_47 : decode cJ13_bitCount_95d88 47 = .ok (.lstore_n 0, 1) := by decide +kernel
theorem dJ13_bitCount_95d88_48 : decode cJ13_bitCount_95d88 48 = .ok (.lload_n 0, 1) := by decide +kernel
theorem dJ13_bitCount_95d88_49 : decode cJ13_bitCount_95d88 49 = .ok (.lload_n 0, 1) := by decide +kernel
theorem dJ13_bitCount_95d88_50 : decode cJ13_bitCount_95d88 50 = .ok (.bipush 32, 2) := by decide +kernel
theorem dJ13_bitCount_95d88_52 : decode cJ13_bitCount_95d88 52 = .ok (.lushr, 1) := by decide +kernel
theorem dJ13_bitCount_95d88_53 : decode cJ13_bitCount_95d88 53 = .ok (.ladd, 1) := by decide +kernel
theorem dJ13_bitCount_95d88_54 : decode cJ13_bitCount_95d88 54 = .ok (.lstore_n 0, 1) := by decide +kernel
theorem dJ13_bitCount_95d88_55 : decode cJ13_bitCount_95d88 55 = .ok (.lload_n 0, 1) := by decide +kernel
theorem dJ13_bitCount_95d88_56 : decode cJ13_bitCount_95d88 56 = .ok (.l2i, 1) := by decide +kernel
theorem dJ13_bitCount_95d88_57 : decode cJ13_bitCount_95d88 57 = .ok (.bipush 127, 2) := by decide +kernel
theorem dJ13_bitCount_95d88_59 : decode cJ13_bitCount_95d88 59 = .ok (.iand, 1) := by decide +kernel
theorem dJ13_bitCount_95d88_60 : decode cJ13_bitCount_95d88 60 = .ok (.ireturn, 1) := by decide +kernel
theorem dJ9_min_7cf53_0 : decode cJ9_min_7cf53 0 = .ok (.iload_n 0, 1) := by decide +kernel
theorem dJ9_min_7cf53_1 : decode cJ9_min_7cf53 1 = .ok (.iload_n 1, 1) := by decide +kernel
theorem dJ9_min_7cf53_2 : decode cJ9_min_7cf53 2 = .ok (.if_icmp .gt 7, 3) := by decide +kernel
theorem dJ9_min_7cf53_5 : decode cJ9_min_7cf53 5 = .ok (.iload_n 0, 1) := by decide +kernel
theorem dJ9_min_7cf53_6 : decode cJ9_min_7cf53 6 = .ok (.goto 4, 3) := by decide +kernel
theorem dJ9_min_7cf53_9 : decode cJ9_min_7cf53 9 = .ok (.iload_n 1, 1) := by decide +kernel
theorem dJ9_min_7cf53_10 : decode cJ9_min_7cf53 10 = .ok (.ireturn, 1) := by decide +kernel
end
section
/-! 02: the forms of a contract, rows over single cells, calls -/
abbrev ty6 (g : Nat → ClassId) : List (ClassId × FieldType) := [(g 0, .byte), (g 1, .int), (g 2, .long), (g 3, .boolean), (g 4, .object RX0), (g 5, .object RX2)]
def nestM : List (String × Nat × MethodName) := [(RX3, 23, yX1_init), (RX3, 152, yX2_init), (RX2, 11, yX1_init), (RX2, 33, yX1_becomeCopy), (RX3, 155, yX0_init), (RX3, 61, yX1_has), (RX1, 15, yX3_isTriple), (RX3, 64, yX1_becomeCopy), (RX3, 68, yX1_change), (RX3, 79, yX1_mentions), (RX3, 82, yX1_becomeRenamed), (RX3, 93, yX2_hasAncestor), (RX3, 168, yX1_becomeMerged), (RX3, 142, yX1_crowdedKeys), (RX3, 100, yX1_crowdedKey), (RX3, 104, yX1_leastOfKey), (RX3, 107, yX1_greatestOfKey), (RX3, 114, yX1_becomeDifference), (RX3, 118, yX1_tripleAt), (RX3, 172, yX1_hasAllRemoved), (RX3, 176, yX1_becomeLaid), (RX3, 179, yX1_isSameAs)]
def nestF : List (String × Nat × String × String × String) := [(RX3, 86, RX2, "number", "I"), (RX3, 149, RX2, "first", "LVersionMerge$Version;"), (RX3, 135, RX2, "second", "LVersionMerge$Version;"), (RX3, 58, RX2, "triples", "LVersionMerge$TripleSet;"), (RX3, 50, RX0, "head", "LVersionMerge$Version;")]
def kNest (U : State) : Prop := (∀ q ∈ nestM, va_Nw (.methodLinkNest q.1 q.2.1 q.2.2 "VersionMerge") U) ∧ (∀ q ∈ nestF, va_Nw (.fieldLinkNest q.1 q.2.1 q.2.2.1 q.2.2.2.1 q.2.2.2.2 "VersionMerge") U) ∧ va_AO RX0 U ∧ va_AO RX2 U
def KK (D : va_G) (g : Nat → ClassId) (U : State) : Prop := va_K D vwCl (ty6 g) U ∧ kNest U
theorem KK.moved {D : va_G} {g : Nat → ClassId} {s U : State} (hW : s.WarmedH U.vm) (h : KK D g s) : KK D g U := ⟨va_K.moved hW.alike h.1, fun q hq => (h.2.1 q hq).warmM hW, fun q hq => (h.2.2.1 q hq).warmF hW, h.2.2.2.1.moved hW.alike, h.2.2.2.2.moved hW.alike⟩
theorem KK.calling {D : va_G} {g : Nat → ClassId} {U : State} {f : JFrame} {mk : MethodId} {a : Array Value} (h : KK D g U) : KK D g (U.calling f mk a) := ⟨va_K.moved (u := U) (U := U.calling f mk a) (Vm.Alike.refl U.vm) h.1, fun q hq => va_Nw.same (u := U) (U := U.calling f mk a) rfl rfl (h.2.1 q hq), fun q hq => va_Nw.same (u := U) (U := U.calling f mk a) rfl rfl (h.2.2.1 q hq), va_AO.moved (u := U) (U := U.calling f mk a) (Vm.Alike.refl U.vm) h.2.2.2.1, va_AO.moved (u := U) (U := U.calling f mk a) (Vm.Alike.refl U.vm) h.2.2.2.2⟩
def kPc (D : va_G) (g : Nat → ClassId) (av : List Value) (H : Heap) : Array Value → State → Prop := fun v U => v = av.toArray ∧ U.heap = H ∧ KK D g U
theorem kPc_blind {D : va_G} {g : Nat → ClassId} {av : List Value} {H : Heap} : FrameBlind (kPc D g av H) := fun _ _ _ _ q => ⟨q.1, q.2.1, q.2.2.calling⟩
theorem kPc_at {D : va_G} {g : Nat → ClassId} {av : List Value} {H : Heap} {s U : State} (hK : KK D g s) (hU : U.heap = H) (hW : s.WarmedH U.vm) : kPc D g av H av.toArray U := ⟨rfl, hU, hK.moved hW⟩
def kX (X : Value) (H : Heap) : Array Value → State → Outcome → State → Prop := fun _ _ o t => o = .returned (some X) ∧ t.heap = H
def kS (P : Int32 → Prop) (H : Heap) : Array Value → State → Outcome → State → Prop := fun _ _ o t => ∃ r : Int32, o = .returned (some (.int r)) ∧ P r ∧ t.heap = H
def kI (P : Int32 → Heap → Prop) : Array Value → State → Outcome → State → Prop := fun _ _ o t => ∃ r : Int32, o = .returned (some (.int r)) ∧ P r t.heap
def kU (P : Heap → Prop) : Array Value → State → Outcome → State → Prop := fun _ _ o t => o = .returned none ∧ P t.heap
def kR (P : Nat → Heap → Prop) : Array Value → State → Outcome → State → Prop := fun _ _ o t => ∃ a : Nat, o = .returned (some (.ref a)) ∧ P a t.heap
abbrev kF (b0 : Nat) : Addr → Prop := fun q => b0 ≤ q
abbrev kN : Addr → Prop := fun _ => False
def LB (b0 : Nat) (locs : List Loc) : Prop := ∀ q ∈ locs, b0 ≤ q.base
theorem LB.nil {b0 : Nat} : LB b0 [] := fun _ h => by cases h
theorem LB.add {b0 a i : Nat} {locs : List Loc} (h : LB b0 locs) (ha : b0 ≤ a) : LB b0 (locs ++ [⟨a, i⟩]) := by
  intro q hq
  rcases List.mem_append.mp hq with h1 | h1
  · exact h q h1
  · rw [List.mem_singleton.mp h1]; exact ha
theorem LB.app {b0 : Nat} {l1 l2 : List Loc} (h : LB b0 l1) (h2 : ∀ q ∈ l2, b0 ≤ q.base) : LB b0 (l1 ++ l2) := by
  intro q hq
  rcases List.mem_append.mp hq with h1 | h1
  · exact h q h1
  · exact h2 q h1
def HA (D : va_G) (H : Heap) (a : Nat) (e : va_E) : Prop := va_at D vwCl (a, e) H
abbrev eO (ci : Nat) (fs : List Value) : va_E := .inr (ci, fs)
abbrev eI (c : ClassId) (n : Nat) (f : Nat → Int32) : va_E := .inl (c, n, .inl f)
abbrev eL (c : ClassId) (n : Nat) (f : Nat → Int64) : va_E := .inl (c, n, .inr (.inl f))
abbrev eQ (c : ClassId) (n : Nat) (f : Nat → Option Nat) : va_E := .inl (c, n, .inr (.inr (.inr (.inr f))))
theorem HA.one {D : va_G} {H : Heap} {a : Nat} {e : va_E} (h : HA D H a e) : va_P D vwCl [(a, e)] H := by
  intro k q hk
  cases k with
  | zero => cases hk; exact h
  | succ n => cases hk
theorem HA.kept {D : va_G} {H H1 : Heap} {a : Nat} {e : va_E} (h : HA D H a e) (hq : H1[a]? = H[a]?) : HA D H1 a e := va_at.kept h hq
theorem HA.lt {D : va_G} {H : Heap} {a : Nat} {e : va_E} (h : HA D H a e) : a < H.size := va_at.lt h
/-- one old cell may have changed -/
def Chg (H H1 : Heap) (a : Nat) : Prop := H.size ≤ H1.size ∧ ∀ q : Nat, q < H.size → q ≠ a → H1[q]? = H[q]?
theorem Chg.rf {H : Heap} {a : Nat} : Chg H H a := ⟨Nat.le_refl _, fun _ _ _ => rfl⟩
theorem Chg.of {H H1 : Heap} {a : Nat} (z : H1.size = H.size) (oq : ∀ q : Nat, q ≠ a → H1[q]? = H[q]?) : Chg H H1 a := ⟨Nat.le_of_eq z.symm, fun q _ h => oq q h⟩
theorem Chg.tr {H H1 H2 : Heap} {a : Nat} (h : Chg H H1 a) (h2 : Chg H1 H2 a) : Chg H H2 a := ⟨Nat.le_trans h.1 h2.1, fun q hl hq => (h2.2 q (Nat.lt_of_lt_of_le hl h.1) hq).trans (h.2 q hl hq)⟩
theorem HA.chg {D : va_G} {H H1 : Heap} {a x : Nat} {e : va_E} (h : HA D H x e) (hC : Chg H H1 a) (hn : x ≠ a) : HA D H1 x e := h.kept (hC.2 x h.lt hn)
/-- one cell more -/
def Add (H H1 : Heap) (a : Nat) : Prop := a = H.size ∧ H1.size = H.size + 1 ∧ ∀ q : Nat, q < H.size → H1[q]? = H[q]?
section KROWS
variable {p : Program} {l : Launch} {e : Env} {R : Room} {s : State} {m : MethodId} {args : Array Value} {below : List Frame} {meth : Method} {c : Code} {H : Heap} {locs : List Loc} {cells slots : Nat} {Q : State → Prop}
variable {cc : ByteArray} {pc : Nat} {ls : Array Slot} {rest st0 : List Value} {D : va_G} {g : Nat → ClassId} {a b0 mc ms : Nat} {aa : Array Value} {free : Addr → Prop}
theorem k_callX {X : Value} (hr : va_Run p l e R s m args below meth c H locs cells slots 0 0 (F0 m pc ls st0) rest (kX X H aa) kN)
    (kk : W p l e R s m args below meth c H locs cells slots Q (F0 m (pc + 3) ls (X :: rest))) : W p l e R s m args below meth c H locs cells slots Q (F0 m pc ls st0) := by
  intro T hT X0
  obtain ⟨v, st₀, t, T', L, h0, X', hL, e1, e2, ⟨hv, hh⟩, st⟩ := hr T hT X0
  cases hv
  obtain ⟨t2, a1, b1⟩ := kk T' (by rw [e1, hh]) (Stand.forget X' (fun q h => (hL q h).elim))
  exact ⟨t2, st t2 a1, b1⟩
theorem k_callS {P : Int32 → Prop} (hr : va_Run p l e R s m args below meth c H locs cells slots 0 0 (F0 m pc ls st0) rest (kS P H aa) kN)
    (kk : ∀ r : Int32, P r → W p l e R s m args below meth c H locs cells slots Q (F0 m (pc + 3) ls (.int r :: rest))) : W p l e R s m args below meth c H locs cells slots Q (F0 m pc ls st0) := by
  intro T hT X0
  obtain ⟨v, st₀, t, T', L, h0, X', hL, e1, e2, ⟨r, hv, hp, hh⟩, st⟩ := hr T hT X0
  cases hv
  obtain ⟨t2, a1, b1⟩ := kk r hp T' (by rw [e1, hh]) (Stand.forget X' (fun q h => (hL q h).elim))
  exact ⟨t2, st t2 a1, b1⟩
theorem k_callI {P : Int32 → Heap → Prop} (hr : va_Run p l e R s m args below meth c H locs cells slots mc ms (F0 m pc ls st0) rest (kI P aa) (kF b0)) (hL0 : LB b0 locs)
    (kk : ∀ (r : Int32) (H1 : Heap) (locs1 : List Loc), LB b0 locs1 → P r H1 → W p l e R s m args below meth c H1 locs1 (cells + mc) (slots + ms) Q (F0 m (pc + 3) ls (.int r :: rest))) : W p l e R s m args below meth c H locs cells slots Q (F0 m pc ls st0) := by
  intro T hT X0
  obtain ⟨v, st₀, t, T', L, h0, X', hL, e1, e2, ⟨r, hv, hp⟩, st⟩ := hr T hT X0
  cases hv
  obtain ⟨t2, a1, b1⟩ := kk r T'.heap _ (hL0.app hL) (by rw [e1]; exact hp) T' rfl X'
  exact ⟨t2, st t2 a1, b1⟩
theorem k_callU {P : Heap → Prop} (hr : va_Run p l e R s m args below meth c H locs cells slots mc ms (F0 m pc ls st0) rest (kU P aa) (kF b0)) (hL0 : LB b0 locs)
    (kk : ∀ (H1 : Heap) (locs1 : List Loc), LB b0 locs1 → P H1 → W p l e R s m args below meth c H1 locs1 (cells + mc) (slots + ms) Q (F0 m (pc + 3) ls rest)) : W p l e R s m args below meth c H locs cells slots Q (F0 m pc ls st0) := by
  intro T hT X0
  obtain ⟨v, st₀, t, T', L, h0, X', hL, e1, e2, ⟨hv, hp⟩, st⟩ := hr T hT X0
  cases hv
  obtain ⟨t2, a1, b1⟩ := kk T'.heap _ (hL0.app hL) (by rw [e1]; exact hp) T' rfl X'
  exact ⟨t2, st t2 a1, b1⟩
theorem k_callR {P : Nat → Heap → Prop} (hr : va_Run p l e R s m args below meth c H locs cells slots mc ms (F0 m pc ls st0) rest (kR P aa) (kF b0)) (hL0 : LB b0 locs)
    (kk : ∀ (r : Nat) (H1 : Heap) (locs1 : List Loc), LB b0 locs1 → P r H1 → W p l e R s m args below meth c H1 locs1 (cells + mc) (slots + ms) Q (F0 m (pc + 3) ls (.ref r :: rest))) : W p l e R s m args below meth c H locs cells slots Q (F0 m pc ls st0) := by
  intro T hT X0
  obtain ⟨v, st₀, t, T', L, h0, X', hL, e1, e2, ⟨r, hv, hp⟩, st⟩ := hr T hT X0
  cases hv
  obtain ⟨t2, a1, b1⟩ := kk r T'.heap _ (hL0.app hL) (by rw [e1]; exact hp) T' rfl X'
  exact ⟨t2, st t2 a1, b1⟩
theorem k_recv {C : String} {T : u_T} {N ci : Nat} {fs : List Value} (hK : KK D g s) (ho : HA D H a (eO ci fs)) (hc : vwCl[ci]? = some (C, T, N)) : ∃ cell : Cell, H[a]? = some cell ∧ cell.vm.isStatics = false ∧ s.vm.findClass C = some cell.cls := va_recv hK.1 ho.one (q0 := 0) hc rfl
theorem k_get (hexec : p.tables.exec = Jvm.exec) (hb : c.code = cc) {own C : String} {T : u_T} {N ci index : Nat} {Ts : List Cond} (hts : ∀ w ∈ Ts, w.before args s = true) (hin : ∀ w ∈ u_ws C T N, w ∈ Ts) (hown : s.vm.findClass own = some m.cls) (hK : KK D g s) {fs : List Value} (ho : HA D H a (eO ci fs)) (hc : vwCl[ci]? = some (C, T, N)) (k : Nat) (hk : k < N) (hT : (T k).1 = C) (hlink : (Cond.fieldLink own index C (T k).2.1 (T k).2.2.1).before args s = true) {v : Value} (hv : fs[k]? = some v) (hdg : decode cc pc = .ok (.getfield index, 3))
    (kk : W p l e R s m args below meth c H locs cells slots Q (F0 m (pc + 3) ls (v :: rest))) : W p l e R s m args below meth c H locs cells slots Q (F0 m pc ls (.ref a :: rest)) :=
  va_get (ci := ci) hexec hb hts hin hown hK.1 ho.one 0 rfl hc k hk hlink (fun x h => by rw [hT] at h; exact h) hv hdg kk
theorem k_getN (hexec : p.tables.exec = Jvm.exec) (hb : c.code = cc) {own C : String} {T : u_T} {N ci index : Nat} {Ts : List Cond} (hts : ∀ w ∈ Ts, w.before args s = true) (hin : ∀ w ∈ u_ws C T N, w ∈ Ts) (hown : s.vm.findClass own = some m.cls) (hK : KK D g s) {fs : List Value} (ho : HA D H a (eO ci fs)) (hc : vwCl[ci]? = some (C, T, N)) (k : Nat) (hk : k < N) (hT : (T k).1 = C) (hlink : (own, index, C, (T k).2.1, (T k).2.2.1) ∈ nestF) {v : Value} (hv : fs[k]? = some v) (hdg : decode cc pc = .ok (.getfield index, 3))
    (kk : W p l e R s m args below meth c H locs cells slots Q (F0 m (pc + 3) ls (v :: rest))) : W p l e R s m args below meth c H locs cells slots Q (F0 m pc ls (.ref a :: rest)) :=
  va_getN (ci := ci) hexec hb hts hin hown hK.1 ho.one 0 rfl hc k hk (va_Nw.use rfl (hK.2.2.1 _ hlink)) (fun x h => by rw [hT] at h; exact h) hv hdg kk
theorem k_put (hexec : p.tables.exec = Jvm.exec) (hb : c.code = cc) {own C : String} {T : u_T} {N ci index : Nat} {Ts : List Cond} (hts : ∀ w ∈ Ts, w.before args s = true) (hin : ∀ w ∈ u_ws C T N, w ∈ Ts) (ty0 : Nat → FieldType) (hty : ∀ k, k < N → parseFieldDescriptor (T k).2.2.1 = some (ty0 k)) (hnm : ∀ a, a < N → ∀ b, b < N → a ≠ b → (T a).2.1 ≠ (T b).2.1) (hown : s.vm.findClass own = some m.cls) (hK : KK D g s) {fs : List Value} (ho : HA D H a (eO ci fs)) (hLB : LB b0 locs) (hab : b0 ≤ a) (hc : vwCl[ci]? = some (C, T, N)) (k : Nat) (hk : k < N) (hT : (T k).1 = C) (hlink : (Cond.fieldLink own index C (T k).2.1 (T k).2.2.1).before args s = true) (hfin : (T k).2.2.2 = false) {ty : FieldType} {v : Value} (hd : parseFieldDescriptor (T k).2.2.1 = some ty) (hn : narrow ty v = v) (hfit : fits ty v = true) (hl : k < fs.length)
    (hdg : decode cc pc = .ok (.putfield index, 3)) (kk : ∀ (H1 : Heap) (locs1 : List Loc), HA D H1 a (eO ci (fs.set k v)) → Chg H H1 a → LB b0 locs1 → W p l e R s m args below meth c H1 locs1 cells slots Q (F0 m (pc + 3) ls rest)) : W p l e R s m args below meth c H locs cells slots Q (F0 m pc ls (v :: .ref a :: rest)) := by
  have hap := va_apart (own := own) hts hin ty0 hty hnm hK.1 hc
  obtain ⟨r, h1, cell, q1, q2, q3, q4⟩ := ho
  have hr : r = (C, T, N) := Option.some.inj (h1.symm.trans hc)
  subst hr
  obtain ⟨hS, hfc, kC, hkC, hkind⟩ := hK.1.1 ci _ hc
  obtain ⟨cf, kf, fi, f, hi, hsl⟩ := hS k hk
  have hlay := hts _ (hin _ (u_in_lay hk))
  unfold u_lay at hlay
  rw [if_neg (by rw [hfin]; decide)] at hlay
  have hst := (u_facts hfc hkC (u_lays hts hin hk) hi).1
  have h6 := u_store hfc hkC hkind hlay hi hd hn hfit
  refine W.putK hexec hb (f := f) ⟨hown, hlink, ⟨_, _, _, by rw [hT] at hi; exact hi⟩, hst⟩ (by rw [q2]; exact h6) q1 q3 (by rw [hsl]; exact k2_hasslot (q4 k hk)) rfl rfl hdg fun H' e1 e2 e3 => ?_
  rw [hsl] at e1 ⊢
  exact kk H' _ ⟨_, hc, t_OB.to (V := updV (vp_V fs) k v) ⟨_, e1, q2, q3, t_set q4 hap hk v⟩ (fun j _ => vp_updV_set hl v j)⟩ (Chg.of e2 e3) (hLB.add hab)
theorem k_putN (hexec : p.tables.exec = Jvm.exec) (hb : c.code = cc) {own C : String} {T : u_T} {N ci index : Nat} {Ts : List Cond} (hts : ∀ w ∈ Ts, w.before args s = true) (hin : ∀ w ∈ u_ws C T N, w ∈ Ts) (ty0 : Nat → FieldType) (hty : ∀ k, k < N → parseFieldDescriptor (T k).2.2.1 = some (ty0 k)) (hnm : ∀ a, a < N → ∀ b, b < N → a ≠ b → (T a).2.1 ≠ (T b).2.1) (hown : s.vm.findClass own = some m.cls) (hK : KK D g s) {fs : List Value} (ho : HA D H a (eO ci fs)) (hLB : LB b0 locs) (hab : b0 ≤ a) (hc : vwCl[ci]? = some (C, T, N)) (k : Nat) (hk : k < N) (hT : (T k).1 = C) (hlink : (own, index, C, (T k).2.1, (T k).2.2.1) ∈ nestF) (hfin : (T k).2.2.2 = false) {ty : FieldType} {v : Value} (hd : parseFieldDescriptor (T k).2.2.1 = some ty) (hn : narrow ty v = v) (hfit : fits ty v = true) (hl : k < fs.length)
    (hdg : decode cc pc = .ok (.putfield index, 3)) (kk : ∀ (H1 : Heap) (locs1 : List Loc), HA D H1 a (eO ci (fs.set k v)) → Chg H H1 a → LB b0 locs1 → W p l e R s m args below meth c H1 locs1 cells slots Q (F0 m (pc + 3) ls rest)) : W p l e R s m args below meth c H locs cells slots Q (F0 m pc ls (v :: .ref a :: rest)) := by
  have hap := va_apart (own := own) hts hin ty0 hty hnm hK.1 hc
  obtain ⟨r, h1, cell, q1, q2, q3, q4⟩ := ho
  have hr : r = (C, T, N) := Option.some.inj (h1.symm.trans hc)
  subst hr
  obtain ⟨hS, hfc, kC, hkC, hkind⟩ := hK.1.1 ci _ hc
  obtain ⟨cf, kf, fi, f, hi, hsl⟩ := hS k hk
  have hlay := hts _ (hin _ (u_in_lay hk))
  unfold u_lay at hlay
  rw [if_neg (by rw [hfin]; decide)] at hlay
  have hst := (u_facts hfc hkC (u_lays hts hin hk) hi).1
  have h6 := u_store hfc hkC hkind hlay hi hd hn hfit
  refine va_WputK hexec hb (f := f) hown (va_Nw.use rfl (hK.2.2.1 _ hlink)) (by rw [hT] at hi; exact hi) hst (by rw [q2]; exact h6) q1 q3 (by rw [hsl]; exact k2_hasslot (q4 k hk)) rfl rfl hdg fun H' e1 e2 e3 => ?_
  rw [hsl] at e1 ⊢
  exact kk H' _ ⟨_, hc, t_OB.to (V := updV (vp_V fs) k v) ⟨_, e1, q2, q3, t_set q4 hap hk v⟩ (fun j _ => vp_updV_set hl v j)⟩ (Chg.of e2 e3) (hLB.add hab)
theorem k_putF (hexec : p.tables.exec = Jvm.exec) (hb : c.code = cc) {own : String} {T : u_T} {N ci index : Nat} {Ts : List Cond} (hts : ∀ w ∈ Ts, w.before args s = true) (hin : ∀ w ∈ u_ws own T N, w ∈ Ts) (ty0 : Nat → FieldType) (hty : ∀ k, k < N → parseFieldDescriptor (T k).2.2.1 = some (ty0 k)) (hnm : ∀ a, a < N → ∀ b, b < N → a ≠ b → (T a).2.1 ≠ (T b).2.1) (hown : s.vm.findClass own = some m.cls) (hin2 : meth.name = "<init>") (hK : KK D g s) {fs : List Value} (ho : HA D H a (eO ci fs)) (hLB : LB b0 locs) (hab : b0 ≤ a) (hc : vwCl[ci]? = some (own, T, N)) (k : Nat) (hk : k < N) (hT : (T k).1 = own) (hlink : (Cond.fieldLink own index own (T k).2.1 (T k).2.2.1).before args s = true) (hfin : (T k).2.2.2 = true) {ty : FieldType} {v : Value} (hd : parseFieldDescriptor (T k).2.2.1 = some ty) (hn : narrow ty v = v) (hfit : fits ty v = true) (hl : k < fs.length)
    (hdg : decode cc pc = .ok (.putfield index, 3)) (kk : ∀ (H1 : Heap) (locs1 : List Loc), HA D H1 a (eO ci (fs.set k v)) → Chg H H1 a → LB b0 locs1 → W p l e R s m args below meth c H1 locs1 cells slots Q (F0 m (pc + 3) ls rest)) : W p l e R s m args below meth c H locs cells slots Q (F0 m pc ls (v :: .ref a :: rest)) := by
  have hap := va_apart (own := own) hts hin ty0 hty hnm hK.1 hc
  obtain ⟨r, h1, cell, q1, q2, q3, q4⟩ := ho
  have hr : r = (own, T, N) := Option.some.inj (h1.symm.trans hc)
  subst hr
  obtain ⟨hS, hfc, kC, hkC, hkind⟩ := hK.1.1 ci _ hc
  obtain ⟨cf, kf, fi, f, hi, hsl⟩ := hS k hk
  have hlay := hts _ (hin _ (u_in_lay hk))
  unfold u_lay at hlay
  rw [if_pos hfin] at hlay
  have hst := (u_facts hfc hkC (u_lays hts hin hk) hi).1
  have hcf : m.cls = cf := by
    obtain ⟨_, _, c', _, _, _, -, -, hf', -, -, -, hown2, -⟩ := Cond.laysFinal_spec hlay
    have e1 : c' = cf := by have := hi.symm.trans hf'; simp at this; exact this.1.symm
    rw [hT] at hown2
    rw [← e1]; exact Option.some.inj (hown.symm.trans hown2)
  have h6 := u_fits hfc hkC hkind (Or.inr hlay) hi hd hn hfit
  refine W.putFinK hexec hb hown hlink (by rw [hT] at hi; exact hi) hst hcf hin2 (by rw [q2]; exact h6) q1 q3 (by rw [hsl]; exact k2_hasslot (q4 k hk)) rfl rfl hdg fun H' e1 e2 e3 => ?_
  rw [hsl] at e1 ⊢
  exact kk H' _ ⟨_, hc, t_OB.to (V := updV (vp_V fs) k v) ⟨_, e1, q2, q3, t_set q4 hap hk v⟩ (fun j _ => vp_updV_set hl v j)⟩ (Chg.of e2 e3) (hLB.add hab)
theorem k_iald (hexec : p.tables.exec = Jvm.exec) (hb : c.code = cc) (hK : KK D g s) {n : Nat} {f : Nat → Int32} (ho : HA D H a (eI (g 1) n f)) {i : Int32} (j : Nat) (hi : i = nI j) (hj : j < n) (hn : n < 2 ^ 31) (hdg : decode cc pc = .ok (.iaload, 1))
    (kk : W p l e R s m args below meth c H locs cells slots Q (F0 m (pc + 1) ls (.int (f j) :: rest))) : W p l e R s m args below meth c H locs cells slots Q (F0 m pc ls (.int i :: .ref a :: rest)) := by
  subst hi
  have hc : (nI j).toNatClampNeg = j := nI_clamp (Nat.lt_trans hj hn)
  exact va_iald (D := D) hexec hb hK.1 ho.one 0 1 rfl rfl (vp_in_nI hj hn) hdg (by rw [hc]; exact kk)
theorem k_bald (hexec : p.tables.exec = Jvm.exec) (hb : c.code = cc) (hK : KK D g s) {n : Nat} {f : Nat → Int32} (ho : HA D H a (eI (g 0) n f)) {i : Int32} (j : Nat) (hi : i = nI j) (hj : j < n) (hn : n < 2 ^ 31) (hdg : decode cc pc = .ok (.baload, 1))
    (kk : W p l e R s m args below meth c H locs cells slots Q (F0 m (pc + 1) ls (.int (f j) :: rest))) : W p l e R s m args below meth c H locs cells slots Q (F0 m pc ls (.int i :: .ref a :: rest)) := by
  subst hi
  have hc : (nI j).toNatClampNeg = j := nI_clamp (Nat.lt_trans hj hn)
  exact va_bald (D := D) hexec hb hK.1 ho.one 0 0 rfl rfl (vp_in_nI hj hn) hdg (by rw [hc]; exact kk)
theorem k_zald (hexec : p.tables.exec = Jvm.exec) (hb : c.code = cc) (hK : KK D g s) {n : Nat} {f : Nat → Int32} (ho : HA D H a (eI (g 3) n f)) {i : Int32} (j : Nat) (hi : i = nI j) (hj : j < n) (hn : n < 2 ^ 31) (hdg : decode cc pc = .ok (.baload, 1))
    (kk : W p l e R s m args below meth c H locs cells slots Q (F0 m (pc + 1) ls (.int (f j) :: rest))) : W p l e R s m args below meth c H locs cells slots Q (F0 m pc ls (.int i :: .ref a :: rest)) := by
  subst hi
  have hc : (nI j).toNatClampNeg = j := nI_clamp (Nat.lt_trans hj hn)
  exact va_zald (D := D) hexec hb hK.1 ho.one 0 3 rfl rfl (vp_in_nI hj hn) hdg (by rw [hc]; exact kk)
theorem k_lald (hexec : p.tables.exec = Jvm.exec) (hb : c.code = cc) (hK : KK D g s) {n : Nat} {f : Nat → Int64} (ho : HA D H a (eL (g 2) n f)) {i : Int32} (j : Nat) (hi : i = nI j) (hj : j < n) (hn : n < 2 ^ 31) (hdg : decode cc pc = .ok (.laload, 1))
    (kk : W p l e R s m args below meth c H locs cells slots Q (F0 m (pc + 1) ls (.long (f j) :: rest))) : W p l e R s m args below meth c H locs cells slots Q (F0 m pc ls (.int i :: .ref a :: rest)) := by
  subst hi
  have hc : (nI j).toNatClampNeg = j := nI_clamp (Nat.lt_trans hj hn)
  exact va_lald (D := D) hexec hb hK.1 ho.one 0 2 rfl rfl (vp_in_nI hj hn) hdg (by rw [hc]; exact kk)
theorem k_aald (hexec : p.tables.exec = Jvm.exec) (hb : c.code = cc) (hK : KK D g s) (t0 : Nat) {C : String} {n : Nat} {f : Nat → Option Nat} {cA : ClassId} (ht : (ty6 g)[t0]? = some (cA, .object C)) (ho : HA D H a (eQ cA n f)) {i : Int32} (j : Nat) (hi : i = nI j) (hj : j < n) (hn : n < 2 ^ 31) (hdg : decode cc pc = .ok (.aaload, 1))
    (kk : W p l e R s m args below meth c H locs cells slots Q (F0 m (pc + 1) ls (va_rf (f j) :: rest))) : W p l e R s m args below meth c H locs cells slots Q (F0 m pc ls (.int i :: .ref a :: rest)) := by
  subst hi
  have hc : (nI j).toNatClampNeg = j := nI_clamp (Nat.lt_trans hj hn)
  exact va_aldq (D := D) hexec hb hK.1 ho.one 0 t0 rfl ht (vp_in_nI hj hn) hdg (by rw [hc]; exact kk)
theorem k_iast (hexec : p.tables.exec = Jvm.exec) (hb : c.code = cc) (hK : KK D g s) {n : Nat} {f : Nat → Int32} (ho : HA D H a (eI (g 1) n f)) (hLB : LB b0 locs) (hab : b0 ≤ a) {i x : Int32} (j : Nat) (hi : i = nI j) (hj : j < n) (hn : n < 2 ^ 31) (hdg : decode cc pc = .ok (.iastore, 1))
    (kk : ∀ (H1 : Heap) (locs1 : List Loc), HA D H1 a (eI (g 1) n (upd f j x)) → Chg H H1 a → LB b0 locs1 → W p l e R s m args below meth c H1 locs1 cells slots Q (F0 m (pc + 1) ls rest)) : W p l e R s m args below meth c H locs cells slots Q (F0 m pc ls (.int x :: .int i :: .ref a :: rest)) := by
  subst hi
  have hc : (nI j).toNatClampNeg = j := nI_clamp (Nat.lt_trans hj hn)
  refine W.iast hexec hb ho ((hK.1.2 1 _ rfl).1 n (fun j => .int (f j))) (fun q => by cases q) (by show ¬ (_ ∨ (arrV _ _ _).slots.size ≤ _); rw [arrV_size]; exact vp_in_nI hj hn) rfl rfl hdg fun H1 e z oq => ?_
  refine kk H1 _ ?_ (Chg.of z oq) (hLB.add hab)
  show H1[a]? = some (vp_cell _ _)
  rw [e, hc, vp_cell_i, vp_cell_i, arrV_store]
  congr 2
  funext q
  by_cases hq : q = j
  · subst hq; simp [updV, upd]
  · simp [updV, upd, hq]
theorem k_bast (hexec : p.tables.exec = Jvm.exec) (hb : c.code = cc) (hK : KK D g s) {n : Nat} {f : Nat → Int32} (ho : HA D H a (eI (g 0) n f)) (hLB : LB b0 locs) (hab : b0 ≤ a) {i x y : Int32} (j : Nat) (hi : i = nI j) (hj : j < n) (hn : n < 2 ^ 31) (hxy : narrow .byte (.int x) = .int y) (hdg : decode cc pc = .ok (.bastore, 1))
    (kk : ∀ (H1 : Heap) (locs1 : List Loc), HA D H1 a (eI (g 0) n (upd f j y)) → Chg H H1 a → LB b0 locs1 → W p l e R s m args below meth c H1 locs1 cells slots Q (F0 m (pc + 1) ls rest)) : W p l e R s m args below meth c H locs cells slots Q (F0 m pc ls (.int x :: .int i :: .ref a :: rest)) := by
  subst hi
  have hc : (nI j).toNatClampNeg = j := nI_clamp (Nat.lt_trans hj hn)
  refine W.bast hexec hb ho ((hK.1.2 0 _ rfl).1 n (fun j => .int (f j))) (fun q => by cases q) (by show ¬ (_ ∨ (arrV _ _ _).slots.size ≤ _); rw [arrV_size]; exact vp_in_nI hj hn) rfl rfl hdg fun H1 e z oq => ?_
  refine kk H1 _ ?_ (Chg.of z oq) (hLB.add hab)
  show H1[a]? = some (vp_cell _ _)
  rw [e, hc, hxy, vp_cell_i, vp_cell_i, arrV_store]
  congr 2
  funext q
  by_cases hq : q = j
  · subst hq; simp [updV, upd]
  · simp [updV, upd, hq]
theorem k_zast (hexec : p.tables.exec = Jvm.exec) (hb : c.code = cc) (hK : KK D g s) {n : Nat} {f : Nat → Int32} (ho : HA D H a (eI (g 3) n f)) (hLB : LB b0 locs) (hab : b0 ≤ a) {i x y : Int32} (j : Nat) (hi : i = nI j) (hj : j < n) (hn : n < 2 ^ 31) (hxy : narrow .boolean (.int x) = .int y) (hdg : decode cc pc = .ok (.bastore, 1))
    (kk : ∀ (H1 : Heap) (locs1 : List Loc), HA D H1 a (eI (g 3) n (upd f j y)) → Chg H H1 a → LB b0 locs1 → W p l e R s m args below meth c H1 locs1 cells slots Q (F0 m (pc + 1) ls rest)) : W p l e R s m args below meth c H locs cells slots Q (F0 m pc ls (.int x :: .int i :: .ref a :: rest)) := by
  subst hi
  have hc : (nI j).toNatClampNeg = j := nI_clamp (Nat.lt_trans hj hn)
  refine W.zast hexec hb ho ((hK.1.2 3 _ rfl).1 n (fun j => .int (f j))) (fun q => by cases q) (by show ¬ (_ ∨ (arrV _ _ _).slots.size ≤ _); rw [arrV_size]; exact vp_in_nI hj hn) rfl rfl hdg fun H1 e z oq => ?_
  refine kk H1 _ ?_ (Chg.of z oq) (hLB.add hab)
  show H1[a]? = some (vp_cell _ _)
  rw [e, hc, hxy, vp_cell_i, vp_cell_i, arrV_store]
  congr 2
  funext q
  by_cases hq : q = j
  · subst hq; simp [updV, upd]
  · simp [updV, upd, hq]
theorem k_last (hexec : p.tables.exec = Jvm.exec) (hb : c.code = cc) (hK : KK D g s) {n : Nat} {f : Nat → Int64} (ho : HA D H a (eL (g 2) n f)) (hLB : LB b0 locs) (hab : b0 ≤ a) {i : Int32} {x : Int64} (j : Nat) (hi : i = nI j) (hj : j < n) (hn : n < 2 ^ 31) (hdg : decode cc pc = .ok (.lastore, 1))
    (kk : ∀ (H1 : Heap) (locs1 : List Loc), HA D H1 a (eL (g 2) n (vp_updL f j x)) → Chg H H1 a → LB b0 locs1 → W p l e R s m args below meth c H1 locs1 cells slots Q (F0 m (pc + 1) ls rest)) : W p l e R s m args below meth c H locs cells slots Q (F0 m pc ls (.long x :: .int i :: .ref a :: rest)) := by
  subst hi
  have hc : (nI j).toNatClampNeg = j := nI_clamp (Nat.lt_trans hj hn)
  refine W.last hexec hb ho ((hK.1.2 2 _ rfl).1 n (fun j => .long (f j))) (fun q => by cases q) (by show ¬ (_ ∨ (arrV _ _ _).slots.size ≤ _); rw [arrV_size]; exact vp_in_nI hj hn) rfl rfl hdg fun H1 e z oq => ?_
  refine kk H1 _ ?_ (Chg.of z oq) (hLB.add hab)
  show H1[a]? = some (vp_cell _ _)
  rw [e, hc, vp_cell_l, vp_cell_l, arrV_store]
  congr 2
  funext q
  by_cases hq : q = j
  · subst hq; simp [updV, vp_updL]
  · simp [updV, vp_updL, hq]
theorem k_aast (hexec : p.tables.exec = Jvm.exec) (hb : c.code = cc) (hK : KK D g s) (t0 : Nat) {r : vw_C} {n ci v : Nat} {f : Nat → Option Nat} {vs : List Value} {cA : ClassId} (ht : (ty6 g)[t0]? = some (cA, .object r.1)) (ho : HA D H a (eQ cA n f)) (hv : HA D H v (eO ci vs)) (hcr : vwCl[ci]? = some r) (hLB : LB b0 locs) (hab : b0 ≤ a) {i : Int32} (j : Nat) (hi : i = nI j) (hj : j < n) (hn : n < 2 ^ 31) (hdg : decode cc pc = .ok (.aastore, 1))
    (kk : ∀ (H1 : Heap) (locs1 : List Loc), HA D H1 a (eQ cA n (va_up f j (some v))) → Chg H H1 a → LB b0 locs1 → W p l e R s m args below meth c H1 locs1 cells slots Q (F0 m (pc + 1) ls rest)) : W p l e R s m args below meth c H locs cells slots Q (F0 m pc ls (.ref v :: .int i :: .ref a :: rest)) := by
  subst hi
  have hc : (nI j).toNatClampNeg = j := nI_clamp (Nat.lt_trans hj hn)
  have h0 : ¬ nI j < 0 := fun q => vp_in_nI hj hn (Or.inl q)
  obtain ⟨r', hr', cellV, g1, g2, g3, -⟩ := hv
  have hcls := (hK.1.1 ci r hcr).2
  obtain ⟨kA, comp, k1, k2, k3, -⟩ := (hK.1.2 t0 _ ht).2
  have hcomp : comp = D.1 ci := Option.some.inj (k3.symm.trans hcls.1)
  subst hcomp
  obtain ⟨kC, hkC, -⟩ := hcls.2
  refine W.aast hexec hb ho (fun q h => by cases h) (fun h => by cases h) k1 k2 rfl hkC ⟨h0, by show _ < (arrV _ _ _).slots.size; rw [arrV_size, hc]; exact hj⟩ g1 (fun q h => by rw [g3] at h; cases h) (by rw [g2]; exact hkC) (by rw [g2]; exact va_assign hcls) rfl rfl hdg fun H1 e z oq => ?_
  refine kk H1 _ ?_ (Chg.of z oq) (hLB.add hab)
  show H1[a]? = some (vp_cell _ _)
  rw [e, hc, vp_cell_q, vp_cell_q, arrV_store]
  congr 2
  funext q
  by_cases hq : q = j
  · subst hq; simp [updV, va_up, va_rf]
  · simp [updV, va_up, hq]
theorem k_new (hexec : p.tables.exec = Jvm.exec) (hb : c.code = cc) {own C : String} {T : u_T} {N ci index : Nat} {Ts : List Cond} (hts : ∀ w ∈ Ts, w.before args s = true) (hin : ∀ w ∈ u_ws C T N, w ∈ Ts) (ty : Nat → FieldType) (hty : ∀ k, k < N → parseFieldDescriptor (T k).2.2.1 = some (ty k)) (hown : s.vm.findClass own = some m.cls) (hcl : (Cond.classLink own index C).before args s = true) (hinst : (Cond.instantiable C N).before args s = true) (hini : (Cond.initialized C).before args s = true)
    (hK : KK D g s) (hc : vwCl[ci]? = some (C, T, N)) {fs : List Value} (hfs : ∀ j, j < N → defaultValue (ty j) = vp_V fs j) (hcells : cells + 1 ≤ R.cells) (hslots : slots + N ≤ R.slots) (hdg : decode cc pc = .ok (.new index, 3))
    (kk : ∀ (q : Nat) (H1 : Heap), HA D H1 q (eO ci fs) → Add H H1 q → W p l e R s m args below meth c H1 locs (cells + 1) (slots + N) Q (F0 m (pc + 3) ls (.ref q :: rest))) : W p l e R s m args below meth c H locs cells slots Q (F0 m pc ls rest) := by
  have hKn := hK.1.1 ci _ hc
  refine W.newcK hexec hb hown hcl hinst hini rfl hdg hcells hslots hKn.2.1 rfl fun H1 kC hkC e1 z1 o1 => ?_
  exact kk H.size H1 ⟨_, hc, (u_born ty hts hin hKn hkC e1 hty).to hfs⟩ ⟨rfl, z1, o1⟩
theorem k_newa (hexec : p.tables.exec = Jvm.exec) (hb : c.code = cc) {atype : ArrayType} (harr : (Cond.arrayClass (newarray.typeOf atype)).before args s = true) (hK : KK D g s) (t0 : Nat) {ty : FieldType} {cA : ClassId} (ht : (ty6 g)[t0]? = some (cA, ty)) (hty : newarray.typeOf atype = ty) (hpr : va_RA s cA ty = (s.vm.findClass ("[" ++ ty.toString) = some cA))
    {n : Int32} {N' : Nat} (a0 : vp_A) (ha : ∀ cA : ClassId, vp_cell cA a0 = arrV cA N' (fun _ => defaultValue ty)) (hn : ¬ n < 0) (hN : n.toNatClampNeg = N') (hbytes : N' * componentBytes ty ≤ 536870912) (hcells : cells + 1 ≤ R.cells) (hslots : slots + N' ≤ R.slots) (hdg : decode cc pc = .ok (.newarray atype, 2))
    (kk : ∀ (q : Nat) (H1 : Heap), HA D H1 q (.inl (cA, a0)) → Add H H1 q → W p l e R s m args below meth c H1 locs (cells + 1) (slots + N') Q (F0 m (pc + 2) ls (.ref q :: rest))) : W p l e R s m args below meth c H locs cells slots Q (F0 m pc ls (.int n :: rest)) := by
  subst hty
  refine va_newaK hexec hb harr rfl hdg rfl hn hN hbytes hcells hslots rfl fun H1 cA' e1 z1 o1 hAr hNm => ?_
  have h2 := (hK.1.2 t0 _ ht).2
  rw [hpr] at h2
  have hcA : cA' = cA := Option.some.inj (hNm.symm.trans h2)
  subst hcA
  refine kk H.size H1 ?_ ⟨rfl, z1, o1⟩
  show H1[H.size]? = some (vp_cell _ _)
  rw [ha]
  exact e1
theorem k_newq (hexec : p.tables.exec = Jvm.exec) (hb : c.code = cc) {own C : String} {index : Nat} (hown : s.vm.findClass own = some m.cls) (hclink : (Cond.classLink own index C).before args s = true) (hover : va_AO C s) (hK : KK D g s) (t0 : Nat) {cA : ClassId} (ht : (ty6 g)[t0]? = some (cA, .object C))
    {n : Int32} {N' : Nat} (hn : ¬ n < 0) (hN : n.toNatClampNeg = N') (hbytes : N' * 4 ≤ 536870912) (hcells : cells + 1 ≤ R.cells) (hslots : slots + N' ≤ R.slots) (hdg : decode cc pc = .ok (.anewarray index, 3))
    (kk : ∀ (q : Nat) (H1 : Heap), HA D H1 q (eQ cA N' (fun _ => none)) → Add H H1 q → W p l e R s m args below meth c H1 locs (cells + 1) (slots + N') Q (F0 m (pc + 3) ls (.ref q :: rest))) : W p l e R s m args below meth c H locs cells slots Q (F0 m pc ls (.int n :: rest)) := by
  subst hN
  refine W.anew hexec hb hown hclink (va_AO.use hover) rfl hdg rfl hn hbytes hcells hslots fun cA' kA comp f1 f2 f3 f4 => ?_
  obtain ⟨-, -, -, -, -, h2⟩ := (hK.1.2 t0 _ ht).2
  have hcA : cA' = cA := Option.some.inj (f1.symm.trans h2)
  subst hcA
  generalize hH1 : H.push ({ cls := cA', slots := Array.replicate n.toNatClampNeg .null, vm := .none } : Cell) = H1
  have z1 : H1.size = H.size + 1 := by rw [← hH1, Array.size_push]
  have e1 : H1[H.size]? = some (arrV cA' n.toNatClampNeg (fun _ => .null)) := by rw [← hH1, Array.getElem?_push_size, ← arrV_new]
  have o1 : ∀ q : Nat, q < H.size → H1[q]? = H[q]? := fun q hq => by rw [← hH1, Array.getElem?_push, if_neg (Nat.ne_of_lt hq)]
  refine kk H.size H1 ?_ ⟨rfl, z1, o1⟩
  show H1[H.size]? = some (vp_cell _ _)
  rw [vp_cell_q]
  exact e1
end KROWS
end
section
/-! 03: numbers, booleans as ints; branch rows in these words; ends of methods -/
def b2i (b : Bool) : Int32 := if b then 1 else 0
theorem b2i_t : b2i true = 1 := rfl
theorem b2i_f : b2i false = 0 := rfl
theorem b2i_0 {b : Bool} : b2i b = 0 ↔ b = false := by cases b <;> decide
theorem b2i_1 {b : Bool} : b2i b = 1 ↔ b = true := by cases b <;> decide
theorem b2i_eq {a b : Bool} : b2i a = b2i b ↔ a = b := by cases a <;> cases b <;> decide
theorem b2i_b (b : Bool) : (b2i b).toInt8.toInt32 = b2i b := by cases b <;> decide +kernel
theorem b2i_z (b : Bool) : narrow .boolean (.int (b2i b)) = .int (b2i b) := by cases b <;> rfl
theorem b2i_y (b : Bool) : narrow .byte (.int (b2i b)) = .int (b2i b) := by cases b <;> rfl
theorem nI_b1 : nI 1 = b2i true := by decide +kernel
theorem nI_b0 : nI 0 = b2i false := by decide +kernel
theorem nI_neg {n : Nat} (h : n < 2 ^ 31) : ¬ nI n = -1 := by
  intro e
  have h1 := congrArg Int32.toInt e
  rw [nI_toInt h] at h1
  have h2 : (-1 : Int32).toInt = -1 := by decide
  omega
section NROWS
variable {p : Program} {l : Launch} {e : Env} {R : Room} {s : State} {m : MethodId} {args : Array Value} {below : List Frame} {meth : Method} {c : Code} {H : Heap} {locs : List Loc} {cells slots : Nat} {Q : State → Prop}
variable {cc : ByteArray} {pc : Nat} {ls : Array Slot} {rest : List Value}
theorem n_icmp_ge (hexec : p.tables.exec = Jvm.exec) (hb : c.code = cc) {a b : Nat} {off : Int} {tgt : Nat} (hdg : decode cc pc = .ok (.if_icmp .ge off, 3)) (ht : (pc : Int) + off = (tgt : Int)) (ha : a < 2 ^ 31) (hb2 : b < 2 ^ 31)
    (kt : b ≤ a → W p l e R s m args below meth c H locs cells slots Q (F0 m tgt ls rest)) (kf : a < b → W p l e R s m args below meth c H locs cells slots Q (F0 m (pc + 3) ls rest)) : W p l e R s m args below meth c H locs cells slots Q (F0 m pc ls (.int (nI b) :: .int (nI a) :: rest)) :=
  lv_icmp_ge hexec hb hdg ht (fun h => kt ((nI_leI hb2 ha).mp h)) (fun h => kf (Nat.not_le.mp (fun q => h ((nI_leI hb2 ha).mpr q))))
theorem n_icmp_lt (hexec : p.tables.exec = Jvm.exec) (hb : c.code = cc) {a b : Nat} {off : Int} {tgt : Nat} (hdg : decode cc pc = .ok (.if_icmp .lt off, 3)) (ht : (pc : Int) + off = (tgt : Int)) (ha : a < 2 ^ 31) (hb2 : b < 2 ^ 31)
    (kt : a < b → W p l e R s m args below meth c H locs cells slots Q (F0 m tgt ls rest)) (kf : b ≤ a → W p l e R s m args below meth c H locs cells slots Q (F0 m (pc + 3) ls rest)) : W p l e R s m args below meth c H locs cells slots Q (F0 m pc ls (.int (nI b) :: .int (nI a) :: rest)) :=
  lv_icmp_lt hexec hb hdg ht (fun h => kt ((nI_ltI ha hb2).mp h)) (fun h => kf (Nat.not_lt.mp (fun q => h ((nI_ltI ha hb2).mpr q))))
theorem n_icmp_eq (hexec : p.tables.exec = Jvm.exec) (hb : c.code = cc) {a b : Nat} {off : Int} {tgt : Nat} (hdg : decode cc pc = .ok (.if_icmp .eq off, 3)) (ht : (pc : Int) + off = (tgt : Int)) (ha : a < 2 ^ 31) (hb2 : b < 2 ^ 31)
    (kt : a = b → W p l e R s m args below meth c H locs cells slots Q (F0 m tgt ls rest)) (kf : ¬ a = b → W p l e R s m args below meth c H locs cells slots Q (F0 m (pc + 3) ls rest)) : W p l e R s m args below meth c H locs cells slots Q (F0 m pc ls (.int (nI b) :: .int (nI a) :: rest)) :=
  lv_icmp_eq hexec hb hdg ht (fun h => kt ((nI_eq ha hb2).mp h)) (fun h => kf (fun q => h ((nI_eq ha hb2).mpr q)))
theorem n_icmp_ne (hexec : p.tables.exec = Jvm.exec) (hb : c.code = cc) {a b : Nat} {off : Int} {tgt : Nat} (hdg : decode cc pc = .ok (.if_icmp .ne off, 3)) (ht : (pc : Int) + off = (tgt : Int)) (ha : a < 2 ^ 31) (hb2 : b < 2 ^ 31)
    (kt : ¬ a = b → W p l e R s m args below meth c H locs cells slots Q (F0 m tgt ls rest)) (kf : a = b → W p l e R s m args below meth c H locs cells slots Q (F0 m (pc + 3) ls rest)) : W p l e R s m args below meth c H locs cells slots Q (F0 m pc ls (.int (nI b) :: .int (nI a) :: rest)) :=
  lv_icmp_ne hexec hb hdg ht (fun h => kt (fun q => h ((nI_eq ha hb2).mpr q))) (fun h => kf (Decidable.byContradiction fun z => z ((nI_eq ha hb2).mp h)))
theorem z_icmp_eq (hexec : p.tables.exec = Jvm.exec) (hb : c.code = cc) {a b : Bool} {off : Int} {tgt : Nat} (hdg : decode cc pc = .ok (.if_icmp .eq off, 3)) (ht : (pc : Int) + off = (tgt : Int))
    (kt : a = b → W p l e R s m args below meth c H locs cells slots Q (F0 m tgt ls rest)) (kf : ¬ a = b → W p l e R s m args below meth c H locs cells slots Q (F0 m (pc + 3) ls rest)) : W p l e R s m args below meth c H locs cells slots Q (F0 m pc ls (.int (b2i b) :: .int (b2i a) :: rest)) :=
  lv_icmp_eq hexec hb hdg ht (fun h => kt (b2i_eq.mp h)) (fun h => kf (fun q => h (b2i_eq.mpr q)))
theorem z_icmp_ne (hexec : p.tables.exec = Jvm.exec) (hb : c.code = cc) {a b : Bool} {off : Int} {tgt : Nat} (hdg : decode cc pc = .ok (.if_icmp .ne off, 3)) (ht : (pc : Int) + off = (tgt : Int))
    (kt : ¬ a = b → W p l e R s m args below meth c H locs cells slots Q (F0 m tgt ls rest)) (kf : a = b → W p l e R s m args below meth c H locs cells slots Q (F0 m (pc + 3) ls rest)) : W p l e R s m args below meth c H locs cells slots Q (F0 m pc ls (.int (b2i b) :: .int (b2i a) :: rest)) :=
  lv_icmp_ne hexec hb hdg ht (fun h => kt (fun q => h (b2i_eq.mpr q))) (fun h => kf (Decidable.byContradiction fun z => z (b2i_eq.mp h)))
theorem z_if_eq (hexec : p.tables.exec = Jvm.exec) (hb : c.code = cc) {a : Bool} {off : Int} {tgt : Nat} (hdg : decode cc pc = .ok (.ifCond .eq off, 3)) (ht : (pc : Int) + off = (tgt : Int))
    (kt : a = false → W p l e R s m args below meth c H locs cells slots Q (F0 m tgt ls rest)) (kf : a = true → W p l e R s m args below meth c H locs cells slots Q (F0 m (pc + 3) ls rest)) : W p l e R s m args below meth c H locs cells slots Q (F0 m pc ls (.int (b2i a) :: rest)) :=
  lv_if_eq hexec hb hdg ht (fun h => kt (b2i_0.mp h)) (fun h => kf (by cases a; exact absurd rfl h; rfl))
theorem z_if_ne (hexec : p.tables.exec = Jvm.exec) (hb : c.code = cc) {a : Bool} {off : Int} {tgt : Nat} (hdg : decode cc pc = .ok (.ifCond .ne off, 3)) (ht : (pc : Int) + off = (tgt : Int))
    (kt : a = true → W p l e R s m args below meth c H locs cells slots Q (F0 m tgt ls rest)) (kf : a = false → W p l e R s m args below meth c H locs cells slots Q (F0 m (pc + 3) ls rest)) : W p l e R s m args below meth c H locs cells slots Q (F0 m pc ls (.int (b2i a) :: rest)) :=
  lv_if_ne hexec hb hdg ht (fun h => kt (by cases a; exact absurd rfl h; rfl)) (fun h => kf (b2i_0.mp h))
theorem n_if_lt (hexec : p.tables.exec = Jvm.exec) (hb : c.code = cc) {a : Nat} {off : Int} {tgt : Nat} (hdg : decode cc pc = .ok (.ifCond .lt off, 3)) (ht : (pc : Int) + off = (tgt : Int)) (ha : a < 2 ^ 31)
    (kf : W p l e R s m args below meth c H locs cells slots Q (F0 m (pc + 3) ls rest)) : W p l e R s m args below meth c H locs cells slots Q (F0 m pc ls (.int (nI a) :: rest)) :=
  lv_if_lt hexec hb hdg ht (fun h => absurd h (nI_pos ha)) (fun _ => kf)
theorem n_if_ge (hexec : p.tables.exec = Jvm.exec) (hb : c.code = cc) {a : Nat} {off : Int} {tgt : Nat} (hdg : decode cc pc = .ok (.ifCond .ge off, 3)) (ht : (pc : Int) + off = (tgt : Int)) (ha : a < 2 ^ 31)
    (kt : W p l e R s m args below meth c H locs cells slots Q (F0 m tgt ls rest)) : W p l e R s m args below meth c H locs cells slots Q (F0 m pc ls (.int (nI a) :: rest)) :=
  lv_if_ge hexec hb hdg ht (fun _ => kt) (fun h => absurd (nI_pos' ha) h)
theorem n_if_eq (hexec : p.tables.exec = Jvm.exec) (hb : c.code = cc) {a : Nat} {off : Int} {tgt : Nat} (hdg : decode cc pc = .ok (.ifCond .eq off, 3)) (ht : (pc : Int) + off = (tgt : Int)) (ha : a < 2 ^ 31)
    (kt : a = 0 → W p l e R s m args below meth c H locs cells slots Q (F0 m tgt ls rest)) (kf : ¬ a = 0 → W p l e R s m args below meth c H locs cells slots Q (F0 m (pc + 3) ls rest)) : W p l e R s m args below meth c H locs cells slots Q (F0 m pc ls (.int (nI a) :: rest)) :=
  lv_if_eq hexec hb hdg ht (fun h => kt ((nI_eq ha (by omega)).mp (h.trans nI_0.symm))) (fun h => kf (fun q => h (by rw [q]; exact nI_0)))
theorem n_if_ne (hexec : p.tables.exec = Jvm.exec) (hb : c.code = cc) {a : Nat} {off : Int} {tgt : Nat} (hdg : decode cc pc = .ok (.ifCond .ne off, 3)) (ht : (pc : Int) + off = (tgt : Int)) (ha : a < 2 ^ 31)
    (kt : ¬ a = 0 → W p l e R s m args below meth c H locs cells slots Q (F0 m tgt ls rest)) (kf : a = 0 → W p l e R s m args below meth c H locs cells slots Q (F0 m (pc + 3) ls rest)) : W p l e R s m args below meth c H locs cells slots Q (F0 m pc ls (.int (nI a) :: rest)) :=
  lv_if_ne hexec hb hdg ht (fun h => kt (fun q => h (by rw [q]; exact nI_0))) (fun h => kf ((nI_eq ha (by omega)).mp (h.trans nI_0.symm)))
-- ends
theorem r_iX {v : Int32} {X : Value} (hexec : p.tables.exec = Jvm.exec) (hb : c.code = cc) (hr : meth.sig.returnType = some .int) (hX : Value.int v = X) (hdg : decode cc pc = .ok (.ireturn, 1)) (hlocks : meth.locks = false) : W p l e R s m args below meth c H [] 0 0 (MQ below (kX X H) args s 0 0 kN) (F0 m pc ls [.int v]) :=
  W.iret hexec hb hr (fun t ht _ => ⟨by rw [hX], ht⟩) (fun _ h => by cases h) hdg
theorem r_zX {b : Bool} {X : Value} (hexec : p.tables.exec = Jvm.exec) (hb : c.code = cc) (hr : meth.sig.returnType = some .boolean) (hX : Value.int (b2i b) = X) (hdg : decode cc pc = .ok (.ireturn, 1)) (hlocks : meth.locks = false) : W p l e R s m args below meth c H [] 0 0 (MQ below (kX X H) args s 0 0 kN) (F0 m pc ls [.int (b2i b)]) :=
  W.zret hexec hb hr (b2i_z b) (fun t ht _ => ⟨by rw [hX], ht⟩) (fun _ h => by cases h) hdg
theorem r_aX {v : Value} {n : String} (hexec : p.tables.exec = Jvm.exec) (hb : c.code = cc) (hr : meth.sig.returnType = some (.object n)) (hv : v = .null ∨ ∃ a, v = .ref a) (hdg : decode cc pc = .ok (.areturn, 1)) (hlocks : meth.locks = false) : W p l e R s m args below meth c H [] 0 0 (MQ below (kX v H) args s 0 0 kN) (F0 m pc ls [v]) :=
  W.aret hexec hb hr (Or.inl ⟨n, rfl⟩) hv (fun t ht _ => ⟨rfl, ht⟩) (fun _ h => by cases h) hdg
theorem r_iS {v : Int32} {P : Int32 → Prop} (hexec : p.tables.exec = Jvm.exec) (hb : c.code = cc) (hr : meth.sig.returnType = some .int) (hP : P v) (hdg : decode cc pc = .ok (.ireturn, 1)) (hlocks : meth.locks = false) : W p l e R s m args below meth c H [] 0 0 (MQ below (kS P H) args s 0 0 kN) (F0 m pc ls [.int v]) :=
  W.iret hexec hb hr (fun t ht _ => ⟨v, rfl, hP, ht⟩) (fun _ h => by cases h) hdg
theorem r_zS {b : Bool} {P : Int32 → Prop} (hexec : p.tables.exec = Jvm.exec) (hb : c.code = cc) (hr : meth.sig.returnType = some .boolean) (hP : P (b2i b)) (hdg : decode cc pc = .ok (.ireturn, 1)) (hlocks : meth.locks = false) : W p l e R s m args below meth c H [] 0 0 (MQ below (kS P H) args s 0 0 kN) (F0 m pc ls [.int (b2i b)]) :=
  W.zret hexec hb hr (b2i_z b) (fun t ht _ => ⟨_, rfl, hP, ht⟩) (fun _ h => by cases h) hdg
theorem r_iI {b0 mc ms : Nat} {v : Int32} {P : Int32 → Heap → Prop} (hexec : p.tables.exec = Jvm.exec) (hb : c.code = cc) (hr : meth.sig.returnType = some .int) (hLB : LB b0 locs) (h1 : cells ≤ mc) (h2 : slots ≤ ms) (hP : P v H) (hdg : decode cc pc = .ok (.ireturn, 1)) (hlocks : meth.locks = false) : W p l e R s m args below meth c H locs cells slots (MQ below (kI P) args s mc ms (kF b0)) (F0 m pc ls [.int v]) :=
  W.widen h1 h2 (W.iret hexec hb hr (fun t ht _ => ⟨v, rfl, by rw [ht]; exact hP⟩) hLB hdg)
theorem r_zI {b0 mc ms : Nat} {b : Bool} {P : Int32 → Heap → Prop} (hexec : p.tables.exec = Jvm.exec) (hb : c.code = cc) (hr : meth.sig.returnType = some .boolean) (hLB : LB b0 locs) (h1 : cells ≤ mc) (h2 : slots ≤ ms) (hP : P (b2i b) H) (hdg : decode cc pc = .ok (.ireturn, 1)) (hlocks : meth.locks = false) : W p l e R s m args below meth c H locs cells slots (MQ below (kI P) args s mc ms (kF b0)) (F0 m pc ls [.int (b2i b)]) :=
  W.widen h1 h2 (W.zret hexec hb hr (b2i_z b) (fun t ht _ => ⟨_, rfl, by rw [ht]; exact hP⟩) hLB hdg)
theorem r_vU {b0 mc ms : Nat} {P : Heap → Prop} (hexec : p.tables.exec = Jvm.exec) (hb : c.code = cc) (hr : meth.sig.returnType = none) (hLB : LB b0 locs) (h1 : cells ≤ mc) (h2 : slots ≤ ms) (hP : P H) (hdg : decode cc pc = .ok (.return_, 1)) (hlocks : meth.locks = false) : W p l e R s m args below meth c H locs cells slots (MQ below (kU P) args s mc ms (kF b0)) (F0 m pc ls []) :=
  W.widen h1 h2 (W.vret hexec hb hr (fun t ht _ => ⟨rfl, by rw [ht]; exact hP⟩) hLB hdg)
theorem r_aR {b0 mc ms : Nat} {a : Nat} {n : String} {P : Nat → Heap → Prop} (hexec : p.tables.exec = Jvm.exec) (hb : c.code = cc) (hr : meth.sig.returnType = some (.object n)) (hLB : LB b0 locs) (h1 : cells ≤ mc) (h2 : slots ≤ ms) (hP : P a H) (hdg : decode cc pc = .ok (.areturn, 1)) (hlocks : meth.locks = false) : W p l e R s m args below meth c H locs cells slots (MQ below (kR P) args s mc ms (kF b0)) (F0 m pc ls [.ref a]) :=
  W.widen h1 h2 (W.aret hexec hb hr (Or.inl ⟨n, rfl⟩) (Or.inr ⟨a, rfl⟩) (fun t ht _ => ⟨a, rfl, by rw [ht]; exact hP⟩) hLB hdg)
end NROWS
-- bits of a set held in words
def bt (f : Nat → Int64) (t : Nat) : Bool := (f (t / 64)).toBitVec.getLsbD (t % 64)
def isTb (t : Int32) : Bool := decide (0 ≤ t) && decide (t < 4096)
/-! ===== Int64 as a set of bits: test, set, clear ===== -/
theorem ts_nf {x : Bool} (h : ¬ x = false) : x = true := by cases x <;> first | rfl | exact absurd rfl h
theorem ts_nt {x : Bool} (h : ¬ x = true) : x = false := by cases x <;> first | rfl | exact absurd rfl h
theorem ts_bit {w : Int64} {s : UInt64} {j : Nat} (hj : j < 64) (hs : s.toNat = j) : ((w.toUInt64 >>> s).toInt64 &&& 1) = 0 ↔ w.toBitVec.getLsbD j = false := by
  have e : (w.toUInt64 >>> s).toInt64.toBitVec = w.toBitVec >>> j := by
    apply BitVec.eq_of_toNat_eq
    show (w.toUInt64 >>> s).toNat = _
    rw [UInt64.toNat_shiftRight, hs, Nat.mod_eq_of_lt hj, BitVec.toNat_ushiftRight]
    rfl
  rw [← Int64.toBitVec_inj, Int64.toBitVec_and, e]
  show w.toBitVec >>> j &&& 1#64 = 0#64 ↔ _
  constructor
  · intro h
    have t := congrArg (fun x => x.getLsbD 0) h
    simpa using t
  · intro h
    apply BitVec.eq_of_getLsbD_eq
    intro i hi
    cases i with
    | zero => simp [h]
    | succ i => simp
theorem ts_or {w m : Int64} {j : Nat} (hj : j < 64) (hm : m.toBitVec = BitVec.twoPow 64 j) : (w ||| m) = w ↔ w.toBitVec.getLsbD j = true := by
  rw [← Int64.toBitVec_inj, Int64.toBitVec_or, hm]
  constructor
  · intro h
    have t := congrArg (fun x => x.getLsbD j) h
    simp only [BitVec.getLsbD_or, BitVec.getLsbD_twoPow] at t
    simpa [hj] using t.symm
  · intro h
    apply BitVec.eq_of_getLsbD_eq
    intro i hi
    rw [BitVec.getLsbD_or, BitVec.getLsbD_twoPow]
    by_cases e : j = i
    · subst e; rw [h, Bool.true_or]
    · simp [e]
theorem ts_and {w m : Int64} {j : Nat} (hj : j < 64) (hm : m.toBitVec = BitVec.twoPow 64 j) : (w &&& (m ^^^ (-1))) = w ↔ w.toBitVec.getLsbD j = false := by
  have ha : (-1 : Int64).toBitVec = BitVec.allOnes 64 := by decide
  rw [← Int64.toBitVec_inj, Int64.toBitVec_and, Int64.toBitVec_xor, hm, ha]
  constructor
  · intro h
    have t := congrArg (fun x => x.getLsbD j) h
    simp only [BitVec.getLsbD_and, BitVec.getLsbD_xor, BitVec.getLsbD_twoPow, BitVec.getLsbD_allOnes] at t
    simpa [hj] using t.symm
  · intro h
    apply BitVec.eq_of_getLsbD_eq
    intro i hi
    rw [BitVec.getLsbD_and, BitVec.getLsbD_xor, BitVec.getLsbD_twoPow, BitVec.getLsbD_allOnes]
    by_cases e : j = i
    · subst e; rw [h, Bool.false_and]
    · simp [e, hi]
/-! ===== lN n to 2^64: shifts, and, or, masks, one bit ===== -/
theorem wb_tb (n : Nat) : (lN n).toBitVec = BitVec.ofNat 64 n := rfl
theorem wb_inj {a b : Int64} (h : a.toBitVec = b.toBitVec) : a = b := Int64.toBitVec_inj.mp h
theorem wb_tn {n : Nat} (h : n < 2 ^ 64) : (lN n).toBitVec.toNat = n := by rw [wb_tb, BitVec.toNat_ofNat, Nat.mod_eq_of_lt h]
theorem wb_of (x : Int64) : ∃ n, n < 2 ^ 64 ∧ x = lN n := ⟨x.toBitVec.toNat, x.toBitVec.isLt, wb_inj (by rw [wb_tb]; simp)⟩
theorem wb_of32 (x : Int32) : ∃ n, n < 2 ^ 32 ∧ x = nI n := ⟨x.toBitVec.toNat, x.toBitVec.isLt, Int32.toBitVec_inj.mp (by show _ = BitVec.ofNat 32 _; simp)⟩
theorem wb_c : ∀ k, k < 64 → ((nI k).toInt64 &&& 63) = lN k := by decide +kernel
theorem wb_cu : ∀ k, k < 64 → ((nI k).toInt64.toUInt64 &&& Int64.toUInt64 63) = UInt64.ofNat k := by decide +kernel
theorem wb_sm : ∀ k, k < 64 → (BitVec.ofNat 64 k).smod 64 = BitVec.ofNat 64 k := by decide +kernel
theorem wb_pw {a b : Nat} (h : a ≤ b) : 2 ^ b = 2 ^ a * 2 ^ (b - a) := by rw [← Nat.pow_add]; congr 1; omega
theorem wb_lt2 {a b : Nat} (h : a < b) : 2 ^ a < 2 ^ b := Nat.pow_lt_pow_right (by decide) h
theorem wb_mod (n : Nat) : lN n = lN (n % 2 ^ 64) := wb_inj (by rw [wb_tb, wb_tb]; apply BitVec.eq_of_toNat_eq; rw [BitVec.toNat_ofNat, BitVec.toNat_ofNat, Nat.mod_mod])
theorem wb_shl (n : Nat) {k : Nat} (hk : k < 64) : lN n <<< ((nI k).toInt64 &&& 63) = lN (n * 2 ^ k) := by
  rw [wb_c k hk]
  apply wb_inj
  rw [Int64.toBitVec_shiftLeft, wb_tb, wb_tb, wb_tb, wb_sm k hk]
  apply BitVec.eq_of_toNat_eq
  rw [BitVec.shiftLeft_eq', BitVec.toNat_shiftLeft, BitVec.toNat_ofNat, BitVec.toNat_ofNat, BitVec.toNat_ofNat, Nat.mod_eq_of_lt (show k < 2 ^ 64 by omega), Nat.shiftLeft_eq, Nat.mul_mod, Nat.mod_mod, ← Nat.mul_mod]
/-! bits of words -/
theorem w_bit (x : Int64) {k : Nat} (hk : k < 64) : lg_cmp ((x.toUInt64 >>> ((nI k).toInt64.toUInt64 &&& Int64.toUInt64 63)).toInt64 &&& 1) 0 = 0 ↔ x.toBitVec.getLsbD k = false := by
  rw [lg_cmp_eq, wb_cu k hk]
  exact ts_bit hk (Nat.mod_eq_of_lt (by omega))
theorem w_one {k : Nat} (hk : k < 64) : ((1 : Int64) <<< ((nI k).toInt64 &&& 63)).toBitVec = BitVec.twoPow 64 k := by
  have h := wb_shl 1 hk
  rw [show lN 1 = (1 : Int64) from rfl] at h
  rw [h, wb_tb, Nat.one_mul]
  apply BitVec.eq_of_toNat_eq
  rw [BitVec.toNat_ofNat, BitVec.toNat_twoPow]
theorem w_or (x y : Int64) (j : Nat) : (x ||| y).toBitVec.getLsbD j = (x.toBitVec.getLsbD j || y.toBitVec.getLsbD j) := by rw [Int64.toBitVec_or, BitVec.getLsbD_or]
theorem w_and (x y : Int64) (j : Nat) : (x &&& y).toBitVec.getLsbD j = (x.toBitVec.getLsbD j && y.toBitVec.getLsbD j) := by rw [Int64.toBitVec_and, BitVec.getLsbD_and]
theorem w_xor (x y : Int64) (j : Nat) : (x ^^^ y).toBitVec.getLsbD j = (x.toBitVec.getLsbD j ^^ y.toBitVec.getLsbD j) := by rw [Int64.toBitVec_xor, BitVec.getLsbD_xor]
theorem w_not (x : Int64) {j : Nat} (hj : j < 64) : (x ^^^ (-1)).toBitVec.getLsbD j = !(x.toBitVec.getLsbD j) := by
  have ha : (-1 : Int64).toBitVec = BitVec.allOnes 64 := by decide
  rw [w_xor, ha, BitVec.getLsbD_allOnes]
  simp [hj]
theorem w_ext {x y : Int64} (h : ∀ j, j < 64 → x.toBitVec.getLsbD j = y.toBitVec.getLsbD j) : x = y := wb_inj (BitVec.eq_of_getLsbD_eq (fun i hi => h i hi))
theorem w_0 (j : Nat) : (0 : Int64).toBitVec.getLsbD j = false := by
  show (0#64).getLsbD j = false
  simp
theorem bt_get (f : Nat → Int64) {w j : Nat} (hj : j < 64) : bt f (64 * w + j) = (f w).toBitVec.getLsbD j := by
  unfold bt
  rw [show (64 * w + j) / 64 = w by omega, show (64 * w + j) % 64 = j by omega]
/-- a set with one triple put in or out -/
theorem bt_set (f : Nat → Int64) (t : Nat) (v : Bool) {u : Nat} (x : Int64) (hx : ∀ j, j < 64 → x.toBitVec.getLsbD j = if j = t % 64 then v else (f (t / 64)).toBitVec.getLsbD j) : bt (vp_updL f (t / 64) x) u = if u = t then v else bt f u := by
  unfold bt vp_updL
  by_cases h : u / 64 = t / 64
  · rw [if_pos h, hx _ (by omega), h]
    by_cases h2 : u % 64 = t % 64
    · rw [if_pos h2, if_pos (by omega)]
    · rw [if_neg h2, if_neg (by omega)]
  · rw [if_neg h, if_neg (fun q => h (by rw [q]))]
theorem w_put (y : Int64) {k : Nat} (hk : k < 64) (j : Nat) (hj : j < 64) : (y ||| ((1 : Int64) <<< ((nI k).toInt64 &&& 63))).toBitVec.getLsbD j = if j = k then true else y.toBitVec.getLsbD j := by
  rw [w_or, w_one hk, BitVec.getLsbD_twoPow]
  by_cases h : j = k
  · subst h; simp [hj]
  · have h' : ¬ k = j := fun q => h q.symm
    simp [h, h']
theorem w_del (y : Int64) {k : Nat} (hk : k < 64) (j : Nat) (hj : j < 64) : (y &&& (((1 : Int64) <<< ((nI k).toInt64 &&& 63)) ^^^ (-1))).toBitVec.getLsbD j = if j = k then false else y.toBitVec.getLsbD j := by
  rw [w_and, w_not _ hj, w_one hk, BitVec.getLsbD_twoPow]
  by_cases h : j = k
  · subst h; simp [hj]
  · have h' : ¬ k = j := fun q => h q.symm
    simp [h, h']
theorem isTb_lt {t : Int32} (h : t < 0) : isTb t = false := by
  unfold isTb
  rw [show decide (0 ≤ t) = false from decide_eq_false (Int32.not_le.mpr h)]
  rfl
theorem isTb_ge {t : Int32} (h : nI 4096 ≤ t) : isTb t = false := by
  unfold isTb
  rw [show decide (t < 4096) = false from decide_eq_false (Int32.not_lt.mpr h), Bool.and_false]
theorem isTb_in {t : Int32} (h : ¬ t < 0) (h2 : ¬ nI 4096 ≤ t) : isTb t = true := by
  unfold isTb
  rw [show decide (0 ≤ t) = true from decide_eq_true (Int32.not_lt.mp h), show decide (t < 4096) = true from decide_eq_true (Int32.not_le.mp h2)]
  rfl
theorem isTb_nI {t : Nat} (h : t < 4096) : isTb (nI t) = true := isTb_in (nI_pos (by omega)) (nI_ge h (by omega))
theorem isTb_ex {t : Int32} (h : isTb t = true) : ∃ k : Nat, k < 4096 ∧ t = nI k := by
  unfold isTb at h
  rw [Bool.and_eq_true] at h
  have h1 : (0 : Int32) ≤ t := of_decide_eq_true h.1
  have h2 : t < 4096 := of_decide_eq_true h.2
  obtain ⟨k, hk, rfl⟩ := nI_of (x := t) (Int32.not_lt.mpr h1)
  refine ⟨k, ?_, rfl⟩
  exact (nI_ltI (b := 4096) hk (by decide)).mp h2
def isBb (t : Int32) : Bool := decide (0 ≤ t) && decide (t < 8)
theorem isBb_lt {t : Int32} (h : t < 0) : isBb t = false := by
  unfold isBb
  rw [show decide (0 ≤ t) = false from decide_eq_false (Int32.not_le.mpr h)]
  rfl
theorem isBb_ge {t : Int32} (h : nI 8 ≤ t) : isBb t = false := by
  unfold isBb
  rw [show decide (t < 8) = false from decide_eq_false (Int32.not_lt.mpr h), Bool.and_false]
theorem isBb_in {t : Int32} (h : ¬ t < 0) (h2 : ¬ nI 8 ≤ t) : isBb t = true := by
  unfold isBb
  rw [show decide (0 ≤ t) = true from decide_eq_true (Int32.not_lt.mp h), show decide (t < 8) = true from decide_eq_true (Int32.not_le.mp h2)]
  rfl
theorem isBb_ex {t : Int32} (h : isBb t = true) : ∃ k : Nat, k < 8 ∧ t = nI k := by
  unfold isBb at h
  rw [Bool.and_eq_true] at h
  have h1 : (0 : Int32) ≤ t := of_decide_eq_true h.1
  have h2 : t < 8 := of_decide_eq_true h.2
  obtain ⟨k, hk, rfl⟩ := nI_of (x := t) (Int32.not_lt.mpr h1)
  refine ⟨k, ?_, rfl⟩
  exact (nI_ltI (b := 8) hk (by decide)).mp h2
/-! counting -/
def cnt (p : Nat → Bool) : Nat → Nat
  | 0 => 0
  | n + 1 => cnt p n + (if p n = true then 1 else 0)
theorem cnt_le (p : Nat → Bool) : ∀ n, cnt p n ≤ n
  | 0 => Nat.le_refl _
  | n + 1 => by
    have := cnt_le p n
    unfold cnt
    split <;> omega
theorem cnt_t {p : Nat → Bool} {n : Nat} (h : p n = true) : cnt p (n + 1) = cnt p n + 1 := by
  show cnt p n + _ = _
  rw [if_pos h]
theorem cnt_f {p : Nat → Bool} {n : Nat} (h : p n = false) : cnt p (n + 1) = cnt p n := by
  show cnt p n + _ = _
  rw [if_neg (by rw [h]; decide)]
  rfl
theorem cnt_mono (p : Nat → Bool) {a b : Nat} (h : a ≤ b) : cnt p a ≤ cnt p b := by
  induction b with
  | zero => rw [Nat.le_zero.mp h]; exact Nat.le_refl _
  | succ b ih =>
    rcases Nat.lt_or_ge b a with q | q
    · rw [show a = b + 1 by omega]; exact Nat.le_refl _
    · exact Nat.le_trans (ih q) (Nat.le_add_right _ _)
theorem cnt_lt (p : Nat → Bool) {a b : Nat} (h : a < b) (ha : p a = true) : cnt p a < cnt p b := by
  have h1 := cnt_t ha
  have h2 := cnt_mono p (show a + 1 ≤ b from h)
  omega
theorem cnt_congr {p q : Nat → Bool} {n : Nat} (h : ∀ j, j < n → p j = q j) : cnt p n = cnt q n := by
  induction n with
  | zero => rfl
  | succ n ih =>
    show cnt p n + _ = cnt q n + _
    rw [ih (fun j hj => h j (by omega)), h n (by omega)]
theorem cnt_add (p : Nat → Bool) (a b : Nat) : cnt p (a + b) = cnt p a + cnt (fun j => p (a + j)) b := by
  induction b with
  | zero => rfl
  | succ b ih =>
    show cnt p (a + b) + (if p (a + b) = true then 1 else 0) = cnt p a + (cnt (fun j => p (a + j)) b + (if p (a + b) = true then 1 else 0))
    rw [ih]
    omega
theorem cnt_0 {p : Nat → Bool} {n : Nat} : cnt p n = 0 ↔ ∀ j, j < n → p j = false := by
  induction n with
  | zero => exact ⟨fun _ j h => by omega, fun _ => rfl⟩
  | succ n ih =>
    constructor
    · intro h j hj
      cases hp : p n with
      | true => rw [cnt_t hp] at h; omega
      | false =>
        rw [cnt_f hp] at h
        rcases Nat.lt_or_ge j n with q | q
        · exact ih.mp h j q
        · rw [show j = n by omega]; exact hp
    · intro h
      rw [cnt_f (h n (by omega))]
      exact ih.mpr (fun j hj => h j (by omega))
/-- number i of those below n that have p; -1 -/
def Nth (p : Nat → Bool) (n : Nat) (i r : Int32) : Prop := (∃ k, k < n ∧ p k = true ∧ nI (cnt p k) = i ∧ r = nI k) ∨ ((∀ k, k < n → p k = true → ¬ nI (cnt p k) = i) ∧ r = -1)
theorem Nth.one {p : Nat → Bool} {n : Nat} (hn : n < 2 ^ 31) {i r r' : Int32} (h : Nth p n i r) (h' : Nth p n i r') : r = r' := by
  rcases h with ⟨k, hk, hp, hc, rfl⟩ | ⟨h, rfl⟩
  · rcases h' with ⟨k', hk', hp', hc', rfl⟩ | ⟨h', rfl⟩
    · have e : cnt p k = cnt p k' := (nI_eq (by have := cnt_le p k; omega) (by have := cnt_le p k'; omega)).mp (hc.trans hc'.symm)
      rcases Nat.lt_trichotomy k k' with q | q | q
      · have := cnt_lt p q hp; omega
      · rw [q]
      · have := cnt_lt p q hp'; omega
    · exact absurd hc (h' k hk hp)
  · rcases h' with ⟨k', hk', hp', hc', rfl⟩ | ⟨h', rfl⟩
    · exact absurd hc' (h k' hk' hp')
    · rfl
theorem Nth.congr {p q : Nat → Bool} {n : Nat} (e : ∀ j, j < n → p j = q j) {i r : Int32} (h : Nth p n i r) : Nth q n i r := by
  rcases h with ⟨k, hk, hp, hc, rfl⟩ | ⟨h, rfl⟩
  · exact Or.inl ⟨k, hk, by rw [← e k hk]; exact hp, by rw [← cnt_congr (fun j hj => e j (by omega))]; exact hc, rfl⟩
  · exact Or.inr ⟨fun k hk hp hc => h k hk (by rw [e k hk]; exact hp) (by rw [cnt_congr (fun j hj => e j (by omega))]; exact hc), rfl⟩
/-- single keys with two triples or more -/
def crowd (p : Nat → Bool) (k : Nat) : Bool := decide (12 ≤ k % 16) && decide (2 ≤ cnt (fun o => p (16 * k + o)) 16)
theorem crowd_congr {p q : Nat → Bool} {k : Nat} (hk : k < 256) (h : ∀ t, t < 4096 → p t = q t) : crowd p k = crowd q k := by
  unfold crowd
  rw [cnt_congr (p := fun o => p (16 * k + o)) (q := fun o => q (16 * k + o)) (fun j hj => h _ (by omega))]
/-- points renamed -/
def rn (x p o : Nat) : Nat := if x = p then o else x
def rnT (t p o : Nat) : Nat := 256 * rn (t / 256) p o + 16 * rn (t / 16 % 16) p o + rn (t % 16) p o
theorem rn_y {x p o : Nat} (h : x = p) : rn x p o = o := if_pos h
theorem rn_n {x p o : Nat} (h : ¬ x = p) : rn x p o = x := if_neg h
theorem rn_lt {x p o n : Nat} (h : x < n) (ho : o < n) : rn x p o < n := by unfold rn; split <;> assumption
theorem rnT_lt {t p o : Nat} (h : t < 4096) (ho : o < 16) : rnT t p o < 4096 := by
  have h1 := rn_lt (x := t / 256) (p := p) (n := 16) (by omega) ho
  have h2 := rn_lt (x := t / 16 % 16) (p := p) (n := 16) (by omega) ho
  have h3 := rn_lt (x := t % 16) (p := p) (n := 16) (by omega) ho
  unfold rnT
  omega
def pointIn (t q : Nat) : Prop := t / 256 = q ∨ t / 16 % 16 = q ∨ t % 16 = q
theorem crowd_no1 {p : Nat → Bool} {k : Nat} (h : k % 16 < 12) : crowd p k = false := by
  unfold crowd
  rw [show decide (12 ≤ k % 16) = false from decide_eq_false (by omega), Bool.false_and]
theorem crowd_no2 {p : Nat → Bool} {k i : Nat} (hi : i = 16) (h : cnt (fun o => p (16 * k + o)) i < 2) : crowd p k = false := by
  subst hi
  unfold crowd
  rw [show decide (2 ≤ cnt (fun o => p (16 * k + o)) 16) = false from decide_eq_false (by omega), Bool.and_false]
theorem crowd_yes {p : Nat → Bool} {k i : Nat} (hi : i = 16) (h1 : 12 ≤ k % 16) (h : 2 ≤ cnt (fun o => p (16 * k + o)) i) : crowd p k = true := by
  subst hi
  unfold crowd
  rw [show decide (12 ≤ k % 16) = true from decide_eq_true h1, show decide (2 ≤ cnt (fun o => p (16 * k + o)) 16) = true from decide_eq_true h]
  rfl
end
section
/-! 06: leaves: triples, bits, words (laid by wip/gen/leaf.py) -/
set_option maxHeartbeats 4000000 in
set_option maxRecDepth 100000 in
/-- isTriple(t) -/
theorem c_X3_isTriple (l : Launch) (D : va_G) (g : Nat → ClassId) (H : Heap) (t : Int32) : Met l yX3_isTriple wsX3_isTriple ({ frames := 0, cells := 0, slots := 0, locals := 0 } : Room) (kPc D g [.int (t)] H) (kX (.int (b2i (isTb t))) H) 0 0 kN := by
  refine Met.ofW (cc := cX3_isTriple) (maxL := 1) (ret := (some .boolean)) (by decide) rfl ?_
  intro p e s m args below meth c s₁ B hml hv
  obtain ⟨rfl, hH, hK⟩ := hv
  have hx := B.exec
  have hb := B.bytes
  have hr := B.returns
  have hts := atoms_spec (ws := wsX3_isTriple) B.pre
  have hown : s.vm.findClass RX3 = some m.cls := findClass_of_methodNamed B.named
  have hlocks := B.notSynchronized
  rw [hH]
  have hl := lv_entry ([.int (t)]) (n := 1) (Nat.le_of_ble_eq_true rfl)
  rw [lg_entry_eq]
  generalize (lg_sl ([.int (t)]) ++ List.replicate (1 - (lg_sl ([.int (t)])).length) Slot.unset).toArray = ls at hl ⊢
  have hl : lv_has ls 1 [(0, .int (t))] := hl
  refine lv_iload_n hx hb dX3_isTriple_0 rfl (lv_at hl 0 rfl) ?_
  refine lv_if_lt (tgt := 15) hx hb dX3_isTriple_1 (by decide) (fun c_1 => ?_) (fun c_1 => ?_)
  · skip
    refine lv_iconst (v := b2i false) hx hb dX3_isTriple_15 (by decide +kernel) ?_
    exact r_zX hx hb hr (by rw [isTb_lt c_1]) dX3_isTriple_16 hlocks
  · skip
    refine lv_iload_n hx hb dX3_isTriple_4 rfl (lv_at hl 0 rfl) ?_
    refine lv_sipush (v := nI 4096) hx hb dX3_isTriple_5 (by decide +kernel) ?_
    refine lv_icmp_ge (tgt := 15) hx hb dX3_isTriple_8 (by decide) (fun c_2 => ?_) (fun c_2 => ?_)
    · skip
      refine lv_iconst (v := b2i false) hx hb dX3_isTriple_15 (by decide +kernel) ?_
      exact r_zX hx hb hr (by rw [isTb_ge c_2]) dX3_isTriple_16 hlocks
    · skip
      refine lv_iconst (v := b2i true) hx hb dX3_isTriple_11 (by decide +kernel) ?_
      refine lv_goto (tgt := 16) hx hb dX3_isTriple_12 (by decide) ?_
      exact r_zX hx hb hr (by rw [isTb_in c_1 c_2]) dX3_isTriple_16 hlocks
set_option maxHeartbeats 4000000 in
set_option maxRecDepth 100000 in
/-- isTriple(t) -/
theorem c_X4_isTriple (l : Launch) (D : va_G) (g : Nat → ClassId) (H : Heap) (t : Int32) : Met l yX4_isTriple wsX4_isTriple ({ frames := 0, cells := 0, slots := 0, locals := 0 } : Room) (kPc D g [.int (t)] H) (kX (.int (b2i (isTb t))) H) 0 0 kN := by
  refine Met.ofW (cc := cX4_isTriple) (maxL := 1) (ret := (some .boolean)) (by decide) rfl ?_
  intro p e s m args below meth c s₁ B hml hv
  obtain ⟨rfl, hH, hK⟩ := hv
  have hx := B.exec
  have hb := B.bytes
  have hr := B.returns
  have hts := atoms_spec (ws := wsX4_isTriple) B.pre
  have hown : s.vm.findClass RX4 = some m.cls := findClass_of_methodNamed B.named
  have hlocks := B.notSynchronized
  rw [hH]
  have hl := lv_entry ([.int (t)]) (n := 1) (Nat.le_of_ble_eq_true rfl)
  rw [lg_entry_eq]
  generalize (lg_sl ([.int (t)]) ++ List.replicate (1 - (lg_sl ([.int (t)])).length) Slot.unset).toArray = ls at hl ⊢
  have hl : lv_has ls 1 [(0, .int (t))] := hl
  refine lv_iload_n hx hb dX4_isTriple_0 rfl (lv_at hl 0 rfl) ?_
  refine lv_if_lt (tgt := 15) hx hb dX4_isTriple_1 (by decide) (fun c_3 => ?_) (fun c_3 => ?_)
  · skip
    refine lv_iconst (v := b2i false) hx hb dX4_isTriple_15 (by decide +kernel) ?_
    exact r_zX hx hb hr (by rw [isTb_lt c_3]) dX4_isTriple_16 hlocks
  · skip
    refine lv_iload_n hx hb dX4_isTriple_4 rfl (lv_at hl 0 rfl) ?_
    refine lv_sipush (v := nI 4096) hx hb dX4_isTriple_5 (by decide +kernel) ?_
    refine lv_icmp_ge (tgt := 15) hx hb dX4_isTriple_8 (by decide) (fun c_4 => ?_) (fun c_4 => ?_)
    · skip
      refine lv_iconst (v := b2i false) hx hb dX4_isTriple_15 (by decide +kernel) ?_
      exact r_zX hx hb hr (by rw [isTb_ge c_4]) dX4_isTriple_16 hlocks
    · skip
      refine lv_iconst (v := b2i true) hx hb dX4_isTriple_11 (by decide +kernel) ?_
      refine lv_goto (tgt := 16) hx hb dX4_isTriple_12 (by decide) ?_
      exact r_zX hx hb hr (by rw [isTb_in c_3 c_4]) dX4_isTriple_16 hlocks
set_option maxHeartbeats 4000000 in
set_option maxRecDepth 100000 in
/-- isBlank(t) -/
theorem c_X3_isBlank (l : Launch) (D : va_G) (g : Nat → ClassId) (H : Heap) (t : Int32) : Met l yX3_isBlank wsX3_isBlank ({ frames := 0, cells := 0, slots := 0, locals := 0 } : Room) (kPc D g [.int (t)] H) (kX (.int (b2i (isBb t))) H) 0 0 kN := by
  refine Met.ofW (cc := cX3_isBlank) (maxL := 1) (ret := (some .boolean)) (by decide) rfl ?_
  intro p e s m args below meth c s₁ B hml hv
  obtain ⟨rfl, hH, hK⟩ := hv
  have hx := B.exec
  have hb := B.bytes
  have hr := B.returns
  have hts := atoms_spec (ws := wsX3_isBlank) B.pre
  have hown : s.vm.findClass RX3 = some m.cls := findClass_of_methodNamed B.named
  have hlocks := B.notSynchronized
  rw [hH]
  have hl := lv_entry ([.int (t)]) (n := 1) (Nat.le_of_ble_eq_true rfl)
  rw [lg_entry_eq]
  generalize (lg_sl ([.int (t)]) ++ List.replicate (1 - (lg_sl ([.int (t)])).length) Slot.unset).toArray = ls at hl ⊢
  have hl : lv_has ls 1 [(0, .int (t))] := hl
  refine lv_iload_n hx hb dX3_isBlank_0 rfl (lv_at hl 0 rfl) ?_
  refine lv_if_lt (tgt := 14) hx hb dX3_isBlank_1 (by decide) (fun c_5 => ?_) (fun c_5 => ?_)
  · skip
    refine lv_iconst (v := b2i false) hx hb dX3_isBlank_14 (by decide +kernel) ?_
    exact r_zX hx hb hr (by rw [isBb_lt c_5]) dX3_isBlank_15 hlocks
  · skip
    refine lv_iload_n hx hb dX3_isBlank_4 rfl (lv_at hl 0 rfl) ?_
    refine lv_bipush (v := nI 8) hx hb dX3_isBlank_5 (by decide +kernel) ?_
    refine lv_icmp_ge (tgt := 14) hx hb dX3_isBlank_7 (by decide) (fun c_6 => ?_) (fun c_6 => ?_)
    · skip
      refine lv_iconst (v := b2i false) hx hb dX3_isBlank_14 (by decide +kernel) ?_
      exact r_zX hx hb hr (by rw [isBb_ge c_6]) dX3_isBlank_15 hlocks
    · skip
      refine lv_iconst (v := b2i true) hx hb dX3_isBlank_10 (by decide +kernel) ?_
      refine lv_goto (tgt := 15) hx hb dX3_isBlank_11 (by decide) ?_
      exact r_zX hx hb hr (by rw [isBb_in c_5 c_6]) dX3_isBlank_15 hlocks
set_option maxHeartbeats 4000000 in
set_option maxRecDepth 100000 in
/-- isBlank(t) -/
theorem c_X4_isBlank (l : Launch) (D : va_G) (g : Nat → ClassId) (H : Heap) (t : Int32) : Met l yX4_isBlank wsX4_isBlank ({ frames := 0, cells := 0, slots := 0, locals := 0 } : Room) (kPc D g [.int (t)] H) (kX (.int (b2i (isBb t))) H) 0 0 kN := by
  refine Met.ofW (cc := cX4_isBlank) (maxL := 1) (ret := (some .boolean)) (by decide) rfl ?_
  intro p e s m args below meth c s₁ B hml hv
  obtain ⟨rfl, hH, hK⟩ := hv
  have hx := B.exec
  have hb := B.bytes
  have hr := B.returns
  have hts := atoms_spec (ws := wsX4_isBlank) B.pre
  have hown : s.vm.findClass RX4 = some m.cls := findClass_of_methodNamed B.named
  have hlocks := B.notSynchronized
  rw [hH]
  have hl := lv_entry ([.int (t)]) (n := 1) (Nat.le_of_ble_eq_true rfl)
  rw [lg_entry_eq]
  generalize (lg_sl ([.int (t)]) ++ List.replicate (1 - (lg_sl ([.int (t)])).length) Slot.unset).toArray = ls at hl ⊢
  have hl : lv_has ls 1 [(0, .int (t))] := hl
  refine lv_iload_n hx hb dX4_isBlank_0 rfl (lv_at hl 0 rfl) ?_
  refine lv_if_lt (tgt := 14) hx hb dX4_isBlank_1 (by decide) (fun c_7 => ?_) (fun c_7 => ?_)
  · skip
    refine lv_iconst (v := b2i false) hx hb dX4_isBlank_14 (by decide +kernel) ?_
    exact r_zX hx hb hr (by rw [isBb_lt c_7]) dX4_isBlank_15 hlocks
  · skip
    refine lv_iload_n hx hb dX4_isBlank_4 rfl (lv_at hl 0 rfl) ?_
    refine lv_bipush (v := nI 8) hx hb dX4_isBlank_5 (by decide +kernel) ?_
    refine lv_icmp_ge (tgt := 14) hx hb dX4_isBlank_7 (by decide) (fun c_8 => ?_) (fun c_8 => ?_)
    · skip
      refine lv_iconst (v := b2i false) hx hb dX4_isBlank_14 (by decide +kernel) ?_
      exact r_zX hx hb hr (by rw [isBb_ge c_8]) dX4_isBlank_15 hlocks
    · skip
      refine lv_iconst (v := b2i true) hx hb dX4_isBlank_10 (by decide +kernel) ?_
      refine lv_goto (tgt := 15) hx hb dX4_isBlank_11 (by decide) ?_
      exact r_zX hx hb hr (by rw [isBb_in c_7 c_8]) dX4_isBlank_15 hlocks
theorem c_X3_isTriple_k (l : Launch) (D : va_G) (g : Nat → ClassId) (H : Heap) (t : Nat) (ht : t < 4096) : Met l yX3_isTriple wsX3_isTriple ({ frames := 0, cells := 0, slots := 0, locals := 0 } : Room) (kPc D g [.int (nI t)] H) (kX (.int (b2i true)) H) 0 0 kN := by
  have h := c_X3_isTriple l D g H (nI t)
  rw [isTb_nI ht] at h
  exact h
theorem c_X4_isTriple_k (l : Launch) (D : va_G) (g : Nat → ClassId) (H : Heap) (t : Nat) (ht : t < 4096) : Met l yX4_isTriple wsX4_isTriple ({ frames := 0, cells := 0, slots := 0, locals := 0 } : Room) (kPc D g [.int (nI t)] H) (kX (.int (b2i true)) H) 0 0 kN := by
  have h := c_X4_isTriple l D g H (nI t)
  rw [isTb_nI ht] at h
  exact h
set_option maxHeartbeats 4000000 in
set_option maxRecDepth 100000 in
/-- turnedRound -/
theorem c_X3_turnedRound (l : Launch) (D : va_G) (g : Nat → ClassId) (H : Heap) (x : Int32) : Met l yX3_turnedRound wsX3_turnedRound ({ frames := 0, cells := 0, slots := 0, locals := 0 } : Room) (kPc D g [.int (x)] H) (kX (.int ((-1) - x)) H) 0 0 kN := by
  refine Met.ofW (cc := cX3_turnedRound) (maxL := 1) (ret := (some .int)) (by decide) rfl ?_
  intro p e s m args below meth c s₁ B hml hv
  obtain ⟨rfl, hH, hK⟩ := hv
  have hx := B.exec
  have hb := B.bytes
  have hr := B.returns
  have hts := atoms_spec (ws := wsX3_turnedRound) B.pre
  have hown : s.vm.findClass RX3 = some m.cls := findClass_of_methodNamed B.named
  have hlocks := B.notSynchronized
  rw [hH]
  have hl := lv_entry ([.int (x)]) (n := 1) (Nat.le_of_ble_eq_true rfl)
  rw [lg_entry_eq]
  generalize (lg_sl ([.int (x)]) ++ List.replicate (1 - (lg_sl ([.int (x)])).length) Slot.unset).toArray = ls at hl ⊢
  have hl : lv_has ls 1 [(0, .int (x))] := hl
  refine lv_iconst (v := (-1)) hx hb dX3_turnedRound_0 (by decide +kernel) ?_
  refine lv_iload_n hx hb dX3_turnedRound_1 rfl (lv_at hl 0 rfl) ?_
  refine lv_isub hx hb dX3_turnedRound_2 ?_
  exact r_iX hx hb hr (rfl) dX3_turnedRound_3 hlocks
set_option maxHeartbeats 4000000 in
set_option maxRecDepth 100000 in
theorem c_X1_subject (l : Launch) (D : va_G) (g : Nat → ClassId) (H : Heap) (t : Nat) (ht : t < 4096) : Met l yX1_subject wsX1_subject ({ frames := 0, cells := 0, slots := 0, locals := 0 } : Room) (kPc D g [.int (nI t)] H) (kX (.int (nI (t / 256))) H) 0 0 kN := by
  refine Met.ofW (cc := cX1_subject) (maxL := 1) (ret := (some .int)) (by decide) rfl ?_
  intro p e s m args below meth c s₁ B hml hv
  obtain ⟨rfl, hH, hK⟩ := hv
  have hx := B.exec
  have hb := B.bytes
  have hr := B.returns
  have hts := atoms_spec (ws := wsX1_subject) B.pre
  have hown : s.vm.findClass RX1 = some m.cls := findClass_of_methodNamed B.named
  have hlocks := B.notSynchronized
  rw [hH]
  have hl := lv_entry ([.int (nI t)]) (n := 1) (Nat.le_of_ble_eq_true rfl)
  rw [lg_entry_eq]
  generalize (lg_sl ([.int (nI t)]) ++ List.replicate (1 - (lg_sl ([.int (nI t)])).length) Slot.unset).toArray = ls at hl ⊢
  have hl : lv_has ls 1 [(0, .int (nI t))] := hl
  refine lv_iload_n hx hb dX1_subject_0 rfl (lv_at hl 0 rfl) ?_
  refine lv_bipush (v := nI 8) hx hb dX1_subject_1 (by decide +kernel) ?_
  refine lv_ishr hx hb dX1_subject_3 ?_
  refine lv_topi (nm_r (show (nI t) >>> ((nI 8) &&& 31) = nI (t / 256) from pk_shrN (by omega) _ 8 (by decide +kernel)) ?_)
  exact r_iX hx hb hr (rfl) dX1_subject_4 hlocks
set_option maxHeartbeats 4000000 in
set_option maxRecDepth 100000 in
theorem c_X1_property (l : Launch) (D : va_G) (g : Nat → ClassId) (H : Heap) (t : Nat) (ht : t < 4096) : Met l yX1_property wsX1_property ({ frames := 0, cells := 0, slots := 0, locals := 0 } : Room) (kPc D g [.int (nI t)] H) (kX (.int (nI (t / 16 % 16))) H) 0 0 kN := by
  refine Met.ofW (cc := cX1_property) (maxL := 1) (ret := (some .int)) (by decide) rfl ?_
  intro p e s m args below meth c s₁ B hml hv
  obtain ⟨rfl, hH, hK⟩ := hv
  have hx := B.exec
  have hb := B.bytes
  have hr := B.returns
  have hts := atoms_spec (ws := wsX1_property) B.pre
  have hown : s.vm.findClass RX1 = some m.cls := findClass_of_methodNamed B.named
  have hlocks := B.notSynchronized
  rw [hH]
  have hl := lv_entry ([.int (nI t)]) (n := 1) (Nat.le_of_ble_eq_true rfl)
  rw [lg_entry_eq]
  generalize (lg_sl ([.int (nI t)]) ++ List.replicate (1 - (lg_sl ([.int (nI t)])).length) Slot.unset).toArray = ls at hl ⊢
  have hl : lv_has ls 1 [(0, .int (nI t))] := hl
  refine lv_iload_n hx hb dX1_property_0 rfl (lv_at hl 0 rfl) ?_
  refine lv_iconst (v := nI 4) hx hb dX1_property_1 (by decide +kernel) ?_
  refine lv_ishr hx hb dX1_property_2 ?_
  refine lv_topi (nm_r (show (nI t) >>> ((nI 4) &&& 31) = nI (t / 16) from pk_shrN (by omega) _ 4 (by decide +kernel)) ?_)
  refine lv_bipush (v := nI 15) hx hb dX1_property_3 (by decide +kernel) ?_
  refine lv_iand hx hb dX1_property_5 ?_
  refine lv_topi (nm_r (show (nI (t / 16)) &&& (nI 15) = nI ((t / 16) % 16) from pk_andN (by omega) 4 (by decide +kernel)) ?_)
  exact r_iX hx hb hr (rfl) dX1_property_6 hlocks
set_option maxHeartbeats 4000000 in
set_option maxRecDepth 100000 in
theorem c_X1_object (l : Launch) (D : va_G) (g : Nat → ClassId) (H : Heap) (t : Nat) (ht : t < 4096) : Met l yX1_object wsX1_object ({ frames := 0, cells := 0, slots := 0, locals := 0 } : Room) (kPc D g [.int (nI t)] H) (kX (.int (nI (t % 16))) H) 0 0 kN := by
  refine Met.ofW (cc := cX1_object) (maxL := 1) (ret := (some .int)) (by decide) rfl ?_
  intro p e s m args below meth c s₁ B hml hv
  obtain ⟨rfl, hH, hK⟩ := hv
  have hx := B.exec
  have hb := B.bytes
  have hr := B.returns
  have hts := atoms_spec (ws := wsX1_object) B.pre
  have hown : s.vm.findClass RX1 = some m.cls := findClass_of_methodNamed B.named
  have hlocks := B.notSynchronized
  rw [hH]
  have hl := lv_entry ([.int (nI t)]) (n := 1) (Nat.le_of_ble_eq_true rfl)
  rw [lg_entry_eq]
  generalize (lg_sl ([.int (nI t)]) ++ List.replicate (1 - (lg_sl ([.int (nI t)])).length) Slot.unset).toArray = ls at hl ⊢
  have hl : lv_has ls 1 [(0, .int (nI t))] := hl
  refine lv_iload_n hx hb dX1_object_0 rfl (lv_at hl 0 rfl) ?_
  refine lv_bipush (v := nI 15) hx hb dX1_object_1 (by decide +kernel) ?_
  refine lv_iand hx hb dX1_object_3 ?_
  refine lv_topi (nm_r (show (nI t) &&& (nI 15) = nI (t % 16) from pk_andN (by omega) 4 (by decide +kernel)) ?_)
  exact r_iX hx hb hr (rfl) dX1_object_4 hlocks
set_option maxHeartbeats 4000000 in
set_option maxRecDepth 100000 in
/-- has(t) -/
theorem c_X1_has (l : Launch) (D : va_G) (g : Nat → ClassId) (H : Heap) (a w : Nat) (f : Nat → Int64) (ho : HA D H a (eO 1 [.ref w])) (hw : HA D H w (eL (g 2) 64 f)) (t : Nat) (ht : t < 4096) : Met l yX1_has wsX1_has ({ frames := 1, cells := 0, slots := 0, locals := 20 } : Room) (kPc D g [.ref a, .int (nI t)] H) (kX (.int (b2i (bt f t))) H) 0 0 kN := by
  refine Met.ofW (cc := cX1_has) (maxL := 2) (ret := (some .boolean)) (by decide) rfl ?_
  intro p e s m args below meth c s₁ B hml hv
  obtain ⟨rfl, hH, hK⟩ := hv
  have hx := B.exec
  have hb := B.bytes
  have hr := B.returns
  have hts := atoms_spec (ws := wsX1_has) B.pre
  have hown : s.vm.findClass RX1 = some m.cls := findClass_of_methodNamed B.named
  have hlocks := B.notSynchronized
  rw [hH]
  have hl := lv_entry ([.ref a, .int (nI t)]) (n := 2) (Nat.le_of_ble_eq_true rfl)
  rw [lg_entry_eq]
  generalize (lg_sl ([.ref a, .int (nI t)]) ++ List.replicate (2 - (lg_sl ([.ref a, .int (nI t)])).length) Slot.unset).toArray = ls at hl ⊢
  have hl : lv_has ls 2 [(0, .ref a), (1, .int (nI t))] := hl
  refine lv_iload_n hx hb dX1_has_0 rfl (lv_at hl 1 rfl) ?_
  refine k_callX (va_runSN (As := [.int (nI t)]) (rest := []) ⟨hx, hb, hml, hown, hts⟩ (c_X3_isTriple_k l D g H t ht) ⟨va_cnB 1 hts gX1_has_X3_isTriple_n15 rfl rfl rfl (hK.2.1 _ (List.mem_of_getElem? (i := 6) rfl)) (hts (.initialized RX3) (by decide +kernel)) (by decide +kernel) ⟨Nat.le_of_ble_eq_true rfl, Nat.le_of_ble_eq_true rfl⟩, hts (.static yX3_isTriple) (by decide +kernel), trivial⟩ ⟨kPc_blind, fun U hU hW => kPc_at hK hU hW⟩ rfl rfl hl.1 rfl (lv_room (Nat.le_of_ble_eq_true rfl)) dX1_has_1 ⟨Nat.le_of_ble_eq_true rfl, Nat.le_of_ble_eq_true rfl⟩) ?_
  refine z_if_eq (tgt := 32) hx hb dX1_has_4 (by decide) (fun h => by cases h) (fun _ => ?_)
  refine lv_aload_n hx hb dX1_has_7 rfl (lv_at hl 0 rfl) ?_
  refine k_get (ci := 1) (C := RX1) (T := TX1) (N := 1) (v := .ref w) hx hb hts (by decide +kernel) hown hK ho rfl 0 (by decide) rfl (hts (.fieldLink RX1 9 RX1 "words" "[J") (by decide +kernel)) rfl dX1_has_8 ?_
  refine lv_iload_n hx hb dX1_has_11 rfl (lv_at hl 1 rfl) ?_
  refine lv_bipush (v := nI 6) hx hb dX1_has_12 (by decide +kernel) ?_
  refine lv_ishr hx hb dX1_has_14 ?_
  refine lv_topi (nm_r (show (nI t) >>> ((nI 6) &&& 31) = nI (t / 64) from pk_shrN (by omega) _ 6 (by decide +kernel)) ?_)
  refine k_lald hx hb hK hw (t / 64) rfl (by omega) (by omega) dX1_has_15 ?_
  refine lv_iload_n hx hb dX1_has_16 rfl (lv_at hl 1 rfl) ?_
  refine lv_bipush (v := nI 63) hx hb dX1_has_17 (by decide +kernel) ?_
  refine lv_iand hx hb dX1_has_19 ?_
  refine lv_topi (nm_r (show (nI t) &&& (nI 63) = nI (t % 64) from pk_andN (by omega) 6 (by decide +kernel)) ?_)
  refine lv_lushr (v := ((f (t / 64)).toUInt64 >>> ((nI (t % 64)).toInt64.toUInt64 &&& Int64.toUInt64 63)).toInt64) hx hb dX1_has_20 rfl ?_
  refine lv_lconst (v := 1) hx hb dX1_has_21 (by decide +kernel) ?_
  refine lv_land hx hb dX1_has_22 ?_
  refine lv_lconst (v := 0) hx hb dX1_has_23 (by decide +kernel) ?_
  refine W.lcmp hx hb dX1_has_24 ?_
  refine lv_if_eq (tgt := 32) hx hb dX1_has_25 (by decide) (fun c_9 => ?_) (fun c_9 => ?_)
  · skip
    refine lv_iconst (v := b2i false) hx hb dX1_has_32 (by decide +kernel) ?_
    exact r_zX hx hb hr (by rw [show bt f t = false from (w_bit _ (by omega)).mp c_9]) dX1_has_33 hlocks
  · skip
    refine lv_iconst (v := b2i true) hx hb dX1_has_28 (by decide +kernel) ?_
    refine lv_goto (tgt := 33) hx hb dX1_has_29 (by decide) ?_
    exact r_zX hx hb hr (by rw [show bt f t = true from ts_nf (fun q => c_9 ((w_bit _ (by omega)).mpr q))]) dX1_has_33 hlocks
set_option maxHeartbeats 4000000 in
set_option maxRecDepth 100000 in
/-- change(t, v) -/
theorem c_X1_change (l : Launch) (D : va_G) (g : Nat → ClassId) (b0 : Nat) (H : Heap) (a w : Nat) (f : Nat → Int64) (ho : HA D H a (eO 1 [.ref w])) (hw : HA D H w (eL (g 2) 64 f)) (hab : b0 ≤ w) (t : Nat) (ht : t < 4096) (v : Bool) : Met l yX1_change wsX1_change ({ frames := 1, cells := 0, slots := 0, locals := 20 } : Room) (kPc D g [.ref a, .int (nI t), .int (b2i v)] H) (kU (fun H1 => ∃ f1 : Nat → Int64, HA D H1 w (eL (g 2) 64 f1) ∧ Chg H H1 w ∧ ∀ u, bt f1 u = if u = t then v else bt f u)) 0 0 (kF b0) := by
  refine Met.ofW (cc := cX1_change) (maxL := 5) (ret := none) (by decide) rfl ?_
  intro p e s m args below meth c s₁ B hml hv
  obtain ⟨rfl, hH, hK⟩ := hv
  have hx := B.exec
  have hb := B.bytes
  have hr := B.returns
  have hts := atoms_spec (ws := wsX1_change) B.pre
  have hown : s.vm.findClass RX1 = some m.cls := findClass_of_methodNamed B.named
  have hlocks := B.notSynchronized
  rw [hH]
  have hl := lv_entry ([.ref a, .int (nI t), .int (b2i v)]) (n := 5) (Nat.le_of_ble_eq_true rfl)
  rw [lg_entry_eq]
  generalize (lg_sl ([.ref a, .int (nI t), .int (b2i v)]) ++ List.replicate (5 - (lg_sl ([.ref a, .int (nI t), .int (b2i v)])).length) Slot.unset).toArray = ls at hl ⊢
  have hl : lv_has ls 5 [(0, .ref a), (1, .int (nI t)), (2, .int (b2i v))] := hl
  refine lv_iload_n hx hb dX1_change_0 rfl (lv_at hl 1 rfl) ?_
  refine k_callX (va_runSN (As := [.int (nI t)]) (rest := []) ⟨hx, hb, hml, hown, hts⟩ (c_X3_isTriple_k l D g H t ht) ⟨va_cnB 1 hts gX1_change_X3_isTriple_n15 rfl rfl rfl (hK.2.1 _ (List.mem_of_getElem? (i := 6) rfl)) (hts (.initialized RX3) (by decide +kernel)) (by decide +kernel) ⟨Nat.le_of_ble_eq_true rfl, Nat.le_of_ble_eq_true rfl⟩, hts (.static yX3_isTriple) (by decide +kernel), trivial⟩ ⟨kPc_blind, fun U hU hW => kPc_at hK hU hW⟩ rfl rfl hl.1 rfl (lv_room (Nat.le_of_ble_eq_true rfl)) dX1_change_1 ⟨Nat.le_of_ble_eq_true rfl, Nat.le_of_ble_eq_true rfl⟩) ?_
  refine z_if_ne (tgt := 8) hx hb dX1_change_4 (by decide) (fun _ => ?_) (fun h => by cases h)
  refine lv_lconst (v := 1) hx hb dX1_change_8 (by decide +kernel) ?_
  refine lv_iload_n hx hb dX1_change_9 rfl (lv_at hl 1 rfl) ?_
  refine lv_bipush (v := nI 63) hx hb dX1_change_10 (by decide +kernel) ?_
  refine lv_iand hx hb dX1_change_12 ?_
  refine lv_topi (nm_r (show (nI t) &&& (nI 63) = nI (t % 64) from pk_andN (by omega) 6 (by decide +kernel)) ?_)
  refine lv_lshl (v := (1) <<< ((nI (t % 64)).toInt64 &&& 63)) hx hb dX1_change_13 rfl ?_
  refine lv_lstore_n (lv' := [(3, .long ((1) <<< ((nI (t % 64)).toInt64 &&& 63))), (0, .ref a), (1, .int (nI t)), (2, .int (b2i v))]) hx hb dX1_change_14 rfl hl (by decide) rfl (fun ls hl => ?_)
  refine lv_iload_n hx hb dX1_change_15 rfl (lv_at hl 3 rfl) ?_
  refine z_if_eq (tgt := 35) hx hb dX1_change_16 (by decide) (fun c_10 => ?_) (fun c_10 => ?_)
  · skip
    refine lv_aload_n hx hb dX1_change_35 rfl (lv_at hl 1 rfl) ?_
    refine k_get (ci := 1) (C := RX1) (T := TX1) (N := 1) (v := .ref w) hx hb hts (by decide +kernel) hown hK ho rfl 0 (by decide) rfl (hts (.fieldLink RX1 9 RX1 "words" "[J") (by decide +kernel)) rfl dX1_change_36 ?_
    refine lv_iload_n hx hb dX1_change_39 rfl (lv_at hl 2 rfl) ?_
    refine lv_bipush (v := nI 6) hx hb dX1_change_40 (by decide +kernel) ?_
    refine lv_ishr hx hb dX1_change_42 ?_
    refine lv_topi (nm_r (show (nI t) >>> ((nI 6) &&& 31) = nI (t / 64) from pk_shrN (by omega) _ 6 (by decide +kernel)) ?_)
    refine lv_dup2_11 hx hb dX1_change_43 rfl rfl ?_
    refine k_lald hx hb hK hw (t / 64) rfl (by omega) (by omega) dX1_change_44 ?_
    refine lv_lload_n hx hb dX1_change_45 rfl (lv_at hl 0 rfl) ?_
    refine lv_ldc2 (v := (-1)) hx hb hown (hts (.constantLong RX1 19 (-1)) (by decide +kernel)) dX1_change_46 ?_
    refine lv_lxor hx hb dX1_change_49 ?_
    refine lv_land hx hb dX1_change_50 ?_
    refine k_last hx hb hK hw LB.nil hab (t / 64) rfl (by omega) (by omega) dX1_change_51 (fun H_11 locs_12 hw_13 hC_14 hLB_15 => ?_)
    exact r_vU hx hb hr hLB_15 (Nat.le_refl _) (Nat.le_refl _) ⟨_, hw_13, hC_14, fun u => by rw [c_10]; exact bt_set f t _ _ (fun j hj => w_del _ (by omega) j hj)⟩ dX1_change_52 hlocks
  · skip
    refine lv_aload_n hx hb dX1_change_19 rfl (lv_at hl 1 rfl) ?_
    refine k_get (ci := 1) (C := RX1) (T := TX1) (N := 1) (v := .ref w) hx hb hts (by decide +kernel) hown hK ho rfl 0 (by decide) rfl (hts (.fieldLink RX1 9 RX1 "words" "[J") (by decide +kernel)) rfl dX1_change_20 ?_
    refine lv_iload_n hx hb dX1_change_23 rfl (lv_at hl 2 rfl) ?_
    refine lv_bipush (v := nI 6) hx hb dX1_change_24 (by decide +kernel) ?_
    refine lv_ishr hx hb dX1_change_26 ?_
    refine lv_topi (nm_r (show (nI t) >>> ((nI 6) &&& 31) = nI (t / 64) from pk_shrN (by omega) _ 6 (by decide +kernel)) ?_)
    refine lv_dup2_11 hx hb dX1_change_27 rfl rfl ?_
    refine k_lald hx hb hK hw (t / 64) rfl (by omega) (by omega) dX1_change_28 ?_
    refine lv_lload_n hx hb dX1_change_29 rfl (lv_at hl 0 rfl) ?_
    refine lv_lor hx hb dX1_change_30 ?_
    refine k_last hx hb hK hw LB.nil hab (t / 64) rfl (by omega) (by omega) dX1_change_31 (fun H_16 locs_17 hw_18 hC_19 hLB_20 => ?_)
    refine lv_goto (tgt := 52) hx hb dX1_change_32 (by decide) ?_
    exact r_vU hx hb hr hLB_20 (Nat.le_refl _) (Nat.le_refl _) ⟨_, hw_18, hC_19, fun u => by rw [c_10]; exact bt_set f t _ _ (fun j hj => w_put _ (by omega) j hj)⟩ dX1_change_52 hlocks
set_option maxHeartbeats 4000000 in
set_option maxRecDepth 100000 in
/-- becomeDifference -/
theorem c_X1_becomeDifference (l : Launch) (D : va_G) (g : Nat → ClassId) (b0 : Nat) (H : Heap) (a w : Nat) (f : Nat → Int64) (ho : HA D H a (eO 1 [.ref w])) (hw : HA D H w (eL (g 2) 64 f)) (hab : b0 ≤ w) (haw : a ≠ w) (x wx : Nat) (fx : Nat → Int64) (ho_x : HA D H x (eO 1 [.ref wx])) (hw_x : HA D H wx (eL (g 2) 64 fx)) (hn_x : x ≠ w) (hn_wx : wx ≠ w) (y wy : Nat) (fy : Nat → Int64) (ho_y : HA D H y (eO 1 [.ref wy])) (hw_y : HA D H wy (eL (g 2) 64 fy)) (hn_y : y ≠ w) (hn_wy : wy ≠ w) : Met l yX1_becomeDifference wsX1_becomeDifference ({ frames := 0, cells := 0, slots := 0, locals := 0 } : Room) (kPc D g [.ref a, .ref x, .ref y] H) (kU (fun H1 => ∃ f1 : Nat → Int64, HA D H1 w (eL (g 2) 64 f1) ∧ Chg H H1 w ∧ ∀ j, j < 64 → f1 j = (fx j) ^^^ (fy j))) 0 0 (kF b0) := by
  refine Met.ofW (cc := cX1_becomeDifference) (maxL := 4) (ret := none) (by decide) rfl ?_
  intro p e s m args below meth c s₁ B hml hv
  obtain ⟨rfl, hH, hK⟩ := hv
  have hx := B.exec
  have hb := B.bytes
  have hr := B.returns
  have hts := atoms_spec (ws := wsX1_becomeDifference) B.pre
  have hown : s.vm.findClass RX1 = some m.cls := findClass_of_methodNamed B.named
  have hlocks := B.notSynchronized
  rw [hH]
  have hl := lv_entry ([.ref a, .ref x, .ref y]) (n := 4) (Nat.le_of_ble_eq_true rfl)
  rw [lg_entry_eq]
  generalize (lg_sl ([.ref a, .ref x, .ref y]) ++ List.replicate (4 - (lg_sl ([.ref a, .ref x, .ref y])).length) Slot.unset).toArray = ls at hl ⊢
  have hl : lv_has ls 4 [(0, .ref a), (1, .ref x), (2, .ref y)] := hl
  refine lv_iconst (v := nI 0) hx hb dX1_becomeDifference_0 (by decide +kernel) ?_
  refine lv_istore_n (lv' := [(3, .int (nI 0)), (0, .ref a), (1, .ref x), (2, .ref y)]) hx hb dX1_becomeDifference_1 rfl hl (by decide) rfl (fun ls hl => ?_)
  have loop : ∀ (n i : Nat) (H1 : Heap) (locs1 : List Loc) (f1 : Nat → Int64), 64 < i + n → i ≤ 64 → HA D H1 w (eL (g 2) 64 f1) → Chg H H1 w → LB b0 locs1 → (∀ j, j < i → f1 j = (fx j) ^^^ (fy j)) → ∀ ls, lv_has ls 4 [(3, .int (nI i)), (0, .ref a), (1, .ref x), (2, .ref y)] → W p l e (headSpec wsX1_becomeDifference ({ frames := 0, cells := 0, slots := 0, locals := 0 } : Room)).room s m ([.ref a, .ref x, .ref y] : List Value).toArray below meth c H1 locs1 0 0 (MQ below (kU (fun H1 => ∃ f1 : Nat → Int64, HA D H1 w (eL (g 2) 64 f1) ∧ Chg H H1 w ∧ ∀ j, j < 64 → f1 j = (fx j) ^^^ (fy j))) ([.ref a, .ref x, .ref y] : List Value).toArray s 0 0 (kF b0)) (F0 m 2 ls []) := by
    intro n
    induction n with
    | zero => intro i H1 locs1 f1 h0 h1; omega
    | succ n ih =>
      intro i H1 locs1 f1 hn hi hf hC hLB hv ls hl
      have hoa := ho.chg hC haw
      have hob_x := ho_x.chg hC hn_x
      have hwb_x := hw_x.chg hC hn_wx
      have hob_y := ho_y.chg hC hn_y
      have hwb_y := hw_y.chg hC hn_wy
      refine lv_iload_n hx hb dX1_becomeDifference_2 rfl (lv_at hl 0 rfl) ?_
      refine lv_bipush (v := nI 64) hx hb dX1_becomeDifference_3 (by decide +kernel) ?_
      refine n_icmp_ge (tgt := 33) hx hb dX1_becomeDifference_5 (by decide) (by omega) (by omega) (fun c_21 => ?_) (fun c_21 => ?_)
      · skip
        exact r_vU hx hb hr hLB (Nat.le_refl _) (Nat.le_refl _) ⟨f1, hf, hC, fun j hj => hv j (by omega)⟩ dX1_becomeDifference_33 hlocks
      · skip
        refine lv_aload_n hx hb dX1_becomeDifference_8 rfl (lv_at hl 1 rfl) ?_
        refine k_get (ci := 1) (C := RX1) (T := TX1) (N := 1) (v := .ref w) hx hb hts (by decide +kernel) hown hK hoa rfl 0 (by decide) rfl (hts (.fieldLink RX1 9 RX1 "words" "[J") (by decide +kernel)) rfl dX1_becomeDifference_9 ?_
        refine lv_iload_n hx hb dX1_becomeDifference_12 rfl (lv_at hl 0 rfl) ?_
        refine lv_aload_n hx hb dX1_becomeDifference_13 rfl (lv_at hl 2 rfl) ?_
        refine k_get (ci := 1) (C := RX1) (T := TX1) (N := 1) (v := .ref wx) hx hb hts (by decide +kernel) hown hK hob_x rfl 0 (by decide) rfl (hts (.fieldLink RX1 9 RX1 "words" "[J") (by decide +kernel)) rfl dX1_becomeDifference_14 ?_
        refine lv_iload_n hx hb dX1_becomeDifference_17 rfl (lv_at hl 0 rfl) ?_
        refine k_lald hx hb hK hwb_x (i) rfl (by omega) (by omega) dX1_becomeDifference_18 ?_
        refine lv_aload_n hx hb dX1_becomeDifference_19 rfl (lv_at hl 3 rfl) ?_
        refine k_get (ci := 1) (C := RX1) (T := TX1) (N := 1) (v := .ref wy) hx hb hts (by decide +kernel) hown hK hob_y rfl 0 (by decide) rfl (hts (.fieldLink RX1 9 RX1 "words" "[J") (by decide +kernel)) rfl dX1_becomeDifference_20 ?_
        refine lv_iload_n hx hb dX1_becomeDifference_23 rfl (lv_at hl 0 rfl) ?_
        refine k_lald hx hb hK hwb_y (i) rfl (by omega) (by omega) dX1_becomeDifference_24 ?_
        refine lv_lxor hx hb dX1_becomeDifference_25 ?_
        refine k_last hx hb hK hf hLB hab (i) rfl (by omega) (by omega) dX1_becomeDifference_26 (fun H_22 locs_23 hw_24 hC_25 hLB_26 => ?_)
        refine lv_iinc (v := nI (i + 1)) (lv' := [(3, .int (nI (i + 1))), (0, .ref a), (1, .ref x), (2, .ref y)]) hx hb dX1_becomeDifference_27 hl (k := 0) rfl (nI_add (i) 1) (by decide) rfl (fun ls hl => ?_)
        refine lv_goto (tgt := 2) hx hb dX1_becomeDifference_30 (by decide) ?_
        refine ih (i + 1) H_22 locs_23 _ (by omega) (by omega) hw_24 (hC.tr hC_25) hLB_26 ?_ ls (lv_sub hl [0, 1, 2, 3] rfl)
        intro j hj
        rcases Nat.lt_or_ge j i with q | q
        · rw [pk_uLn (by omega)]; exact hv j q
        · have e : j = i := by omega
          subst e
          rw [pk_uLs]
  exact loop 65 0 H [] f (by omega) (by omega) hw Chg.rf LB.nil (fun j h => by omega) ls (lv_sub hl [0, 1, 2, 3] rfl)
set_option maxHeartbeats 4000000 in
set_option maxRecDepth 100000 in
/-- becomeMerged -/
theorem c_X1_becomeMerged (l : Launch) (D : va_G) (g : Nat → ClassId) (b0 : Nat) (H : Heap) (a w : Nat) (f : Nat → Int64) (ho : HA D H a (eO 1 [.ref w])) (hw : HA D H w (eL (g 2) 64 f)) (hab : b0 ≤ w) (haw : a ≠ w) (x wx : Nat) (fx : Nat → Int64) (ho_x : HA D H x (eO 1 [.ref wx])) (hw_x : HA D H wx (eL (g 2) 64 fx)) (hn_x : x ≠ w) (hn_wx : wx ≠ w) (y wy : Nat) (fy : Nat → Int64) (ho_y : HA D H y (eO 1 [.ref wy])) (hw_y : HA D H wy (eL (g 2) 64 fy)) (hn_y : y ≠ w) (hn_wy : wy ≠ w) (z wz : Nat) (fz : Nat → Int64) (ho_z : HA D H z (eO 1 [.ref wz])) (hw_z : HA D H wz (eL (g 2) 64 fz)) (hn_z : z ≠ w) (hn_wz : wz ≠ w) : Met l yX1_becomeMerged wsX1_becomeMerged ({ frames := 0, cells := 0, slots := 0, locals := 0 } : Room) (kPc D g [.ref a, .ref x, .ref y, .ref z] H) (kU (fun H1 => ∃ f1 : Nat → Int64, HA D H1 w (eL (g 2) 64 f1) ∧ Chg H H1 w ∧ ∀ j, j < 64 → f1 j = (((fx j) ||| (fy j)) &&& ((fz j) ^^^ (-1))) ||| ((fx j) &&& (fy j)))) 0 0 (kF b0) := by
  refine Met.ofW (cc := cX1_becomeMerged) (maxL := 7) (ret := none) (by decide) rfl ?_
  intro p e s m args below meth c s₁ B hml hv
  obtain ⟨rfl, hH, hK⟩ := hv
  have hx := B.exec
  have hb := B.bytes
  have hr := B.returns
  have hts := atoms_spec (ws := wsX1_becomeMerged) B.pre
  have hown : s.vm.findClass RX1 = some m.cls := findClass_of_methodNamed B.named
  have hlocks := B.notSynchronized
  rw [hH]
  have hl := lv_entry ([.ref a, .ref x, .ref y, .ref z]) (n := 7) (Nat.le_of_ble_eq_true rfl)
  rw [lg_entry_eq]
  generalize (lg_sl ([.ref a, .ref x, .ref y, .ref z]) ++ List.replicate (7 - (lg_sl ([.ref a, .ref x, .ref y, .ref z])).length) Slot.unset).toArray = ls at hl ⊢
  have hl : lv_has ls 7 [(0, .ref a), (1, .ref x), (2, .ref y), (3, .ref z)] := hl
  refine lv_iconst (v := nI 0) hx hb dX1_becomeMerged_0 (by decide +kernel) ?_
  refine lv_istore (lv' := [(4, .int (nI 0)), (0, .ref a), (1, .ref x), (2, .ref y), (3, .ref z)]) hx hb dX1_becomeMerged_1 hl (by decide) rfl (fun ls hl => ?_)
  have loop : ∀ (n i : Nat) (H1 : Heap) (locs1 : List Loc) (f1 : Nat → Int64), 64 < i + n → i ≤ 64 → HA D H1 w (eL (g 2) 64 f1) → Chg H H1 w → LB b0 locs1 → (∀ j, j < i → f1 j = (((fx j) ||| (fy j)) &&& ((fz j) ^^^ (-1))) ||| ((fx j) &&& (fy j))) → ∀ ls, lv_has ls 7 [(4, .int (nI i)), (0, .ref a), (1, .ref x), (2, .ref y), (3, .ref z)] → W p l e (headSpec wsX1_becomeMerged ({ frames := 0, cells := 0, slots := 0, locals := 0 } : Room)).room s m ([.ref a, .ref x, .ref y, .ref z] : List Value).toArray below meth c H1 locs1 0 0 (MQ below (kU (fun H1 => ∃ f1 : Nat → Int64, HA D H1 w (eL (g 2) 64 f1) ∧ Chg H H1 w ∧ ∀ j, j < 64 → f1 j = (((fx j) ||| (fy j)) &&& ((fz j) ^^^ (-1))) ||| ((fx j) &&& (fy j)))) ([.ref a, .ref x, .ref y, .ref z] : List Value).toArray s 0 0 (kF b0)) (F0 m 3 ls []) := by
    intro n
    induction n with
    | zero => intro i H1 locs1 f1 h0 h1; omega
    | succ n ih =>
      intro i H1 locs1 f1 hn hi hf hC hLB hv ls hl
      have hoa := ho.chg hC haw
      have hob_x := ho_x.chg hC hn_x
      have hwb_x := hw_x.chg hC hn_wx
      have hob_y := ho_y.chg hC hn_y
      have hwb_y := hw_y.chg hC hn_wy
      have hob_z := ho_z.chg hC hn_z
      have hwb_z := hw_z.chg hC hn_wz
      refine lv_iload hx hb dX1_becomeMerged_3 (lv_at hl 0 rfl) ?_
      refine lv_bipush (v := nI 64) hx hb dX1_becomeMerged_5 (by decide +kernel) ?_
      refine n_icmp_ge (tgt := 70) hx hb dX1_becomeMerged_7 (by decide) (by omega) (by omega) (fun c_27 => ?_) (fun c_27 => ?_)
      · skip
        exact r_vU hx hb hr hLB (Nat.le_refl _) (Nat.le_refl _) ⟨f1, hf, hC, fun j hj => hv j (by omega)⟩ dX1_becomeMerged_70 hlocks
      · skip
        refine lv_aload_n hx hb dX1_becomeMerged_10 rfl (lv_at hl 2 rfl) ?_
        refine k_get (ci := 1) (C := RX1) (T := TX1) (N := 1) (v := .ref wx) hx hb hts (by decide +kernel) hown hK hob_x rfl 0 (by decide) rfl (hts (.fieldLink RX1 9 RX1 "words" "[J") (by decide +kernel)) rfl dX1_becomeMerged_11 ?_
        refine lv_iload hx hb dX1_becomeMerged_14 (lv_at hl 0 rfl) ?_
        refine k_lald hx hb hK hwb_x (i) rfl (by omega) (by omega) dX1_becomeMerged_16 ?_
        refine lv_aload_n hx hb dX1_becomeMerged_17 rfl (lv_at hl 3 rfl) ?_
        refine k_get (ci := 1) (C := RX1) (T := TX1) (N := 1) (v := .ref wy) hx hb hts (by decide +kernel) hown hK hob_y rfl 0 (by decide) rfl (hts (.fieldLink RX1 9 RX1 "words" "[J") (by decide +kernel)) rfl dX1_becomeMerged_18 ?_
        refine lv_iload hx hb dX1_becomeMerged_21 (lv_at hl 0 rfl) ?_
        refine k_lald hx hb hK hwb_y (i) rfl (by omega) (by omega) dX1_becomeMerged_23 ?_
        refine lv_lor hx hb dX1_becomeMerged_24 ?_
        refine lv_aload_n hx hb dX1_becomeMerged_25 rfl (lv_at hl 4 rfl) ?_
        refine k_get (ci := 1) (C := RX1) (T := TX1) (N := 1) (v := .ref wz) hx hb hts (by decide +kernel) hown hK hob_z rfl 0 (by decide) rfl (hts (.fieldLink RX1 9 RX1 "words" "[J") (by decide +kernel)) rfl dX1_becomeMerged_26 ?_
        refine lv_iload hx hb dX1_becomeMerged_29 (lv_at hl 0 rfl) ?_
        refine k_lald hx hb hK hwb_z (i) rfl (by omega) (by omega) dX1_becomeMerged_31 ?_
        refine lv_ldc2 (v := (-1)) hx hb hown (hts (.constantLong RX1 19 (-1)) (by decide +kernel)) dX1_becomeMerged_32 ?_
        refine lv_lxor hx hb dX1_becomeMerged_35 ?_
        refine lv_land hx hb dX1_becomeMerged_36 ?_
        refine lv_lstore (lv' := [(5, .long (((fx (i)) ||| (fy (i))) &&& ((fz (i)) ^^^ ((-1))))), (4, .int (nI i)), (0, .ref a), (1, .ref x), (2, .ref y), (3, .ref z)]) hx hb dX1_becomeMerged_37 hl (by decide) rfl (fun ls hl => ?_)
        refine lv_aload_n hx hb dX1_becomeMerged_39 rfl (lv_at hl 2 rfl) ?_
        refine k_get (ci := 1) (C := RX1) (T := TX1) (N := 1) (v := .ref w) hx hb hts (by decide +kernel) hown hK hoa rfl 0 (by decide) rfl (hts (.fieldLink RX1 9 RX1 "words" "[J") (by decide +kernel)) rfl dX1_becomeMerged_40 ?_
        refine lv_iload hx hb dX1_becomeMerged_43 (lv_at hl 1 rfl) ?_
        refine lv_lload hx hb dX1_becomeMerged_45 (lv_at hl 0 rfl) ?_
        refine lv_aload_n hx hb dX1_becomeMerged_47 rfl (lv_at hl 3 rfl) ?_
        refine k_get (ci := 1) (C := RX1) (T := TX1) (N := 1) (v := .ref wx) hx hb hts (by decide +kernel) hown hK hob_x rfl 0 (by decide) rfl (hts (.fieldLink RX1 9 RX1 "words" "[J") (by decide +kernel)) rfl dX1_becomeMerged_48 ?_
        refine lv_iload hx hb dX1_becomeMerged_51 (lv_at hl 1 rfl) ?_
        refine k_lald hx hb hK hwb_x (i) rfl (by omega) (by omega) dX1_becomeMerged_53 ?_
        refine lv_aload_n hx hb dX1_becomeMerged_54 rfl (lv_at hl 4 rfl) ?_
        refine k_get (ci := 1) (C := RX1) (T := TX1) (N := 1) (v := .ref wy) hx hb hts (by decide +kernel) hown hK hob_y rfl 0 (by decide) rfl (hts (.fieldLink RX1 9 RX1 "words" "[J") (by decide +kernel)) rfl dX1_becomeMerged_55 ?_
        refine lv_iload hx hb dX1_becomeMerged_58 (lv_at hl 1 rfl) ?_
        refine k_lald hx hb hK hwb_y (i) rfl (by omega) (by omega) dX1_becomeMerged_60 ?_
        refine lv_land hx hb dX1_becomeMerged_61 ?_
        refine lv_lor hx hb dX1_becomeMerged_62 ?_
        refine k_last hx hb hK hf hLB hab (i) rfl (by omega) (by omega) dX1_becomeMerged_63 (fun H_28 locs_29 hw_30 hC_31 hLB_32 => ?_)
        refine lv_iinc (v := nI (i + 1)) (lv' := [(4, .int (nI (i + 1))), (5, .long (((fx (i)) ||| (fy (i))) &&& ((fz (i)) ^^^ ((-1))))), (0, .ref a), (1, .ref x), (2, .ref y), (3, .ref z)]) hx hb dX1_becomeMerged_64 hl (k := 1) rfl (nI_add (i) 1) (by decide) rfl (fun ls hl => ?_)
        refine lv_goto (tgt := 3) hx hb dX1_becomeMerged_67 (by decide) ?_
        refine ih (i + 1) H_28 locs_29 _ (by omega) (by omega) hw_30 (hC.tr hC_31) hLB_32 ?_ ls (lv_sub hl [0, 2, 3, 4, 5] rfl)
        intro j hj
        rcases Nat.lt_or_ge j i with q | q
        · rw [pk_uLn (by omega)]; exact hv j q
        · have e : j = i := by omega
          subst e
          rw [pk_uLs]
  exact loop 65 0 H [] f (by omega) (by omega) hw Chg.rf LB.nil (fun j h => by omega) ls (lv_sub hl [0, 1, 2, 3, 4] rfl)
set_option maxHeartbeats 4000000 in
set_option maxRecDepth 100000 in
/-- becomeLaid -/
theorem c_X1_becomeLaid (l : Launch) (D : va_G) (g : Nat → ClassId) (b0 : Nat) (H : Heap) (a w : Nat) (f : Nat → Int64) (ho : HA D H a (eO 1 [.ref w])) (hw : HA D H w (eL (g 2) 64 f)) (hab : b0 ≤ w) (haw : a ≠ w) (x wx : Nat) (fx : Nat → Int64) (ho_x : HA D H x (eO 1 [.ref wx])) (hw_x : HA D H wx (eL (g 2) 64 fx)) (hn_x : x ≠ w) (hn_wx : wx ≠ w) (y wy : Nat) (fy : Nat → Int64) (ho_y : HA D H y (eO 1 [.ref wy])) (hw_y : HA D H wy (eL (g 2) 64 fy)) (hn_y : y ≠ w) (hn_wy : wy ≠ w) (z wz : Nat) (fz : Nat → Int64) (ho_z : HA D H z (eO 1 [.ref wz])) (hw_z : HA D H wz (eL (g 2) 64 fz)) (hn_z : z ≠ w) (hn_wz : wz ≠ w) : Met l yX1_becomeLaid wsX1_becomeLaid ({ frames := 0, cells := 0, slots := 0, locals := 0 } : Room) (kPc D g [.ref a, .ref x, .ref y, .ref z] H) (kU (fun H1 => ∃ f1 : Nat → Int64, HA D H1 w (eL (g 2) 64 f1) ∧ Chg H H1 w ∧ ∀ j, j < 64 → f1 j = ((fx j) &&& (((fy j) &&& ((fz j) ^^^ (-1))) ^^^ (-1))) ||| ((fz j) &&& ((fy j) ^^^ (-1))))) 0 0 (kF b0) := by
  refine Met.ofW (cc := cX1_becomeLaid) (maxL := 9) (ret := none) (by decide) rfl ?_
  intro p e s m args below meth c s₁ B hml hv
  obtain ⟨rfl, hH, hK⟩ := hv
  have hx := B.exec
  have hb := B.bytes
  have hr := B.returns
  have hts := atoms_spec (ws := wsX1_becomeLaid) B.pre
  have hown : s.vm.findClass RX1 = some m.cls := findClass_of_methodNamed B.named
  have hlocks := B.notSynchronized
  rw [hH]
  have hl := lv_entry ([.ref a, .ref x, .ref y, .ref z]) (n := 9) (Nat.le_of_ble_eq_true rfl)
  rw [lg_entry_eq]
  generalize (lg_sl ([.ref a, .ref x, .ref y, .ref z]) ++ List.replicate (9 - (lg_sl ([.ref a, .ref x, .ref y, .ref z])).length) Slot.unset).toArray = ls at hl ⊢
  have hl : lv_has ls 9 [(0, .ref a), (1, .ref x), (2, .ref y), (3, .ref z)] := hl
  refine lv_iconst (v := nI 0) hx hb dX1_becomeLaid_0 (by decide +kernel) ?_
  refine lv_istore (lv' := [(4, .int (nI 0)), (0, .ref a), (1, .ref x), (2, .ref y), (3, .ref z)]) hx hb dX1_becomeLaid_1 hl (by decide) rfl (fun ls hl => ?_)
  have loop : ∀ (n i : Nat) (H1 : Heap) (locs1 : List Loc) (f1 : Nat → Int64), 64 < i + n → i ≤ 64 → HA D H1 w (eL (g 2) 64 f1) → Chg H H1 w → LB b0 locs1 → (∀ j, j < i → f1 j = ((fx j) &&& (((fy j) &&& ((fz j) ^^^ (-1))) ^^^ (-1))) ||| ((fz j) &&& ((fy j) ^^^ (-1)))) → ∀ ls, lv_has ls 9 [(4, .int (nI i)), (0, .ref a), (1, .ref x), (2, .ref y), (3, .ref z)] → W p l e (headSpec wsX1_becomeLaid ({ frames := 0, cells := 0, slots := 0, locals := 0 } : Room)).room s m ([.ref a, .ref x, .ref y, .ref z] : List Value).toArray below meth c H1 locs1 0 0 (MQ below (kU (fun H1 => ∃ f1 : Nat → Int64, HA D H1 w (eL (g 2) 64 f1) ∧ Chg H H1 w ∧ ∀ j, j < 64 → f1 j = ((fx j) &&& (((fy j) &&& ((fz j) ^^^ (-1))) ^^^ (-1))) ||| ((fz j) &&& ((fy j) ^^^ (-1))))) ([.ref a, .ref x, .ref y, .ref z] : List Value).toArray s 0 0 (kF b0)) (F0 m 3 ls []) := by
    intro n
    induction n with
    | zero => intro i H1 locs1 f1 h0 h1; omega
    | succ n ih =>
      intro i H1 locs1 f1 hn hi hf hC hLB hv ls hl
      have hoa := ho.chg hC haw
      have hob_x := ho_x.chg hC hn_x
      have hwb_x := hw_x.chg hC hn_wx
      have hob_y := ho_y.chg hC hn_y
      have hwb_y := hw_y.chg hC hn_wy
      have hob_z := ho_z.chg hC hn_z
      have hwb_z := hw_z.chg hC hn_wz
      refine lv_iload hx hb dX1_becomeLaid_3 (lv_at hl 0 rfl) ?_
      refine lv_bipush (v := nI 64) hx hb dX1_becomeLaid_5 (by decide +kernel) ?_
      refine n_icmp_ge (tgt := 82) hx hb dX1_becomeLaid_7 (by decide) (by omega) (by omega) (fun c_33 => ?_) (fun c_33 => ?_)
      · skip
        exact r_vU hx hb hr hLB (Nat.le_refl _) (Nat.le_refl _) ⟨f1, hf, hC, fun j hj => hv j (by omega)⟩ dX1_becomeLaid_82 hlocks
      · skip
        refine lv_aload_n hx hb dX1_becomeLaid_10 rfl (lv_at hl 3 rfl) ?_
        refine k_get (ci := 1) (C := RX1) (T := TX1) (N := 1) (v := .ref wy) hx hb hts (by decide +kernel) hown hK hob_y rfl 0 (by decide) rfl (hts (.fieldLink RX1 9 RX1 "words" "[J") (by decide +kernel)) rfl dX1_becomeLaid_11 ?_
        refine lv_iload hx hb dX1_becomeLaid_14 (lv_at hl 0 rfl) ?_
        refine k_lald hx hb hK hwb_y (i) rfl (by omega) (by omega) dX1_becomeLaid_16 ?_
        refine lv_aload_n hx hb dX1_becomeLaid_17 rfl (lv_at hl 4 rfl) ?_
        refine k_get (ci := 1) (C := RX1) (T := TX1) (N := 1) (v := .ref wz) hx hb hts (by decide +kernel) hown hK hob_z rfl 0 (by decide) rfl (hts (.fieldLink RX1 9 RX1 "words" "[J") (by decide +kernel)) rfl dX1_becomeLaid_18 ?_
        refine lv_iload hx hb dX1_becomeLaid_21 (lv_at hl 0 rfl) ?_
        refine k_lald hx hb hK hwb_z (i) rfl (by omega) (by omega) dX1_becomeLaid_23 ?_
        refine lv_ldc2 (v := (-1)) hx hb hown (hts (.constantLong RX1 19 (-1)) (by decide +kernel)) dX1_becomeLaid_24 ?_
        refine lv_lxor hx hb dX1_becomeLaid_27 ?_
        refine lv_land hx hb dX1_becomeLaid_28 ?_
        refine lv_lstore (lv' := [(5, .long ((fy (i)) &&& ((fz (i)) ^^^ ((-1))))), (4, .int (nI i)), (0, .ref a), (1, .ref x), (2, .ref y), (3, .ref z)]) hx hb dX1_becomeLaid_29 hl (by decide) rfl (fun ls hl => ?_)
        refine lv_aload_n hx hb dX1_becomeLaid_31 rfl (lv_at hl 5 rfl) ?_
        refine k_get (ci := 1) (C := RX1) (T := TX1) (N := 1) (v := .ref wz) hx hb hts (by decide +kernel) hown hK hob_z rfl 0 (by decide) rfl (hts (.fieldLink RX1 9 RX1 "words" "[J") (by decide +kernel)) rfl dX1_becomeLaid_32 ?_
        refine lv_iload hx hb dX1_becomeLaid_35 (lv_at hl 1 rfl) ?_
        refine k_lald hx hb hK hwb_z (i) rfl (by omega) (by omega) dX1_becomeLaid_37 ?_
        refine lv_aload_n hx hb dX1_becomeLaid_38 rfl (lv_at hl 4 rfl) ?_
        refine k_get (ci := 1) (C := RX1) (T := TX1) (N := 1) (v := .ref wy) hx hb hts (by decide +kernel) hown hK hob_y rfl 0 (by decide) rfl (hts (.fieldLink RX1 9 RX1 "words" "[J") (by decide +kernel)) rfl dX1_becomeLaid_39 ?_
        refine lv_iload hx hb dX1_becomeLaid_42 (lv_at hl 1 rfl) ?_
        refine k_lald hx hb hK hwb_y (i) rfl (by omega) (by omega) dX1_becomeLaid_44 ?_
        refine lv_ldc2 (v := (-1)) hx hb hown (hts (.constantLong RX1 19 (-1)) (by decide +kernel)) dX1_becomeLaid_45 ?_
        refine lv_lxor hx hb dX1_becomeLaid_48 ?_
        refine lv_land hx hb dX1_becomeLaid_49 ?_
        refine lv_lstore (lv' := [(7, .long ((fz (i)) &&& ((fy (i)) ^^^ ((-1))))), (5, .long ((fy (i)) &&& ((fz (i)) ^^^ ((-1))))), (4, .int (nI i)), (0, .ref a), (1, .ref x), (2, .ref y), (3, .ref z)]) hx hb dX1_becomeLaid_50 hl (by decide) rfl (fun ls hl => ?_)
        refine lv_aload_n hx hb dX1_becomeLaid_52 rfl (lv_at hl 3 rfl) ?_
        refine k_get (ci := 1) (C := RX1) (T := TX1) (N := 1) (v := .ref w) hx hb hts (by decide +kernel) hown hK hoa rfl 0 (by decide) rfl (hts (.fieldLink RX1 9 RX1 "words" "[J") (by decide +kernel)) rfl dX1_becomeLaid_53 ?_
        refine lv_iload hx hb dX1_becomeLaid_56 (lv_at hl 2 rfl) ?_
        refine lv_aload_n hx hb dX1_becomeLaid_58 rfl (lv_at hl 4 rfl) ?_
        refine k_get (ci := 1) (C := RX1) (T := TX1) (N := 1) (v := .ref wx) hx hb hts (by decide +kernel) hown hK hob_x rfl 0 (by decide) rfl (hts (.fieldLink RX1 9 RX1 "words" "[J") (by decide +kernel)) rfl dX1_becomeLaid_59 ?_
        refine lv_iload hx hb dX1_becomeLaid_62 (lv_at hl 2 rfl) ?_
        refine k_lald hx hb hK hwb_x (i) rfl (by omega) (by omega) dX1_becomeLaid_64 ?_
        refine lv_lload hx hb dX1_becomeLaid_65 (lv_at hl 1 rfl) ?_
        refine lv_ldc2 (v := (-1)) hx hb hown (hts (.constantLong RX1 19 (-1)) (by decide +kernel)) dX1_becomeLaid_67 ?_
        refine lv_lxor hx hb dX1_becomeLaid_70 ?_
        refine lv_land hx hb dX1_becomeLaid_71 ?_
        refine lv_lload hx hb dX1_becomeLaid_72 (lv_at hl 0 rfl) ?_
        refine lv_lor hx hb dX1_becomeLaid_74 ?_
        refine k_last hx hb hK hf hLB hab (i) rfl (by omega) (by omega) dX1_becomeLaid_75 (fun H_34 locs_35 hw_36 hC_37 hLB_38 => ?_)
        refine lv_iinc (v := nI (i + 1)) (lv' := [(4, .int (nI (i + 1))), (7, .long ((fz (i)) &&& ((fy (i)) ^^^ ((-1))))), (5, .long ((fy (i)) &&& ((fz (i)) ^^^ ((-1))))), (0, .ref a), (1, .ref x), (2, .ref y), (3, .ref z)]) hx hb dX1_becomeLaid_76 hl (k := 2) rfl (nI_add (i) 1) (by decide) rfl (fun ls hl => ?_)
        refine lv_goto (tgt := 3) hx hb dX1_becomeLaid_79 (by decide) ?_
        refine ih (i + 1) H_34 locs_35 _ (by omega) (by omega) hw_36 (hC.tr hC_37) hLB_38 ?_ ls (lv_sub hl [0, 3, 4, 5, 6] rfl)
        intro j hj
        rcases Nat.lt_or_ge j i with q | q
        · rw [pk_uLn (by omega)]; exact hv j q
        · have e : j = i := by omega
          subst e
          rw [pk_uLs]
  exact loop 65 0 H [] f (by omega) (by omega) hw Chg.rf LB.nil (fun j h => by omega) ls (lv_sub hl [0, 1, 2, 3, 4] rfl)
end
section
/-! 07: leaves of a set: comparisons, points, copies (laid by wip/gen/leaf2.py) -/
set_option maxHeartbeats 4000000 in
set_option maxRecDepth 100000 in
theorem c_X1_isSameAs (l : Launch) (D : va_G) (g : Nat → ClassId) (H : Heap) (a w : Nat) (f : Nat → Int64) (ho : HA D H a (eO 1 [.ref w])) (hw : HA D H w (eL (g 2) 64 f)) (x wx : Nat) (fx : Nat → Int64) (hox : HA D H x (eO 1 [.ref wx])) (hwx : HA D H wx (eL (g 2) 64 fx)) (bb : Bool) (hbb : bb = true ↔ ∀ j, j < 64 → f j = fx j) : Met l yX1_isSameAs wsX1_isSameAs ({ frames := 0, cells := 0, slots := 0, locals := 0 } : Room) (kPc D g [.ref a, .ref x] H) (kX (.int (b2i bb)) H) 0 0 kN := by
  refine Met.ofW (cc := cX1_isSameAs) (maxL := 3) (ret := (some .boolean)) (by decide) rfl ?_
  intro p e s m args below meth c s₁ B hml hv
  obtain ⟨rfl, hH, hK⟩ := hv
  have hx := B.exec
  have hb := B.bytes
  have hr := B.returns
  have hts := atoms_spec (ws := wsX1_isSameAs) B.pre
  have hown : s.vm.findClass RX1 = some m.cls := findClass_of_methodNamed B.named
  have hlocks := B.notSynchronized
  rw [hH]
  have hl := lv_entry ([.ref a, .ref x]) (n := 3) (Nat.le_of_ble_eq_true rfl)
  rw [lg_entry_eq]
  generalize (lg_sl ([.ref a, .ref x]) ++ List.replicate (3 - (lg_sl ([.ref a, .ref x])).length) Slot.unset).toArray = ls at hl ⊢
  have hl : lv_has ls 3 [(0, .ref a), (1, .ref x)] := hl
  refine lv_iconst (v := nI 0) hx hb dX1_isSameAs_0 (by decide +kernel) ?_
  refine lv_istore_n (lv' := [(2, .int (nI 0)), (0, .ref a), (1, .ref x)]) hx hb dX1_isSameAs_1 rfl hl (by decide) rfl (fun ls hl => ?_)
  have loop : ∀ (n i : Nat), 64 < i + n → i ≤ 64 → (∀ j, j < i → f j = fx j) → ∀ ls, lv_has ls 3 [(2, .int (nI i)), (0, .ref a), (1, .ref x)] → W p l e (headSpec wsX1_isSameAs ({ frames := 0, cells := 0, slots := 0, locals := 0 } : Room)).room s m ([.ref a, .ref x] : List Value).toArray below meth c H [] 0 0 (MQ below (kX (.int (b2i bb)) H) ([.ref a, .ref x] : List Value).toArray s 0 0 kN) (F0 m 2 ls []) := by
    intro n
    induction n with
    | zero => intro i h0 h1; omega
    | succ n ih =>
      intro i hn hi hv ls hl
      refine lv_iload_n hx hb dX1_isSameAs_2 rfl (lv_at hl 0 rfl) ?_
      refine lv_bipush (v := nI 64) hx hb dX1_isSameAs_3 (by decide +kernel) ?_
      refine n_icmp_ge (tgt := 32) hx hb dX1_isSameAs_5 (by decide) (by omega) (by omega) (fun c_39 => ?_) (fun c_39 => ?_)
      · skip
        refine lv_iconst (v := b2i true) hx hb dX1_isSameAs_32 (by decide +kernel) ?_
        exact r_zX hx hb hr (by rw [hbb.mpr (fun j hj => hv j (by omega))]) dX1_isSameAs_33 hlocks
      · skip
        refine lv_aload_n hx hb dX1_isSameAs_8 rfl (lv_at hl 1 rfl) ?_
        refine k_get (ci := 1) (C := RX1) (T := TX1) (N := 1) (v := .ref w) hx hb hts (by decide +kernel) hown hK ho rfl 0 (by decide) rfl (hts (.fieldLink RX1 9 RX1 "words" "[J") (by decide +kernel)) rfl dX1_isSameAs_9 ?_
        refine lv_iload_n hx hb dX1_isSameAs_12 rfl (lv_at hl 0 rfl) ?_
        refine k_lald hx hb hK hw (i) rfl (by omega) (by omega) dX1_isSameAs_13 ?_
        refine lv_aload_n hx hb dX1_isSameAs_14 rfl (lv_at hl 2 rfl) ?_
        refine k_get (ci := 1) (C := RX1) (T := TX1) (N := 1) (v := .ref wx) hx hb hts (by decide +kernel) hown hK hox rfl 0 (by decide) rfl (hts (.fieldLink RX1 9 RX1 "words" "[J") (by decide +kernel)) rfl dX1_isSameAs_15 ?_
        refine lv_iload_n hx hb dX1_isSameAs_18 rfl (lv_at hl 0 rfl) ?_
        refine k_lald hx hb hK hwx (i) rfl (by omega) (by omega) dX1_isSameAs_19 ?_
        refine W.lcmp hx hb dX1_isSameAs_20 ?_
        refine lv_if_eq (tgt := 26) hx hb dX1_isSameAs_21 (by decide) (fun c_40 => ?_) (fun c_40 => ?_)
        · skip
          refine lv_iinc (v := nI (i + 1)) (lv' := [(2, .int (nI (i + 1))), (0, .ref a), (1, .ref x)]) hx hb dX1_isSameAs_26 hl (k := 0) rfl (nI_add (i) 1) (by decide) rfl (fun ls hl => ?_)
          refine lv_goto (tgt := 2) hx hb dX1_isSameAs_29 (by decide) ?_
          refine ih (i + 1) (by omega) (by omega) ?_ ls (lv_sub hl [0, 1, 2] rfl)
          intro j hj
          rcases Nat.lt_or_ge j i with q | q
          · exact hv j q
          · rw [show j = i by omega]; exact (lg_cmp_eq _ _).mp c_40
        · skip
          refine lv_iconst (v := b2i false) hx hb dX1_isSameAs_24 (by decide +kernel) ?_
          exact r_zX hx hb hr (by rw [ts_nt (fun q => c_40 ((lg_cmp_eq _ _).mpr (hbb.mp q i (by omega))))]) dX1_isSameAs_25 hlocks
  exact loop 65 0 (by omega) (by omega) (fun j h => by omega) ls (lv_sub hl [0, 1, 2] rfl)
set_option maxHeartbeats 4000000 in
set_option maxRecDepth 100000 in
theorem c_X1_hasAllRemoved (l : Launch) (D : va_G) (g : Nat → ClassId) (H : Heap) (a w : Nat) (f : Nat → Int64) (ho : HA D H a (eO 1 [.ref w])) (hw : HA D H w (eL (g 2) 64 f)) (x wx : Nat) (fx : Nat → Int64) (hox : HA D H x (eO 1 [.ref wx])) (hwx : HA D H wx (eL (g 2) 64 fx)) (y wy : Nat) (fy : Nat → Int64) (hoy : HA D H y (eO 1 [.ref wy])) (hwy : HA D H wy (eL (g 2) 64 fy)) (bb : Bool) (hbb : bb = true ↔ ∀ j, j < 64 → ((fx j) &&& ((fy j) ^^^ (-1))) &&& ((f j) ^^^ (-1)) = 0) : Met l yX1_hasAllRemoved wsX1_hasAllRemoved ({ frames := 0, cells := 0, slots := 0, locals := 0 } : Room) (kPc D g [.ref a, .ref x, .ref y] H) (kX (.int (b2i bb)) H) 0 0 kN := by
  refine Met.ofW (cc := cX1_hasAllRemoved) (maxL := 6) (ret := (some .boolean)) (by decide) rfl ?_
  intro p e s m args below meth c s₁ B hml hv
  obtain ⟨rfl, hH, hK⟩ := hv
  have hx := B.exec
  have hb := B.bytes
  have hr := B.returns
  have hts := atoms_spec (ws := wsX1_hasAllRemoved) B.pre
  have hown : s.vm.findClass RX1 = some m.cls := findClass_of_methodNamed B.named
  have hlocks := B.notSynchronized
  rw [hH]
  have hl := lv_entry ([.ref a, .ref x, .ref y]) (n := 6) (Nat.le_of_ble_eq_true rfl)
  rw [lg_entry_eq]
  generalize (lg_sl ([.ref a, .ref x, .ref y]) ++ List.replicate (6 - (lg_sl ([.ref a, .ref x, .ref y])).length) Slot.unset).toArray = ls at hl ⊢
  have hl : lv_has ls 6 [(0, .ref a), (1, .ref x), (2, .ref y)] := hl
  refine lv_iconst (v := nI 0) hx hb dX1_hasAllRemoved_0 (by decide +kernel) ?_
  refine lv_istore_n (lv' := [(3, .int (nI 0)), (0, .ref a), (1, .ref x), (2, .ref y)]) hx hb dX1_hasAllRemoved_1 rfl hl (by decide) rfl (fun ls hl => ?_)
  have loop : ∀ (n i : Nat), 64 < i + n → i ≤ 64 → (∀ j, j < i → ((fx j) &&& ((fy j) ^^^ (-1))) &&& ((f j) ^^^ (-1)) = 0) → ∀ ls, lv_has ls 6 [(3, .int (nI i)), (0, .ref a), (1, .ref x), (2, .ref y)] → W p l e (headSpec wsX1_hasAllRemoved ({ frames := 0, cells := 0, slots := 0, locals := 0 } : Room)).room s m ([.ref a, .ref x, .ref y] : List Value).toArray below meth c H [] 0 0 (MQ below (kX (.int (b2i bb)) H) ([.ref a, .ref x, .ref y] : List Value).toArray s 0 0 kN) (F0 m 2 ls []) := by
    intro n
    induction n with
    | zero => intro i h0 h1; omega
    | succ n ih =>
      intro i hn hi hv ls hl
      refine lv_iload_n hx hb dX1_hasAllRemoved_2 rfl (lv_at hl 0 rfl) ?_
      refine lv_bipush (v := nI 64) hx hb dX1_hasAllRemoved_3 (by decide +kernel) ?_
      refine n_icmp_ge (tgt := 53) hx hb dX1_hasAllRemoved_5 (by decide) (by omega) (by omega) (fun c_41 => ?_) (fun c_41 => ?_)
      · skip
        refine lv_iconst (v := b2i true) hx hb dX1_hasAllRemoved_53 (by decide +kernel) ?_
        exact r_zX hx hb hr (by rw [hbb.mpr (fun j hj => hv j (by omega))]) dX1_hasAllRemoved_54 hlocks
      · skip
        refine lv_aload_n hx hb dX1_hasAllRemoved_8 rfl (lv_at hl 2 rfl) ?_
        refine k_get (ci := 1) (C := RX1) (T := TX1) (N := 1) (v := .ref wx) hx hb hts (by decide +kernel) hown hK hox rfl 0 (by decide) rfl (hts (.fieldLink RX1 9 RX1 "words" "[J") (by decide +kernel)) rfl dX1_hasAllRemoved_9 ?_
        refine lv_iload_n hx hb dX1_hasAllRemoved_12 rfl (lv_at hl 0 rfl) ?_
        refine k_lald hx hb hK hwx (i) rfl (by omega) (by omega) dX1_hasAllRemoved_13 ?_
        refine lv_aload_n hx hb dX1_hasAllRemoved_14 rfl (lv_at hl 3 rfl) ?_
        refine k_get (ci := 1) (C := RX1) (T := TX1) (N := 1) (v := .ref wy) hx hb hts (by decide +kernel) hown hK hoy rfl 0 (by decide) rfl (hts (.fieldLink RX1 9 RX1 "words" "[J") (by decide +kernel)) rfl dX1_hasAllRemoved_15 ?_
        refine lv_iload_n hx hb dX1_hasAllRemoved_18 rfl (lv_at hl 0 rfl) ?_
        refine k_lald hx hb hK hwy (i) rfl (by omega) (by omega) dX1_hasAllRemoved_19 ?_
        refine lv_ldc2 (v := (-1)) hx hb hown (hts (.constantLong RX1 19 (-1)) (by decide +kernel)) dX1_hasAllRemoved_20 ?_
        refine lv_lxor hx hb dX1_hasAllRemoved_23 ?_
        refine lv_land hx hb dX1_hasAllRemoved_24 ?_
        refine lv_lstore (lv' := [(4, .long ((fx (i)) &&& ((fy (i)) ^^^ ((-1))))), (3, .int (nI i)), (0, .ref a), (1, .ref x), (2, .ref y)]) hx hb dX1_hasAllRemoved_25 hl (by decide) rfl (fun ls hl => ?_)
        refine lv_lload hx hb dX1_hasAllRemoved_27 (lv_at hl 0 rfl) ?_
        refine lv_aload_n hx hb dX1_hasAllRemoved_29 rfl (lv_at hl 2 rfl) ?_
        refine k_get (ci := 1) (C := RX1) (T := TX1) (N := 1) (v := .ref w) hx hb hts (by decide +kernel) hown hK ho rfl 0 (by decide) rfl (hts (.fieldLink RX1 9 RX1 "words" "[J") (by decide +kernel)) rfl dX1_hasAllRemoved_30 ?_
        refine lv_iload_n hx hb dX1_hasAllRemoved_33 rfl (lv_at hl 1 rfl) ?_
        refine k_lald hx hb hK hw (i) rfl (by omega) (by omega) dX1_hasAllRemoved_34 ?_
        refine lv_ldc2 (v := (-1)) hx hb hown (hts (.constantLong RX1 19 (-1)) (by decide +kernel)) dX1_hasAllRemoved_35 ?_
        refine lv_lxor hx hb dX1_hasAllRemoved_38 ?_
        refine lv_land hx hb dX1_hasAllRemoved_39 ?_
        refine lv_lconst (v := 0) hx hb dX1_hasAllRemoved_40 (by decide +kernel) ?_
        refine W.lcmp hx hb dX1_hasAllRemoved_41 ?_
        refine lv_if_eq (tgt := 47) hx hb dX1_hasAllRemoved_42 (by decide) (fun c_42 => ?_) (fun c_42 => ?_)
        · skip
          refine lv_iinc (v := nI (i + 1)) (lv' := [(3, .int (nI (i + 1))), (4, .long ((fx (i)) &&& ((fy (i)) ^^^ ((-1))))), (0, .ref a), (1, .ref x), (2, .ref y)]) hx hb dX1_hasAllRemoved_47 hl (k := 1) rfl (nI_add (i) 1) (by decide) rfl (fun ls hl => ?_)
          refine lv_goto (tgt := 2) hx hb dX1_hasAllRemoved_50 (by decide) ?_
          refine ih (i + 1) (by omega) (by omega) ?_ ls (lv_sub hl [0, 2, 3, 4] rfl)
          intro j hj
          rcases Nat.lt_or_ge j i with q | q
          · exact hv j q
          · rw [show j = i by omega]; exact (lg_cmp_eq _ _).mp c_42
        · skip
          refine lv_iconst (v := b2i false) hx hb dX1_hasAllRemoved_45 (by decide +kernel) ?_
          exact r_zX hx hb hr (by rw [ts_nt (fun q => c_42 ((lg_cmp_eq _ _).mpr (hbb.mp q i (by omega))))]) dX1_hasAllRemoved_46 hlocks
  exact loop 65 0 (by omega) (by omega) (fun j h => by omega) ls (lv_sub hl [0, 1, 2, 3] rfl)
set_option maxHeartbeats 4000000 in
set_option maxRecDepth 100000 in
theorem c_X1_renamed (l : Launch) (D : va_G) (g : Nat → ClassId) (H : Heap) (t q o : Nat) (ht : t < 4096) (hq : q < 16) (ho : o < 16) : Met l yX1_renamed wsX1_renamed ({ frames := 1, cells := 0, slots := 0, locals := 20 } : Room) (kPc D g [.int (nI t), .int (nI q), .int (nI o)] H) (kX (.int (nI (rnT t q o))) H) 0 0 kN := by
  refine Met.ofW (cc := cX1_renamed) (maxL := 6) (ret := (some .int)) (by decide) rfl ?_
  intro p e s m args below meth c s₁ B hml hv
  obtain ⟨rfl, hH, hK⟩ := hv
  have hx := B.exec
  have hb := B.bytes
  have hr := B.returns
  have hts := atoms_spec (ws := wsX1_renamed) B.pre
  have hown : s.vm.findClass RX1 = some m.cls := findClass_of_methodNamed B.named
  have hlocks := B.notSynchronized
  rw [hH]
  have hl := lv_entry ([.int (nI t), .int (nI q), .int (nI o)]) (n := 6) (Nat.le_of_ble_eq_true rfl)
  rw [lg_entry_eq]
  generalize (lg_sl ([.int (nI t), .int (nI q), .int (nI o)]) ++ List.replicate (6 - (lg_sl ([.int (nI t), .int (nI q), .int (nI o)])).length) Slot.unset).toArray = ls at hl ⊢
  have hl : lv_has ls 6 [(0, .int (nI t)), (1, .int (nI q)), (2, .int (nI o))] := hl
  refine lv_iload_n hx hb dX1_renamed_0 rfl (lv_at hl 0 rfl) ?_
  refine k_callX (va_runS (As := [.int (nI t)]) (rest := []) ⟨hx, hb, hml, hown, hts⟩ (c_X1_subject l D g H t ht) (va_cwS 1 hts gX1_renamed_X1_subject rfl rfl rfl (by decide +kernel) ⟨Nat.le_of_ble_eq_true rfl, Nat.le_of_ble_eq_true rfl⟩) ⟨kPc_blind, fun U hU hW => kPc_at hK hU hW⟩ rfl rfl hl.1 rfl (lv_room (Nat.le_of_ble_eq_true rfl)) dX1_renamed_1 ⟨Nat.le_of_ble_eq_true rfl, Nat.le_of_ble_eq_true rfl⟩) ?_
  refine lv_iload_n hx hb dX1_renamed_4 rfl (lv_at hl 1 rfl) ?_
  refine n_icmp_ne (tgt := 12) hx hb dX1_renamed_5 (by decide) (by omega) (by omega) (fun c_43 => ?_) (fun c_43 => ?_)
  · skip
    refine lv_iload_n hx hb dX1_renamed_12 rfl (lv_at hl 0 rfl) ?_
    refine k_callX (va_runS (As := [.int (nI t)]) (rest := []) ⟨hx, hb, hml, hown, hts⟩ (c_X1_subject l D g H t ht) (va_cwS 1 hts gX1_renamed_X1_subject rfl rfl rfl (by decide +kernel) ⟨Nat.le_of_ble_eq_true rfl, Nat.le_of_ble_eq_true rfl⟩) ⟨kPc_blind, fun U hU hW => kPc_at hK hU hW⟩ rfl rfl hl.1 rfl (lv_room (Nat.le_of_ble_eq_true rfl)) dX1_renamed_13 ⟨Nat.le_of_ble_eq_true rfl, Nat.le_of_ble_eq_true rfl⟩) ?_
    refine lv_istore_n (lv' := [(3, .int (nI (t / 256))), (0, .int (nI t)), (1, .int (nI q)), (2, .int (nI o))]) hx hb dX1_renamed_16 rfl hl (by decide) rfl (fun ls hl => ?_)
    refine lv_iload_n hx hb dX1_renamed_17 rfl (lv_at hl 1 rfl) ?_
    refine k_callX (va_runS (As := [.int (nI t)]) (rest := []) ⟨hx, hb, hml, hown, hts⟩ (c_X1_property l D g H t ht) (va_cwS 1 hts gX1_renamed_X1_property rfl rfl rfl (by decide +kernel) ⟨Nat.le_of_ble_eq_true rfl, Nat.le_of_ble_eq_true rfl⟩) ⟨kPc_blind, fun U hU hW => kPc_at hK hU hW⟩ rfl rfl hl.1 rfl (lv_room (Nat.le_of_ble_eq_true rfl)) dX1_renamed_18 ⟨Nat.le_of_ble_eq_true rfl, Nat.le_of_ble_eq_true rfl⟩) ?_
    refine lv_iload_n hx hb dX1_renamed_21 rfl (lv_at hl 2 rfl) ?_
    refine n_icmp_ne (tgt := 29) hx hb dX1_renamed_22 (by decide) (by omega) (by omega) (fun c_44 => ?_) (fun c_44 => ?_)
    · skip
      refine lv_iload_n hx hb dX1_renamed_29 rfl (lv_at hl 1 rfl) ?_
      refine k_callX (va_runS (As := [.int (nI t)]) (rest := []) ⟨hx, hb, hml, hown, hts⟩ (c_X1_property l D g H t ht) (va_cwS 1 hts gX1_renamed_X1_property rfl rfl rfl (by decide +kernel) ⟨Nat.le_of_ble_eq_true rfl, Nat.le_of_ble_eq_true rfl⟩) ⟨kPc_blind, fun U hU hW => kPc_at hK hU hW⟩ rfl rfl hl.1 rfl (lv_room (Nat.le_of_ble_eq_true rfl)) dX1_renamed_30 ⟨Nat.le_of_ble_eq_true rfl, Nat.le_of_ble_eq_true rfl⟩) ?_
      refine lv_istore (lv' := [(4, .int (nI (t / 16 % 16))), (3, .int (nI (t / 256))), (0, .int (nI t)), (1, .int (nI q)), (2, .int (nI o))]) hx hb dX1_renamed_33 hl (by decide) rfl (fun ls hl => ?_)
      refine lv_iload_n hx hb dX1_renamed_35 rfl (lv_at hl 2 rfl) ?_
      refine k_callX (va_runS (As := [.int (nI t)]) (rest := []) ⟨hx, hb, hml, hown, hts⟩ (c_X1_object l D g H t ht) (va_cwS 1 hts gX1_renamed_X1_object rfl rfl rfl (by decide +kernel) ⟨Nat.le_of_ble_eq_true rfl, Nat.le_of_ble_eq_true rfl⟩) ⟨kPc_blind, fun U hU hW => kPc_at hK hU hW⟩ rfl rfl hl.1 rfl (lv_room (Nat.le_of_ble_eq_true rfl)) dX1_renamed_36 ⟨Nat.le_of_ble_eq_true rfl, Nat.le_of_ble_eq_true rfl⟩) ?_
      refine lv_iload_n hx hb dX1_renamed_39 rfl (lv_at hl 3 rfl) ?_
      refine n_icmp_ne (tgt := 47) hx hb dX1_renamed_40 (by decide) (by omega) (by omega) (fun c_45 => ?_) (fun c_45 => ?_)
      · skip
        refine lv_iload_n hx hb dX1_renamed_47 rfl (lv_at hl 2 rfl) ?_
        refine k_callX (va_runS (As := [.int (nI t)]) (rest := []) ⟨hx, hb, hml, hown, hts⟩ (c_X1_object l D g H t ht) (va_cwS 1 hts gX1_renamed_X1_object rfl rfl rfl (by decide +kernel) ⟨Nat.le_of_ble_eq_true rfl, Nat.le_of_ble_eq_true rfl⟩) ⟨kPc_blind, fun U hU hW => kPc_at hK hU hW⟩ rfl rfl hl.1 rfl (lv_room (Nat.le_of_ble_eq_true rfl)) dX1_renamed_48 ⟨Nat.le_of_ble_eq_true rfl, Nat.le_of_ble_eq_true rfl⟩) ?_
        refine lv_istore (lv' := [(5, .int (nI (t % 16))), (4, .int (nI (t / 16 % 16))), (3, .int (nI (t / 256))), (0, .int (nI t)), (1, .int (nI q)), (2, .int (nI o))]) hx hb dX1_renamed_51 hl (by decide) rfl (fun ls hl => ?_)
        refine lv_sipush (v := nI 256) hx hb dX1_renamed_53 (by decide +kernel) ?_
        refine lv_iload_n hx hb dX1_renamed_56 rfl (lv_at hl 2 rfl) ?_
        refine lv_imul hx hb dX1_renamed_57 ?_
        refine lv_topi (nm_r (show (nI 256) * (nI (t / 256)) = nI (256 * (t / 256)) from pk_mul _ _) ?_)
        refine lv_bipush (v := nI 16) hx hb dX1_renamed_58 (by decide +kernel) ?_
        refine lv_iload hx hb dX1_renamed_60 (lv_at hl 1 rfl) ?_
        refine lv_imul hx hb dX1_renamed_62 ?_
        refine lv_topi (nm_r (show (nI 16) * (nI (t / 16 % 16)) = nI (16 * (t / 16 % 16)) from pk_mul _ _) ?_)
        refine lv_iadd hx hb dX1_renamed_63 ?_
        refine lv_topi (nm_r (show (nI (256 * (t / 256))) + (nI (16 * (t / 16 % 16))) = nI (256 * (t / 256) + 16 * (t / 16 % 16)) from nI_add _ _) ?_)
        refine lv_iload hx hb dX1_renamed_64 (lv_at hl 0 rfl) ?_
        refine lv_iadd hx hb dX1_renamed_66 ?_
        refine lv_topi (nm_r (show (nI (256 * (t / 256) + 16 * (t / 16 % 16))) + (nI (t % 16)) = nI (256 * (t / 256) + 16 * (t / 16 % 16) + t % 16) from nI_add _ _) ?_)
        exact r_iX hx hb hr (by unfold rnT; rw [rn_n c_43, rn_n c_44, rn_n c_45]) dX1_renamed_67 hlocks
      · skip
        refine lv_iload_n hx hb dX1_renamed_43 rfl (lv_at hl 4 rfl) ?_
        refine lv_goto (tgt := 51) hx hb dX1_renamed_44 (by decide) ?_
        refine lv_istore (lv' := [(5, .int (nI o)), (4, .int (nI (t / 16 % 16))), (3, .int (nI (t / 256))), (0, .int (nI t)), (1, .int (nI q)), (2, .int (nI o))]) hx hb dX1_renamed_51 hl (by decide) rfl (fun ls hl => ?_)
        refine lv_sipush (v := nI 256) hx hb dX1_renamed_53 (by decide +kernel) ?_
        refine lv_iload_n hx hb dX1_renamed_56 rfl (lv_at hl 2 rfl) ?_
        refine lv_imul hx hb dX1_renamed_57 ?_
        refine lv_topi (nm_r (show (nI 256) * (nI (t / 256)) = nI (256 * (t / 256)) from pk_mul _ _) ?_)
        refine lv_bipush (v := nI 16) hx hb dX1_renamed_58 (by decide +kernel) ?_
        refine lv_iload hx hb dX1_renamed_60 (lv_at hl 1 rfl) ?_
        refine lv_imul hx hb dX1_renamed_62 ?_
        refine lv_topi (nm_r (show (nI 16) * (nI (t / 16 % 16)) = nI (16 * (t / 16 % 16)) from pk_mul _ _) ?_)
        refine lv_iadd hx hb dX1_renamed_63 ?_
        refine lv_topi (nm_r (show (nI (256 * (t / 256))) + (nI (16 * (t / 16 % 16))) = nI (256 * (t / 256) + 16 * (t / 16 % 16)) from nI_add _ _) ?_)
        refine lv_iload hx hb dX1_renamed_64 (lv_at hl 0 rfl) ?_
        refine lv_iadd hx hb dX1_renamed_66 ?_
        refine lv_topi (nm_r (show (nI (256 * (t / 256) + 16 * (t / 16 % 16))) + (nI o) = nI (256 * (t / 256) + 16 * (t / 16 % 16) + o) from nI_add _ _) ?_)
        exact r_iX hx hb hr (by unfold rnT; rw [rn_n c_43, rn_n c_44, rn_y c_45]) dX1_renamed_67 hlocks
    · skip
      refine lv_iload_n hx hb dX1_renamed_25 rfl (lv_at hl 3 rfl) ?_
      refine lv_goto (tgt := 33) hx hb dX1_renamed_26 (by decide) ?_
      refine lv_istore (lv' := [(4, .int (nI o)), (3, .int (nI (t / 256))), (0, .int (nI t)), (1, .int (nI q)), (2, .int (nI o))]) hx hb dX1_renamed_33 hl (by decide) rfl (fun ls hl => ?_)
      refine lv_iload_n hx hb dX1_renamed_35 rfl (lv_at hl 2 rfl) ?_
      refine k_callX (va_runS (As := [.int (nI t)]) (rest := []) ⟨hx, hb, hml, hown, hts⟩ (c_X1_object l D g H t ht) (va_cwS 1 hts gX1_renamed_X1_object rfl rfl rfl (by decide +kernel) ⟨Nat.le_of_ble_eq_true rfl, Nat.le_of_ble_eq_true rfl⟩) ⟨kPc_blind, fun U hU hW => kPc_at hK hU hW⟩ rfl rfl hl.1 rfl (lv_room (Nat.le_of_ble_eq_true rfl)) dX1_renamed_36 ⟨Nat.le_of_ble_eq_true rfl, Nat.le_of_ble_eq_true rfl⟩) ?_
      refine lv_iload_n hx hb dX1_renamed_39 rfl (lv_at hl 3 rfl) ?_
      refine n_icmp_ne (tgt := 47) hx hb dX1_renamed_40 (by decide) (by omega) (by omega) (fun c_46 => ?_) (fun c_46 => ?_)
      · skip
        refine lv_iload_n hx hb dX1_renamed_47 rfl (lv_at hl 2 rfl) ?_
        refine k_callX (va_runS (As := [.int (nI t)]) (rest := []) ⟨hx, hb, hml, hown, hts⟩ (c_X1_object l D g H t ht) (va_cwS 1 hts gX1_renamed_X1_object rfl rfl rfl (by decide +kernel) ⟨Nat.le_of_ble_eq_true rfl, Nat.le_of_ble_eq_true rfl⟩) ⟨kPc_blind, fun U hU hW => kPc_at hK hU hW⟩ rfl rfl hl.1 rfl (lv_room (Nat.le_of_ble_eq_true rfl)) dX1_renamed_48 ⟨Nat.le_of_ble_eq_true rfl, Nat.le_of_ble_eq_true rfl⟩) ?_
        refine lv_istore (lv' := [(5, .int (nI (t % 16))), (4, .int (nI o)), (3, .int (nI (t / 256))), (0, .int (nI t)), (1, .int (nI q)), (2, .int (nI o))]) hx hb dX1_renamed_51 hl (by decide) rfl (fun ls hl => ?_)
        refine lv_sipush (v := nI 256) hx hb dX1_renamed_53 (by decide +kernel) ?_
        refine lv_iload_n hx hb dX1_renamed_56 rfl (lv_at hl 2 rfl) ?_
        refine lv_imul hx hb dX1_renamed_57 ?_
        refine lv_topi (nm_r (show (nI 256) * (nI (t / 256)) = nI (256 * (t / 256)) from pk_mul _ _) ?_)
        refine lv_bipush (v := nI 16) hx hb dX1_renamed_58 (by decide +kernel) ?_
        refine lv_iload hx hb dX1_renamed_60 (lv_at hl 1 rfl) ?_
        refine lv_imul hx hb dX1_renamed_62 ?_
        refine lv_topi (nm_r (show (nI 16) * (nI o) = nI (16 * (o)) from pk_mul _ _) ?_)
        refine lv_iadd hx hb dX1_renamed_63 ?_
        refine lv_topi (nm_r (show (nI (256 * (t / 256))) + (nI (16 * (o))) = nI (256 * (t / 256) + 16 * (o)) from nI_add _ _) ?_)
        refine lv_iload hx hb dX1_renamed_64 (lv_at hl 0 rfl) ?_
        refine lv_iadd hx hb dX1_renamed_66 ?_
        refine lv_topi (nm_r (show (nI (256 * (t / 256) + 16 * (o))) + (nI (t % 16)) = nI (256 * (t / 256) + 16 * (o) + t % 16) from nI_add _ _) ?_)
        exact r_iX hx hb hr (by unfold rnT; rw [rn_n c_43, rn_y c_44, rn_n c_46]) dX1_renamed_67 hlocks
      · skip
        refine lv_iload_n hx hb dX1_renamed_43 rfl (lv_at hl 4 rfl) ?_
        refine lv_goto (tgt := 51) hx hb dX1_renamed_44 (by decide) ?_
        refine lv_istore (lv' := [(5, .int (nI o)), (4, .int (nI o)), (3, .int (nI (t / 256))), (0, .int (nI t)), (1, .int (nI q)), (2, .int (nI o))]) hx hb dX1_renamed_51 hl (by decide) rfl (fun ls hl => ?_)
        refine lv_sipush (v := nI 256) hx hb dX1_renamed_53 (by decide +kernel) ?_
        refine lv_iload_n hx hb dX1_renamed_56 rfl (lv_at hl 2 rfl) ?_
        refine lv_imul hx hb dX1_renamed_57 ?_
        refine lv_topi (nm_r (show (nI 256) * (nI (t / 256)) = nI (256 * (t / 256)) from pk_mul _ _) ?_)
        refine lv_bipush (v := nI 16) hx hb dX1_renamed_58 (by decide +kernel) ?_
        refine lv_iload hx hb dX1_renamed_60 (lv_at hl 1 rfl) ?_
        refine lv_imul hx hb dX1_renamed_62 ?_
        refine lv_topi (nm_r (show (nI 16) * (nI o) = nI (16 * (o)) from pk_mul _ _) ?_)
        refine lv_iadd hx hb dX1_renamed_63 ?_
        refine lv_topi (nm_r (show (nI (256 * (t / 256))) + (nI (16 * (o))) = nI (256 * (t / 256) + 16 * (o)) from nI_add _ _) ?_)
        refine lv_iload hx hb dX1_renamed_64 (lv_at hl 0 rfl) ?_
        refine lv_iadd hx hb dX1_renamed_66 ?_
        refine lv_topi (nm_r (show (nI (256 * (t / 256) + 16 * (o))) + (nI o) = nI (256 * (t / 256) + 16 * (o) + o) from nI_add _ _) ?_)
        exact r_iX hx hb hr (by unfold rnT; rw [rn_n c_43, rn_y c_44, rn_y c_46]) dX1_renamed_67 hlocks
  · skip
    refine lv_iload_n hx hb dX1_renamed_8 rfl (lv_at hl 2 rfl) ?_
    refine lv_goto (tgt := 16) hx hb dX1_renamed_9 (by decide) ?_
    refine lv_istore_n (lv' := [(3, .int (nI o)), (0, .int (nI t)), (1, .int (nI q)), (2, .int (nI o))]) hx hb dX1_renamed_16 rfl hl (by decide) rfl (fun ls hl => ?_)
    refine lv_iload_n hx hb dX1_renamed_17 rfl (lv_at hl 1 rfl) ?_
    refine k_callX (va_runS (As := [.int (nI t)]) (rest := []) ⟨hx, hb, hml, hown, hts⟩ (c_X1_property l D g H t ht) (va_cwS 1 hts gX1_renamed_X1_property rfl rfl rfl (by decide +kernel) ⟨Nat.le_of_ble_eq_true rfl, Nat.le_of_ble_eq_true rfl⟩) ⟨kPc_blind, fun U hU hW => kPc_at hK hU hW⟩ rfl rfl hl.1 rfl (lv_room (Nat.le_of_ble_eq_true rfl)) dX1_renamed_18 ⟨Nat.le_of_ble_eq_true rfl, Nat.le_of_ble_eq_true rfl⟩) ?_
    refine lv_iload_n hx hb dX1_renamed_21 rfl (lv_at hl 2 rfl) ?_
    refine n_icmp_ne (tgt := 29) hx hb dX1_renamed_22 (by decide) (by omega) (by omega) (fun c_47 => ?_) (fun c_47 => ?_)
    · skip
      refine lv_iload_n hx hb dX1_renamed_29 rfl (lv_at hl 1 rfl) ?_
      refine k_callX (va_runS (As := [.int (nI t)]) (rest := []) ⟨hx, hb, hml, hown, hts⟩ (c_X1_property l D g H t ht) (va_cwS 1 hts gX1_renamed_X1_property rfl rfl rfl (by decide +kernel) ⟨Nat.le_of_ble_eq_true rfl, Nat.le_of_ble_eq_true rfl⟩) ⟨kPc_blind, fun U hU hW => kPc_at hK hU hW⟩ rfl rfl hl.1 rfl (lv_room (Nat.le_of_ble_eq_true rfl)) dX1_renamed_30 ⟨Nat.le_of_ble_eq_true rfl, Nat.le_of_ble_eq_true rfl⟩) ?_
      refine lv_istore (lv' := [(4, .int (nI (t / 16 % 16))), (3, .int (nI o)), (0, .int (nI t)), (1, .int (nI q)), (2, .int (nI o))]) hx hb dX1_renamed_33 hl (by decide) rfl (fun ls hl => ?_)
      refine lv_iload_n hx hb dX1_renamed_35 rfl (lv_at hl 2 rfl) ?_
      refine k_callX (va_runS (As := [.int (nI t)]) (rest := []) ⟨hx, hb, hml, hown, hts⟩ (c_X1_object l D g H t ht) (va_cwS 1 hts gX1_renamed_X1_object rfl rfl rfl (by decide +kernel) ⟨Nat.le_of_ble_eq_true rfl, Nat.le_of_ble_eq_true rfl⟩) ⟨kPc_blind, fun U hU hW => kPc_at hK hU hW⟩ rfl rfl hl.1 rfl (lv_room (Nat.le_of_ble_eq_true rfl)) dX1_renamed_36 ⟨Nat.le_of_ble_eq_true rfl, Nat.le_of_ble_eq_true rfl⟩) ?_
      refine lv_iload_n hx hb dX1_renamed_39 rfl (lv_at hl 3 rfl) ?_
      refine n_icmp_ne (tgt := 47) hx hb dX1_renamed_40 (by decide) (by omega) (by omega) (fun c_48 => ?_) (fun c_48 => ?_)
      · skip
        refine lv_iload_n hx hb dX1_renamed_47 rfl (lv_at hl 2 rfl) ?_
        refine k_callX (va_runS (As := [.int (nI t)]) (rest := []) ⟨hx, hb, hml, hown, hts⟩ (c_X1_object l D g H t ht) (va_cwS 1 hts gX1_renamed_X1_object rfl rfl rfl (by decide +kernel) ⟨Nat.le_of_ble_eq_true rfl, Nat.le_of_ble_eq_true rfl⟩) ⟨kPc_blind, fun U hU hW => kPc_at hK hU hW⟩ rfl rfl hl.1 rfl (lv_room (Nat.le_of_ble_eq_true rfl)) dX1_renamed_48 ⟨Nat.le_of_ble_eq_true rfl, Nat.le_of_ble_eq_true rfl⟩) ?_
        refine lv_istore (lv' := [(5, .int (nI (t % 16))), (4, .int (nI (t / 16 % 16))), (3, .int (nI o)), (0, .int (nI t)), (1, .int (nI q)), (2, .int (nI o))]) hx hb dX1_renamed_51 hl (by decide) rfl (fun ls hl => ?_)
        refine lv_sipush (v := nI 256) hx hb dX1_renamed_53 (by decide +kernel) ?_
        refine lv_iload_n hx hb dX1_renamed_56 rfl (lv_at hl 2 rfl) ?_
        refine lv_imul hx hb dX1_renamed_57 ?_
        refine lv_topi (nm_r (show (nI 256) * (nI o) = nI (256 * (o)) from pk_mul _ _) ?_)
        refine lv_bipush (v := nI 16) hx hb dX1_renamed_58 (by decide +kernel) ?_
        refine lv_iload hx hb dX1_renamed_60 (lv_at hl 1 rfl) ?_
        refine lv_imul hx hb dX1_renamed_62 ?_
        refine lv_topi (nm_r (show (nI 16) * (nI (t / 16 % 16)) = nI (16 * (t / 16 % 16)) from pk_mul _ _) ?_)
        refine lv_iadd hx hb dX1_renamed_63 ?_
        refine lv_topi (nm_r (show (nI (256 * (o))) + (nI (16 * (t / 16 % 16))) = nI (256 * (o) + 16 * (t / 16 % 16)) from nI_add _ _) ?_)
        refine lv_iload hx hb dX1_renamed_64 (lv_at hl 0 rfl) ?_
        refine lv_iadd hx hb dX1_renamed_66 ?_
        refine lv_topi (nm_r (show (nI (256 * (o) + 16 * (t / 16 % 16))) + (nI (t % 16)) = nI (256 * (o) + 16 * (t / 16 % 16) + t % 16) from nI_add _ _) ?_)
        exact r_iX hx hb hr (by unfold rnT; rw [rn_y c_43, rn_n c_47, rn_n c_48]) dX1_renamed_67 hlocks
      · skip
        refine lv_iload_n hx hb dX1_renamed_43 rfl (lv_at hl 4 rfl) ?_
        refine lv_goto (tgt := 51) hx hb dX1_renamed_44 (by decide) ?_
        refine lv_istore (lv' := [(5, .int (nI o)), (4, .int (nI (t / 16 % 16))), (3, .int (nI o)), (0, .int (nI t)), (1, .int (nI q)), (2, .int (nI o))]) hx hb dX1_renamed_51 hl (by decide) rfl (fun ls hl => ?_)
        refine lv_sipush (v := nI 256) hx hb dX1_renamed_53 (by decide +kernel) ?_
        refine lv_iload_n hx hb dX1_renamed_56 rfl (lv_at hl 2 rfl) ?_
        refine lv_imul hx hb dX1_renamed_57 ?_
        refine lv_topi (nm_r (show (nI 256) * (nI o) = nI (256 * (o)) from pk_mul _ _) ?_)
        refine lv_bipush (v := nI 16) hx hb dX1_renamed_58 (by decide +kernel) ?_
        refine lv_iload hx hb dX1_renamed_60 (lv_at hl 1 rfl) ?_
        refine lv_imul hx hb dX1_renamed_62 ?_
        refine lv_topi (nm_r (show (nI 16) * (nI (t / 16 % 16)) = nI (16 * (t / 16 % 16)) from pk_mul _ _) ?_)
        refine lv_iadd hx hb dX1_renamed_63 ?_
        refine lv_topi (nm_r (show (nI (256 * (o))) + (nI (16 * (t / 16 % 16))) = nI (256 * (o) + 16 * (t / 16 % 16)) from nI_add _ _) ?_)
        refine lv_iload hx hb dX1_renamed_64 (lv_at hl 0 rfl) ?_
        refine lv_iadd hx hb dX1_renamed_66 ?_
        refine lv_topi (nm_r (show (nI (256 * (o) + 16 * (t / 16 % 16))) + (nI o) = nI (256 * (o) + 16 * (t / 16 % 16) + o) from nI_add _ _) ?_)
        exact r_iX hx hb hr (by unfold rnT; rw [rn_y c_43, rn_n c_47, rn_y c_48]) dX1_renamed_67 hlocks
    · skip
      refine lv_iload_n hx hb dX1_renamed_25 rfl (lv_at hl 3 rfl) ?_
      refine lv_goto (tgt := 33) hx hb dX1_renamed_26 (by decide) ?_
      refine lv_istore (lv' := [(4, .int (nI o)), (3, .int (nI o)), (0, .int (nI t)), (1, .int (nI q)), (2, .int (nI o))]) hx hb dX1_renamed_33 hl (by decide) rfl (fun ls hl => ?_)
      refine lv_iload_n hx hb dX1_renamed_35 rfl (lv_at hl 2 rfl) ?_
      refine k_callX (va_runS (As := [.int (nI t)]) (rest := []) ⟨hx, hb, hml, hown, hts⟩ (c_X1_object l D g H t ht) (va_cwS 1 hts gX1_renamed_X1_object rfl rfl rfl (by decide +kernel) ⟨Nat.le_of_ble_eq_true rfl, Nat.le_of_ble_eq_true rfl⟩) ⟨kPc_blind, fun U hU hW => kPc_at hK hU hW⟩ rfl rfl hl.1 rfl (lv_room (Nat.le_of_ble_eq_true rfl)) dX1_renamed_36 ⟨Nat.le_of_ble_eq_true rfl, Nat.le_of_ble_eq_true rfl⟩) ?_
      refine lv_iload_n hx hb dX1_renamed_39 rfl (lv_at hl 3 rfl) ?_
      refine n_icmp_ne (tgt := 47) hx hb dX1_renamed_40 (by decide) (by omega) (by omega) (fun c_49 => ?_) (fun c_49 => ?_)
      · skip
        refine lv_iload_n hx hb dX1_renamed_47 rfl (lv_at hl 2 rfl) ?_
        refine k_callX (va_runS (As := [.int (nI t)]) (rest := []) ⟨hx, hb, hml, hown, hts⟩ (c_X1_object l D g H t ht) (va_cwS 1 hts gX1_renamed_X1_object rfl rfl rfl (by decide +kernel) ⟨Nat.le_of_ble_eq_true rfl, Nat.le_of_ble_eq_true rfl⟩) ⟨kPc_blind, fun U hU hW => kPc_at hK hU hW⟩ rfl rfl hl.1 rfl (lv_room (Nat.le_of_ble_eq_true rfl)) dX1_renamed_48 ⟨Nat.le_of_ble_eq_true rfl, Nat.le_of_ble_eq_true rfl⟩) ?_
        refine lv_istore (lv' := [(5, .int (nI (t % 16))), (4, .int (nI o)), (3, .int (nI o)), (0, .int (nI t)), (1, .int (nI q)), (2, .int (nI o))]) hx hb dX1_renamed_51 hl (by decide) rfl (fun ls hl => ?_)
        refine lv_sipush (v := nI 256) hx hb dX1_renamed_53 (by decide +kernel) ?_
        refine lv_iload_n hx hb dX1_renamed_56 rfl (lv_at hl 2 rfl) ?_
        refine lv_imul hx hb dX1_renamed_57 ?_
        refine lv_topi (nm_r (show (nI 256) * (nI o) = nI (256 * (o)) from pk_mul _ _) ?_)
        refine lv_bipush (v := nI 16) hx hb dX1_renamed_58 (by decide +kernel) ?_
        refine lv_iload hx hb dX1_renamed_60 (lv_at hl 1 rfl) ?_
        refine lv_imul hx hb dX1_renamed_62 ?_
        refine lv_topi (nm_r (show (nI 16) * (nI o) = nI (16 * (o)) from pk_mul _ _) ?_)
        refine lv_iadd hx hb dX1_renamed_63 ?_
        refine lv_topi (nm_r (show (nI (256 * (o))) + (nI (16 * (o))) = nI (256 * (o) + 16 * (o)) from nI_add _ _) ?_)
        refine lv_iload hx hb dX1_renamed_64 (lv_at hl 0 rfl) ?_
        refine lv_iadd hx hb dX1_renamed_66 ?_
        refine lv_topi (nm_r (show (nI (256 * (o) + 16 * (o))) + (nI (t % 16)) = nI (256 * (o) + 16 * (o) + t % 16) from nI_add _ _) ?_)
        exact r_iX hx hb hr (by unfold rnT; rw [rn_y c_43, rn_y c_47, rn_n c_49]) dX1_renamed_67 hlocks
      · skip
        refine lv_iload_n hx hb dX1_renamed_43 rfl (lv_at hl 4 rfl) ?_
        refine lv_goto (tgt := 51) hx hb dX1_renamed_44 (by decide) ?_
        refine lv_istore (lv' := [(5, .int (nI o)), (4, .int (nI o)), (3, .int (nI o)), (0, .int (nI t)), (1, .int (nI q)), (2, .int (nI o))]) hx hb dX1_renamed_51 hl (by decide) rfl (fun ls hl => ?_)
        refine lv_sipush (v := nI 256) hx hb dX1_renamed_53 (by decide +kernel) ?_
        refine lv_iload_n hx hb dX1_renamed_56 rfl (lv_at hl 2 rfl) ?_
        refine lv_imul hx hb dX1_renamed_57 ?_
        refine lv_topi (nm_r (show (nI 256) * (nI o) = nI (256 * (o)) from pk_mul _ _) ?_)
        refine lv_bipush (v := nI 16) hx hb dX1_renamed_58 (by decide +kernel) ?_
        refine lv_iload hx hb dX1_renamed_60 (lv_at hl 1 rfl) ?_
        refine lv_imul hx hb dX1_renamed_62 ?_
        refine lv_topi (nm_r (show (nI 16) * (nI o) = nI (16 * (o)) from pk_mul _ _) ?_)
        refine lv_iadd hx hb dX1_renamed_63 ?_
        refine lv_topi (nm_r (show (nI (256 * (o))) + (nI (16 * (o))) = nI (256 * (o) + 16 * (o)) from nI_add _ _) ?_)
        refine lv_iload hx hb dX1_renamed_64 (lv_at hl 0 rfl) ?_
        refine lv_iadd hx hb dX1_renamed_66 ?_
        refine lv_topi (nm_r (show (nI (256 * (o) + 16 * (o))) + (nI o) = nI (256 * (o) + 16 * (o) + o) from nI_add _ _) ?_)
        exact r_iX hx hb hr (by unfold rnT; rw [rn_y c_43, rn_y c_47, rn_y c_49]) dX1_renamed_67 hlocks
set_option maxHeartbeats 4000000 in
set_option maxRecDepth 100000 in
theorem c_X1_mentions (l : Launch) (D : va_G) (g : Nat → ClassId) (H : Heap) (a w : Nat) (f : Nat → Int64) (ho : HA D H a (eO 1 [.ref w])) (hw : HA D H w (eL (g 2) 64 f)) (q : Nat) (hq : q < 16) (bb : Bool) (hbb : bb = true ↔ ∃ t, t < 4096 ∧ bt f t = true ∧ pointIn t q) : Met l yX1_mentions wsX1_mentions ({ frames := 2, cells := 0, slots := 0, locals := 41 } : Room) (kPc D g [.ref a, .int (nI q)] H) (kX (.int (b2i bb)) H) 0 0 kN := by
  refine Met.ofW (cc := cX1_mentions) (maxL := 3) (ret := (some .boolean)) (by decide) rfl ?_
  intro p e s m args below meth c s₁ B hml hv
  obtain ⟨rfl, hH, hK⟩ := hv
  have hx := B.exec
  have hb := B.bytes
  have hr := B.returns
  have hts := atoms_spec (ws := wsX1_mentions) B.pre
  have hown : s.vm.findClass RX1 = some m.cls := findClass_of_methodNamed B.named
  have hlocks := B.notSynchronized
  rw [hH]
  have hl := lv_entry ([.ref a, .int (nI q)]) (n := 3) (Nat.le_of_ble_eq_true rfl)
  rw [lg_entry_eq]
  generalize (lg_sl ([.ref a, .int (nI q)]) ++ List.replicate (3 - (lg_sl ([.ref a, .int (nI q)])).length) Slot.unset).toArray = ls at hl ⊢
  have hl : lv_has ls 3 [(0, .ref a), (1, .int (nI q))] := hl
  refine lv_iconst (v := nI 0) hx hb dX1_mentions_0 (by decide +kernel) ?_
  refine lv_istore_n (lv' := [(2, .int (nI 0)), (0, .ref a), (1, .int (nI q))]) hx hb dX1_mentions_1 rfl hl (by decide) rfl (fun ls hl => ?_)
  have loop : ∀ (n i : Nat), 4096 < i + n → i ≤ 4096 → (∀ j, j < i → bt f j = true → ¬ pointIn j q) → ∀ ls, lv_has ls 3 [(2, .int (nI i)), (0, .ref a), (1, .int (nI q))] → W p l e (headSpec wsX1_mentions ({ frames := 2, cells := 0, slots := 0, locals := 41 } : Room)).room s m ([.ref a, .int (nI q)] : List Value).toArray below meth c H [] 0 0 (MQ below (kX (.int (b2i bb)) H) ([.ref a, .int (nI q)] : List Value).toArray s 0 0 kN) (F0 m 2 ls []) := by
    intro n
    induction n with
    | zero => intro i h0 h1; omega
    | succ n ih =>
      intro i hn hi hv ls hl
      refine lv_iload_n hx hb dX1_mentions_2 rfl (lv_at hl 0 rfl) ?_
      refine lv_sipush (v := nI 4096) hx hb dX1_mentions_3 (by decide +kernel) ?_
      refine n_icmp_ge (tgt := 49) hx hb dX1_mentions_6 (by decide) (by omega) (by omega) (fun c_50 => ?_) (fun c_50 => ?_)
      · skip
        refine lv_iconst (v := b2i false) hx hb dX1_mentions_49 (by decide +kernel) ?_
        exact r_zX hx hb hr (by rw [show bb = false from ts_nt (fun z => by obtain ⟨t, h1, h2, h3⟩ := hbb.mp z; exact hv t (by omega) h2 h3)]) dX1_mentions_50 hlocks
      · skip
        refine lv_aload_n hx hb dX1_mentions_9 rfl (lv_at hl 1 rfl) ?_
        refine lv_iload_n hx hb dX1_mentions_10 rfl (lv_at hl 0 rfl) ?_
        refine k_callX (va_runV (As := [.int (nI i)]) (rest := []) ⟨hx, hb, hml, hown, hts⟩ (c_X1_has l D g H a w f ho hw (i) (by omega)) (cwV 1 hts gX1_mentions_X1_has rfl rfl rfl (by decide +kernel) ⟨Nat.le_of_ble_eq_true rfl, Nat.le_of_ble_eq_true rfl⟩) ⟨kPc_blind, k_recv hK ho rfl, fun U hU hW => kPc_at hK hU hW⟩ rfl rfl hl.1 rfl (lv_room (Nat.le_of_ble_eq_true rfl)) dX1_mentions_11 ⟨Nat.le_of_ble_eq_true rfl, Nat.le_of_ble_eq_true rfl⟩) ?_
        refine z_if_eq (tgt := 43) hx hb dX1_mentions_14 (by decide) (fun c_51 => ?_) (fun c_51 => ?_)
        · skip
          refine lv_iinc (v := nI (i + 1)) (lv' := [(2, .int (nI (i + 1))), (0, .ref a), (1, .int (nI q))]) hx hb dX1_mentions_43 hl (k := 0) rfl (nI_add (i) 1) (by decide) rfl (fun ls hl => ?_)
          refine lv_goto (tgt := 2) hx hb dX1_mentions_46 (by decide) ?_
          refine ih (i + 1) (by omega) (by omega) ?_ ls (lv_sub hl [0, 1, 2] rfl)
          intro j hj hb2
          rcases Nat.lt_or_ge j i with z | z
          · exact hv j z hb2
          · rw [show j = i by omega, c_51] at hb2; cases hb2
        · skip
          refine lv_iload_n hx hb dX1_mentions_17 rfl (lv_at hl 0 rfl) ?_
          refine k_callX (va_runS (As := [.int (nI i)]) (rest := []) ⟨hx, hb, hml, hown, hts⟩ (c_X1_subject l D g H i (by omega)) (va_cwS 1 hts gX1_mentions_X1_subject rfl rfl rfl (by decide +kernel) ⟨Nat.le_of_ble_eq_true rfl, Nat.le_of_ble_eq_true rfl⟩) ⟨kPc_blind, fun U hU hW => kPc_at hK hU hW⟩ rfl rfl hl.1 rfl (lv_room (Nat.le_of_ble_eq_true rfl)) dX1_mentions_18 ⟨Nat.le_of_ble_eq_true rfl, Nat.le_of_ble_eq_true rfl⟩) ?_
          refine lv_iload_n hx hb dX1_mentions_21 rfl (lv_at hl 2 rfl) ?_
          refine n_icmp_eq (tgt := 41) hx hb dX1_mentions_22 (by decide) (by omega) (by omega) (fun c_52 => ?_) (fun c_52 => ?_)
          · skip
            refine lv_iconst (v := b2i true) hx hb dX1_mentions_41 (by decide +kernel) ?_
            exact r_zX hx hb hr (by rw [hbb.mpr ⟨i, by omega, c_51, Or.inl c_52⟩]) dX1_mentions_42 hlocks
          · skip
            refine lv_iload_n hx hb dX1_mentions_25 rfl (lv_at hl 0 rfl) ?_
            refine k_callX (va_runS (As := [.int (nI i)]) (rest := []) ⟨hx, hb, hml, hown, hts⟩ (c_X1_property l D g H i (by omega)) (va_cwS 1 hts gX1_mentions_X1_property rfl rfl rfl (by decide +kernel) ⟨Nat.le_of_ble_eq_true rfl, Nat.le_of_ble_eq_true rfl⟩) ⟨kPc_blind, fun U hU hW => kPc_at hK hU hW⟩ rfl rfl hl.1 rfl (lv_room (Nat.le_of_ble_eq_true rfl)) dX1_mentions_26 ⟨Nat.le_of_ble_eq_true rfl, Nat.le_of_ble_eq_true rfl⟩) ?_
            refine lv_iload_n hx hb dX1_mentions_29 rfl (lv_at hl 2 rfl) ?_
            refine n_icmp_eq (tgt := 41) hx hb dX1_mentions_30 (by decide) (by omega) (by omega) (fun c_53 => ?_) (fun c_53 => ?_)
            · skip
              refine lv_iconst (v := b2i true) hx hb dX1_mentions_41 (by decide +kernel) ?_
              exact r_zX hx hb hr (by rw [hbb.mpr ⟨i, by omega, c_51, Or.inr (Or.inl c_53)⟩]) dX1_mentions_42 hlocks
            · skip
              refine lv_iload_n hx hb dX1_mentions_33 rfl (lv_at hl 0 rfl) ?_
              refine k_callX (va_runS (As := [.int (nI i)]) (rest := []) ⟨hx, hb, hml, hown, hts⟩ (c_X1_object l D g H i (by omega)) (va_cwS 1 hts gX1_mentions_X1_object rfl rfl rfl (by decide +kernel) ⟨Nat.le_of_ble_eq_true rfl, Nat.le_of_ble_eq_true rfl⟩) ⟨kPc_blind, fun U hU hW => kPc_at hK hU hW⟩ rfl rfl hl.1 rfl (lv_room (Nat.le_of_ble_eq_true rfl)) dX1_mentions_34 ⟨Nat.le_of_ble_eq_true rfl, Nat.le_of_ble_eq_true rfl⟩) ?_
              refine lv_iload_n hx hb dX1_mentions_37 rfl (lv_at hl 2 rfl) ?_
              refine n_icmp_ne (tgt := 43) hx hb dX1_mentions_38 (by decide) (by omega) (by omega) (fun c_54 => ?_) (fun c_54 => ?_)
              · skip
                refine lv_iinc (v := nI (i + 1)) (lv' := [(2, .int (nI (i + 1))), (0, .ref a), (1, .int (nI q))]) hx hb dX1_mentions_43 hl (k := 0) rfl (nI_add (i) 1) (by decide) rfl (fun ls hl => ?_)
                refine lv_goto (tgt := 2) hx hb dX1_mentions_46 (by decide) ?_
                refine ih (i + 1) (by omega) (by omega) ?_ ls (lv_sub hl [0, 1, 2] rfl)
                intro j hj hb2
                rcases Nat.lt_or_ge j i with z | z
                · exact hv j z hb2
                · rw [show j = i by omega]; exact fun z2 => z2.elim c_52 (fun z3 => z3.elim c_53 c_54)
              · skip
                refine lv_iconst (v := b2i true) hx hb dX1_mentions_41 (by decide +kernel) ?_
                exact r_zX hx hb hr (by rw [hbb.mpr ⟨i, by omega, c_51, Or.inr (Or.inr c_54)⟩]) dX1_mentions_42 hlocks
  exact loop 4097 0 (by omega) (by omega) (fun j h => by omega) ls (lv_sub hl [0, 1, 2] rfl)
set_option maxHeartbeats 4000000 in
set_option maxRecDepth 100000 in
theorem c_X1_becomeRenamed (l : Launch) (D : va_G) (g : Nat → ClassId) (b0 : Nat) (H : Heap) (a w : Nat) (f : Nat → Int64) (ho : HA D H a (eO 1 [.ref w])) (hw : HA D H w (eL (g 2) 64 f)) (hab : b0 ≤ w) (haw : a ≠ w) (x wx : Nat) (fx : Nat → Int64) (hox : HA D H x (eO 1 [.ref wx])) (hwx : HA D H wx (eL (g 2) 64 fx)) (hxw : x ≠ w) (hwxw : wx ≠ w) (q o : Nat) (hq : q < 16) (hoo : o < 16) : Met l yX1_becomeRenamed wsX1_becomeRenamed ({ frames := 2, cells := 0, slots := 0, locals := 45 } : Room) (kPc D g [.ref a, .ref x, .int (nI q), .int (nI o)] H) (kU (fun H1 => ∃ f1 : Nat → Int64, HA D H1 w (eL (g 2) 64 f1) ∧ Chg H H1 w ∧ ∀ u, u < 4096 → (bt f1 u = true ↔ ∃ t, t < 4096 ∧ bt fx t = true ∧ rnT t q o = u))) 0 0 (kF b0) := by
  refine Met.ofW (cc := cX1_becomeRenamed) (maxL := 5) (ret := none) (by decide) rfl ?_
  intro p e s m args below meth c s₁ B hml hv
  obtain ⟨rfl, hH, hK⟩ := hv
  have hx := B.exec
  have hb := B.bytes
  have hr := B.returns
  have hts := atoms_spec (ws := wsX1_becomeRenamed) B.pre
  have hown : s.vm.findClass RX1 = some m.cls := findClass_of_methodNamed B.named
  have hlocks := B.notSynchronized
  rw [hH]
  have hl := lv_entry ([.ref a, .ref x, .int (nI q), .int (nI o)]) (n := 5) (Nat.le_of_ble_eq_true rfl)
  rw [lg_entry_eq]
  generalize (lg_sl ([.ref a, .ref x, .int (nI q), .int (nI o)]) ++ List.replicate (5 - (lg_sl ([.ref a, .ref x, .int (nI q), .int (nI o)])).length) Slot.unset).toArray = ls at hl ⊢
  have hl : lv_has ls 5 [(0, .ref a), (1, .ref x), (2, .int (nI q)), (3, .int (nI o))] := hl
  refine lv_iconst (v := nI 0) hx hb dX1_becomeRenamed_0 (by decide +kernel) ?_
  refine lv_istore (lv' := [(4, .int (nI 0)), (0, .ref a), (1, .ref x), (2, .int (nI q)), (3, .int (nI o))]) hx hb dX1_becomeRenamed_1 hl (by decide) rfl (fun ls hl => ?_)
  have loop2 : ∀ (n i : Nat) (H1 : Heap) (locs1 : List Loc) (f1 : Nat → Int64), 4096 < i + n → i ≤ 4096 → HA D H1 w (eL (g 2) 64 f1) → Chg H H1 w → LB b0 locs1 → (∀ u, u < 4096 → (bt f1 u = true ↔ ∃ t, t < i ∧ bt fx t = true ∧ rnT t q o = u)) → ∀ ls, lv_has ls 5 [(4, .int (nI i)), (0, .ref a), (1, .ref x), (2, .int (nI q)), (3, .int (nI o))] → W p l e (headSpec wsX1_becomeRenamed ({ frames := 2, cells := 0, slots := 0, locals := 45 } : Room)).room s m ([.ref a, .ref x, .int (nI q), .int (nI o)] : List Value).toArray below meth c H1 locs1 0 0 (MQ below (kU (fun H1 => ∃ f1 : Nat → Int64, HA D H1 w (eL (g 2) 64 f1) ∧ Chg H H1 w ∧ ∀ u, u < 4096 → (bt f1 u = true ↔ ∃ t, t < 4096 ∧ bt fx t = true ∧ rnT t q o = u))) ([.ref a, .ref x, .int (nI q), .int (nI o)] : List Value).toArray s 0 0 (kF b0)) (F0 m 27 ls []) := by
    intro n
    induction n with
    | zero => intro i H1 locs1 f1 h0 h1; omega
    | succ n ih =>
      intro i H1 locs1 f1 hn hi hf hC hLB hv ls hl
      have hoa := ho.chg hC haw
      have hob := hox.chg hC hxw
      have hwb := hwx.chg hC hwxw
      refine lv_iload hx hb dX1_becomeRenamed_27 (lv_at hl 0 rfl) ?_
      refine lv_sipush (v := nI 4096) hx hb dX1_becomeRenamed_29 (by decide +kernel) ?_
      refine n_icmp_ge (tgt := 62) hx hb dX1_becomeRenamed_32 (by decide) (by omega) (by omega) (fun c_55 => ?_) (fun c_55 => ?_)
      · skip
        exact r_vU hx hb hr hLB (Nat.le_refl _) (Nat.le_refl _) ⟨f1, hf, hC, fun u hu => (hv u hu).trans ⟨fun ⟨t, h1, h2⟩ => ⟨t, by omega, h2⟩, fun ⟨t, h1, h2⟩ => ⟨t, by omega, h2⟩⟩⟩ dX1_becomeRenamed_62 hlocks
      · skip
        refine lv_aload_n hx hb dX1_becomeRenamed_35 rfl (lv_at hl 2 rfl) ?_
        refine lv_iload hx hb dX1_becomeRenamed_36 (lv_at hl 0 rfl) ?_
        refine k_callX (va_runV (As := [.int (nI i)]) (rest := []) ⟨hx, hb, hml, hown, hts⟩ (c_X1_has l D g H1 x wx fx hob hwb i (by omega)) (cwV 1 hts gX1_becomeRenamed_X1_has rfl rfl rfl (by decide +kernel) ⟨Nat.le_of_ble_eq_true rfl, Nat.le_of_ble_eq_true rfl⟩) ⟨kPc_blind, k_recv hK hob rfl, fun U hU hW => kPc_at hK hU hW⟩ rfl rfl hl.1 rfl (lv_room (Nat.le_of_ble_eq_true rfl)) dX1_becomeRenamed_38 ⟨Nat.le_of_ble_eq_true rfl, Nat.le_of_ble_eq_true rfl⟩) ?_
        refine z_if_eq (tgt := 56) hx hb dX1_becomeRenamed_41 (by decide) (fun c_56 => ?_) (fun c_56 => ?_)
        · skip
          refine lv_iinc (v := nI (i + 1)) (lv' := [(4, .int (nI (i + 1))), (0, .ref a), (1, .ref x), (2, .int (nI q)), (3, .int (nI o))]) hx hb dX1_becomeRenamed_56 hl (k := 0) rfl (nI_add (i) 1) (by decide) rfl (fun ls hl => ?_)
          refine lv_goto (tgt := 27) hx hb dX1_becomeRenamed_59 (by decide) ?_
          refine ih (i + 1) H1 locs1 f1 (by omega) (by omega) hf hC hLB ?_ ls (lv_sub hl [0, 1, 2, 3, 4] rfl)
          intro u hu
          rw [hv u hu]
          constructor
          · rintro ⟨t, h1, h2⟩; exact ⟨t, by omega, h2⟩
          · rintro ⟨t, h1, h2, h3⟩
            rcases Nat.lt_or_ge t i with z | z
            · exact ⟨t, z, h2, h3⟩
            · rw [show t = i by omega, c_56] at h2; cases h2
        · skip
          refine lv_aload_n hx hb dX1_becomeRenamed_44 rfl (lv_at hl 1 rfl) ?_
          refine lv_iload hx hb dX1_becomeRenamed_45 (lv_at hl 0 rfl) ?_
          refine lv_iload_n hx hb dX1_becomeRenamed_47 rfl (lv_at hl 3 rfl) ?_
          refine lv_iload_n hx hb dX1_becomeRenamed_48 rfl (lv_at hl 4 rfl) ?_
          refine k_callX (va_runS (As := [.int (nI i), .int (nI q), .int (nI o)]) (rest := [.ref a]) ⟨hx, hb, hml, hown, hts⟩ (c_X1_renamed l D g H1 i q o (by omega) hq hoo) (va_cwS 3 hts gX1_becomeRenamed_X1_renamed rfl rfl rfl (by decide +kernel) ⟨Nat.le_of_ble_eq_true rfl, Nat.le_of_ble_eq_true rfl⟩) ⟨kPc_blind, fun U hU hW => kPc_at hK hU hW⟩ rfl rfl hl.1 rfl (lv_room (Nat.le_of_ble_eq_true rfl)) dX1_becomeRenamed_49 ⟨Nat.le_of_ble_eq_true rfl, Nat.le_of_ble_eq_true rfl⟩) ?_
          refine lv_iconst (v := b2i true) hx hb dX1_becomeRenamed_52 (by decide +kernel) ?_
          have hrt := rnT_lt (t := i) (p := q) (o := o) (by omega) hoo
          refine k_callU (va_runV (As := [.int (nI (rnT i q o)), .int (b2i true)]) (rest := []) ⟨hx, hb, hml, hown, hts⟩ (c_X1_change l D g b0 H1 a w f1 hoa hf hab (rnT i q o) hrt true) (cwV 2 hts gX1_becomeRenamed_X1_change rfl rfl rfl (by decide +kernel) ⟨Nat.le_of_ble_eq_true rfl, Nat.le_of_ble_eq_true rfl⟩) ⟨kPc_blind, k_recv hK hoa rfl, fun U hU hW => kPc_at hK hU hW⟩ rfl rfl hl.1 rfl (lv_room (Nat.le_of_ble_eq_true rfl)) dX1_becomeRenamed_53 ⟨Nat.le_of_ble_eq_true rfl, Nat.le_of_ble_eq_true rfl⟩) hLB (fun H2 locs2 hLB2 hq2 => ?_)
          obtain ⟨f2, hf2, hC2, hu2⟩ := hq2
          refine lv_iinc (v := nI (i + 1)) (lv' := [(4, .int (nI (i + 1))), (0, .ref a), (1, .ref x), (2, .int (nI q)), (3, .int (nI o))]) hx hb dX1_becomeRenamed_56 hl (k := 0) rfl (nI_add (i) 1) (by decide) rfl (fun ls hl => ?_)
          refine lv_goto (tgt := 27) hx hb dX1_becomeRenamed_59 (by decide) ?_
          refine ih (i + 1) H2 locs2 f2 (by omega) (by omega) hf2 (hC.tr hC2) hLB2 ?_ ls (lv_sub hl [0, 1, 2, 3, 4] rfl)
          intro u hu
          rw [hu2 u]
          by_cases hz : u = rnT i q o
          · rw [if_pos hz]
            exact ⟨fun _ => ⟨i, by omega, c_56, hz.symm⟩, fun _ => rfl⟩
          · rw [if_neg hz, hv u hu]
            constructor
            · rintro ⟨t, h1, h2⟩; exact ⟨t, by omega, h2⟩
            · rintro ⟨t, h1, h2, h3⟩
              rcases Nat.lt_or_ge t i with z | z
              · exact ⟨t, z, h2, h3⟩
              · exact absurd (by rw [← h3, show t = i by omega]) hz
  have loop : ∀ (n i : Nat) (H1 : Heap) (locs1 : List Loc) (f1 : Nat → Int64), 64 < i + n → i ≤ 64 → HA D H1 w (eL (g 2) 64 f1) → Chg H H1 w → LB b0 locs1 → (∀ j, j < i → f1 j = 0) → ∀ ls, lv_has ls 5 [(4, .int (nI i)), (0, .ref a), (1, .ref x), (2, .int (nI q)), (3, .int (nI o))] → W p l e (headSpec wsX1_becomeRenamed ({ frames := 2, cells := 0, slots := 0, locals := 45 } : Room)).room s m ([.ref a, .ref x, .int (nI q), .int (nI o)] : List Value).toArray below meth c H1 locs1 0 0 (MQ below (kU (fun H1 => ∃ f1 : Nat → Int64, HA D H1 w (eL (g 2) 64 f1) ∧ Chg H H1 w ∧ ∀ u, u < 4096 → (bt f1 u = true ↔ ∃ t, t < 4096 ∧ bt fx t = true ∧ rnT t q o = u))) ([.ref a, .ref x, .int (nI q), .int (nI o)] : List Value).toArray s 0 0 (kF b0)) (F0 m 3 ls []) := by
    intro n
    induction n with
    | zero => intro i H1 locs1 f1 h0 h1; omega
    | succ n ih =>
      intro i H1 locs1 f1 hn hi hf hC hLB hv ls hl
      have hoa := ho.chg hC haw
      refine lv_iload hx hb dX1_becomeRenamed_3 (lv_at hl 0 rfl) ?_
      refine lv_bipush (v := nI 64) hx hb dX1_becomeRenamed_5 (by decide +kernel) ?_
      refine n_icmp_ge (tgt := 24) hx hb dX1_becomeRenamed_7 (by decide) (by omega) (by omega) (fun c_57 => ?_) (fun c_57 => ?_)
      · skip
        refine lv_iconst (v := nI 0) hx hb dX1_becomeRenamed_24 (by decide +kernel) ?_
        refine lv_istore (lv' := [(4, .int (nI 0)), (0, .ref a), (1, .ref x), (2, .int (nI q)), (3, .int (nI o))]) hx hb dX1_becomeRenamed_25 hl (by decide) rfl (fun ls hl => ?_)
        exact loop2 4097 0 H1 locs1 f1 (by omega) (by omega) hf hC hLB (fun u hu => ⟨fun h => (by unfold bt at h; rw [hv _ (by omega), w_0] at h; cases h), fun ⟨t, h1, _⟩ => absurd h1 (Nat.not_lt_zero _)⟩) ls (lv_sub hl [0, 1, 2, 3, 4] rfl)
      · skip
        refine lv_aload_n hx hb dX1_becomeRenamed_10 rfl (lv_at hl 1 rfl) ?_
        refine k_get (ci := 1) (C := RX1) (T := TX1) (N := 1) (v := .ref w) hx hb hts (by decide +kernel) hown hK hoa rfl 0 (by decide) rfl (hts (.fieldLink RX1 9 RX1 "words" "[J") (by decide +kernel)) rfl dX1_becomeRenamed_11 ?_
        refine lv_iload hx hb dX1_becomeRenamed_14 (lv_at hl 0 rfl) ?_
        refine lv_lconst (v := 0) hx hb dX1_becomeRenamed_16 (by decide +kernel) ?_
        refine k_last hx hb hK hf hLB hab (i) rfl (by omega) (by omega) dX1_becomeRenamed_17 (fun H_58 locs_59 hw_60 hC_61 hLB_62 => ?_)
        refine lv_iinc (v := nI (i + 1)) (lv' := [(4, .int (nI (i + 1))), (0, .ref a), (1, .ref x), (2, .int (nI q)), (3, .int (nI o))]) hx hb dX1_becomeRenamed_18 hl (k := 0) rfl (nI_add (i) 1) (by decide) rfl (fun ls hl => ?_)
        refine lv_goto (tgt := 3) hx hb dX1_becomeRenamed_21 (by decide) ?_
        refine ih (i + 1) H_58 locs_59 _ (by omega) (by omega) hw_60 (hC.tr hC_61) hLB_62 ?_ ls (lv_sub hl [0, 1, 2, 3, 4] rfl)
        intro j hj
        rcases Nat.lt_or_ge j i with q | q
        · rw [pk_uLn (by omega)]; exact hv j q
        · have e : j = i := by omega
          subst e
          rw [pk_uLs]
  exact loop 65 0 H [] f (by omega) (by omega) hw Chg.rf LB.nil (fun j h => by omega) ls (lv_sub hl [0, 1, 2, 3, 4] rfl)
set_option maxHeartbeats 4000000 in
set_option maxRecDepth 100000 in
theorem c_X1_becomeCopy (l : Launch) (D : va_G) (g : Nat → ClassId) (b0 : Nat) (H : Heap) (a w : Nat) (f : Nat → Int64) (ho : HA D H a (eO 1 [.ref w])) (hw : HA D H w (eL (g 2) 64 f)) (hab : b0 ≤ w) (x wx : Nat) (fx : Nat → Int64) (hox : HA D H x (eO 1 [.ref wx])) (hwx : HA D H wx (eL (g 2) 64 fx)) (hxb : b0 ≤ wx) (hwxw : wx ≠ w) : Met l yX1_becomeCopy wsX1_becomeCopy ({ frames := 1, cells := 0, slots := 0, locals := 40 } : Room) (kPc D g [.ref a, .ref x] H) (kU (fun H1 => ∃ f1 : Nat → Int64, HA D H1 w (eL (g 2) 64 f1) ∧ Chg H H1 w ∧ ∀ j, j < 64 → f1 j = fx j)) 0 0 (kF b0) := by
  refine Met.ofW (cc := cX1_becomeCopy) (maxL := 2) (ret := none) (by decide) rfl ?_
  intro p e s m args below meth c s₁ B hml hv
  obtain ⟨rfl, hH, hK⟩ := hv
  have hx := B.exec
  have hb := B.bytes
  have hr := B.returns
  have hts := atoms_spec (ws := wsX1_becomeCopy) B.pre
  have hown : s.vm.findClass RX1 = some m.cls := findClass_of_methodNamed B.named
  have hlocks := B.notSynchronized
  rw [hH]
  have hl := lv_entry ([.ref a, .ref x]) (n := 2) (Nat.le_of_ble_eq_true rfl)
  rw [lg_entry_eq]
  generalize (lg_sl ([.ref a, .ref x]) ++ List.replicate (2 - (lg_sl ([.ref a, .ref x])).length) Slot.unset).toArray = ls at hl ⊢
  have hl : lv_has ls 2 [(0, .ref a), (1, .ref x)] := hl
  refine lv_aload_n hx hb dX1_becomeCopy_0 rfl (lv_at hl 1 rfl) ?_
  refine k_get (ci := 1) (C := RX1) (T := TX1) (N := 1) (v := .ref wx) hx hb hts (by decide +kernel) hown hK hox rfl 0 (by decide) rfl (hts (.fieldLink RX1 9 RX1 "words" "[J") (by decide +kernel)) rfl dX1_becomeCopy_1 ?_
  refine lv_iconst (v := nI 0) hx hb dX1_becomeCopy_4 (by decide +kernel) ?_
  refine lv_aload_n hx hb dX1_becomeCopy_5 rfl (lv_at hl 0 rfl) ?_
  refine k_get (ci := 1) (C := RX1) (T := TX1) (N := 1) (v := .ref w) hx hb hts (by decide +kernel) hown hK ho rfl 0 (by decide) rfl (hts (.fieldLink RX1 9 RX1 "words" "[J") (by decide +kernel)) rfl dX1_becomeCopy_6 ?_
  refine lv_iconst (v := nI 0) hx hb dX1_becomeCopy_9 (by decide +kernel) ?_
  refine lv_bipush (v := nI 64) hx hb dX1_becomeCopy_10 (by decide +kernel) ?_
  have hP2 : va_P D vwCl [(wx, eL (g 2) 64 fx), (w, eL (g 2) 64 f)] H := va_P.app hwx.one hw.one
  have hD2 : va_D (fun q : Nat => q = wx ∨ q = w) [(wx, eL (g 2) 64 fx), (w, eL (g 2) 64 f)] := by
    refine ⟨?_, ?_⟩
    · intro i j p q hi hj hpq
      match i, j, hi, hj with
      | 0, 0, _, _ => rfl
      | 1, 1, _, _ => rfl
      | 0, 1, hi, hj => cases hi; cases hj; exact absurd hpq hwxw
      | 1, 0, hi, hj => cases hi; cases hj; exact absurd hpq.symm hwxw
      | k + 2, _, hi, _ => cases hi
      | 0, k + 2, _, hj => cases hj
      | 1, k + 2, _, hj => cases hj
    · intro k q hk
      match k, hk with
      | 0, hk => cases hk; exact Or.inl rfl
      | 1, hk => cases hk; exact Or.inr rfl
      | k + 2, hk => cases hk
  refine va_copyl (ty := .long) (A := fun q : Nat => q = wx ∨ q = w) (H0 := H) hx hb (hml.trans hl.1.symm) hown (hts (.methodLink RX1 21 arraycopyName) (by decide +kernel)) (hts (.native arraycopyName) (by decide +kernel)) (hts (.static arraycopyName) (by decide +kernel)) (hts (.initialized "java/lang/System") (by decide +kernel)) hK.1 hP2 hD2 va_S.rf 0 1 2 2 rfl rfl rfl rfl rfl (by decide +kernel) (by decide +kernel) (by decide +kernel) (by decide +kernel) (by decide +kernel) (fun _ _ => rfl) (Nat.le_of_ble_eq_true rfl) (by decide +kernel) dX1_becomeCopy_12 (fun H1 locs1 hP1 _ hS1 => ?_)
  have hwf : HA D H1 w _ := hP1 1 _ rfl
  have hwxf : HA D H1 wx _ := hP1 0 _ rfl
  have hLB1 : LB b0 locs1 := fun q hq => (hS1.2.2 q hq).elim (fun z => by rw [z]; exact hxb) (fun z => by rw [z]; exact hab)
  have hC1 : Chg H H1 w := by
    refine ⟨hS1.1, fun q hl hq => ?_⟩
    by_cases hz : q = wx
    · rw [hz]
      have e1 : H1[wx]? = _ := hwxf
      have e2 : H[wx]? = _ := hwx
      rw [e1, e2]
    · exact hS1.2.1 q hl (fun z => z.elim hz hq)
  exact r_vU hx hb hr hLB1 (Nat.le_refl _) (Nat.le_refl _) ⟨_, hwf, hC1, fun j hj => by rw [pk_cpy_in (by show 0 ≤ j; omega) (by show j < 0 + 64; omega)]; show fx (0 + (j - 0)) = fx j; rw [Nat.zero_add, Nat.sub_zero]⟩ dX1_becomeCopy_15 hlocks
end
section
/-! 08: leaves: counts, keys (laid by wip/gen/leaf3.py) -/
set_option maxHeartbeats 4000000 in
set_option maxRecDepth 100000 in
/-- Long.bitCount: some int -/
theorem c_J13_bitCount_w (l : Launch) (D : va_G) (g : Nat → ClassId) (H : Heap) (x : Int64) : Met l yJ13_bitCount_95d88 wsJ13_bitCount_95d88 ({ frames := 0, cells := 0, slots := 0, locals := 0 } : Room) (kPc D g [.long (x)] H) (kS (fun _ => True) H) 0 0 kN := by
  refine Met.ofW (cc := cJ13_bitCount_95d88) (maxL := 2) (ret := (some .int)) (by decide) rfl ?_
  intro p e s m args below meth c s₁ B hml hv
  obtain ⟨rfl, hH, hK⟩ := hv
  have hx := B.exec
  have hb := B.bytes
  have hr := B.returns
  have hts := atoms_spec (ws := wsJ13_bitCount_95d88) B.pre
  have hlocks := B.notSynchronized
  rw [hH]
  have hl := lv_entry ([.long (x)]) (n := 2) (Nat.le_of_ble_eq_true rfl)
  rw [lg_entry_eq]
  generalize (lg_sl ([.long (x)]) ++ List.replicate (2 - (lg_sl ([.long (x)])).length) Slot.unset).toArray = ls at hl ⊢
  have hl : lv_has ls 2 [(0, .long (x))] := hl
  have hown : s.vm.findClass RJ13 = some m.cls := findClass_of_methodNamed B.named
  refine lv_lload_n hx hb dJ13_bitCount_95d88_0 rfl (lv_at hl 0 rfl) ?_
  refine lv_lload_n hx hb dJ13_bitCount_95d88_1 rfl (lv_at hl 0 rfl) ?_
  refine lv_iconst (v := nI 1) hx hb dJ13_bitCount_95d88_2 (by decide +kernel) ?_
  refine lv_lushr (v := ((x).toUInt64 >>> ((nI 1).toInt64.toUInt64 &&& Int64.toUInt64 63)).toInt64) hx hb dJ13_bitCount_95d88_3 rfl ?_
  refine lv_ldc2 (v := (6148914691236517205)) hx hb hown (hts (.constantLong RJ13 314 (6148914691236517205)) (by decide +kernel)) dJ13_bitCount_95d88_4 ?_
  refine lv_land hx hb dJ13_bitCount_95d88_7 ?_
  refine lv_lsub hx hb dJ13_bitCount_95d88_8 ?_
  refine lv_topl (fun x_63 _ => ?_)
  refine lv_lstore_n (lv' := [(0, .long (x_63))]) hx hb dJ13_bitCount_95d88_9 rfl hl (by decide) rfl (fun ls hl => ?_)
  refine lv_lload_n hx hb dJ13_bitCount_95d88_10 rfl (lv_at hl 0 rfl) ?_
  refine lv_ldc2 (v := (3689348814741910323)) hx hb hown (hts (.constantLong RJ13 316 (3689348814741910323)) (by decide +kernel)) dJ13_bitCount_95d88_11 ?_
  refine lv_land hx hb dJ13_bitCount_95d88_14 ?_
  refine lv_lload_n hx hb dJ13_bitCount_95d88_15 rfl (lv_at hl 0 rfl) ?_
  refine lv_iconst (v := nI 2) hx hb dJ13_bitCount_95d88_16 (by decide +kernel) ?_
  refine lv_lushr (v := ((x_63).toUInt64 >>> ((nI 2).toInt64.toUInt64 &&& Int64.toUInt64 63)).toInt64) hx hb dJ13_bitCount_95d88_17 rfl ?_
  refine lv_ldc2 (v := (3689348814741910323)) hx hb hown (hts (.constantLong RJ13 316 (3689348814741910323)) (by decide +kernel)) dJ13_bitCount_95d88_18 ?_
  refine lv_land hx hb dJ13_bitCount_95d88_21 ?_
  refine lv_ladd hx hb dJ13_bitCount_95d88_22 ?_
  refine lv_topl (fun x_64 _ => ?_)
  refine lv_lstore_n (lv' := [(0, .long (x_64))]) hx hb dJ13_bitCount_95d88_23 rfl hl (by decide) rfl (fun ls hl => ?_)
  refine lv_lload_n hx hb dJ13_bitCount_95d88_24 rfl (lv_at hl 0 rfl) ?_
  refine lv_lload_n hx hb dJ13_bitCount_95d88_25 rfl (lv_at hl 0 rfl) ?_
  refine lv_iconst (v := nI 4) hx hb dJ13_bitCount_95d88_26 (by decide +kernel) ?_
  refine lv_lushr (v := ((x_64).toUInt64 >>> ((nI 4).toInt64.toUInt64 &&& Int64.toUInt64 63)).toInt64) hx hb dJ13_bitCount_95d88_27 rfl ?_
  refine lv_ladd hx hb dJ13_bitCount_95d88_28 ?_
  refine lv_ldc2 (v := (1085102592571150095)) hx hb hown (hts (.constantLong RJ13 318 (1085102592571150095)) (by decide +kernel)) dJ13_bitCount_95d88_29 ?_
  refine lv_land hx hb dJ13_bitCount_95d88_32 ?_
  refine lv_topl (fun x_65 _ => ?_)
  refine lv_lstore_n (lv' := [(0, .long (x_65))]) hx hb dJ13_bitCount_95d88_33 rfl hl (by decide) rfl (fun ls hl => ?_)
  refine lv_lload_n hx hb dJ13_bitCount_95d88_34 rfl (lv_at hl 0 rfl) ?_
  refine lv_lload_n hx hb dJ13_bitCount_95d88_35 rfl (lv_at hl 0 rfl) ?_
  refine lv_bipush (v := nI 8) hx hb dJ13_bitCount_95d88_36 (by decide +kernel) ?_
  refine lv_lushr (v := ((x_65).toUInt64 >>> ((nI 8).toInt64.toUInt64 &&& Int64.toUInt64 63)).toInt64) hx hb dJ13_bitCount_95d88_38 rfl ?_
  refine lv_ladd hx hb dJ13_bitCount_95d88_39 ?_
  refine lv_topl (fun x_66 _ => ?_)
  refine lv_lstore_n (lv' := [(0, .long (x_66))]) hx hb dJ13_bitCount_95d88_40 rfl hl (by decide) rfl (fun ls hl => ?_)
  refine lv_lload_n hx hb dJ13_bitCount_95d88_41 rfl (lv_at hl 0 rfl) ?_
  refine lv_lload_n hx hb dJ13_bitCount_95d88_42 rfl (lv_at hl 0 rfl) ?_
  refine lv_bipush (v := nI 16) hx hb dJ13_bitCount_95d88_43 (by decide +kernel) ?_
  refine lv_lushr (v := ((x_66).toUInt64 >>> ((nI 16).toInt64.toUInt64 &&& Int64.toUInt64 63)).toInt64) hx hb dJ13_bitCount_95d88_45 rfl ?_
  refine lv_ladd hx hb dJ13_bitCount_95d88_46 ?_
  refine lv_topl (fun x_67 _ => ?_)
  refine lv_lstore_n (lv' := [(0, .long (x_67))]) hx hb dJ13_bitCount_95d88_47 rfl hl (by decide) rfl (fun ls hl => ?_)
  refine lv_lload_n hx hb dJ13_bitCount_95d88_48 rfl (lv_at hl 0 rfl) ?_
  refine lv_lload_n hx hb dJ13_bitCount_95d88_49 rfl (lv_at hl 0 rfl) ?_
  refine lv_bipush (v := nI 32) hx hb dJ13_bitCount_95d88_50 (by decide +kernel) ?_
  refine lv_lushr (v := ((x_67).toUInt64 >>> ((nI 32).toInt64.toUInt64 &&& Int64.toUInt64 63)).toInt64) hx hb dJ13_bitCount_95d88_52 rfl ?_
  refine lv_ladd hx hb dJ13_bitCount_95d88_53 ?_
  refine lv_topl (fun x_68 _ => ?_)
  refine lv_lstore_n (lv' := [(0, .long (x_68))]) hx hb dJ13_bitCount_95d88_54 rfl hl (by decide) rfl (fun ls hl => ?_)
  refine lv_lload_n hx hb dJ13_bitCount_95d88_55 rfl (lv_at hl 0 rfl) ?_
  refine lv_l2i (v := (x_68).toInt32) hx hb dJ13_bitCount_95d88_56 rfl ?_
  refine lv_bipush (v := nI 127) hx hb dJ13_bitCount_95d88_57 (by decide +kernel) ?_
  refine lv_iand hx hb dJ13_bitCount_95d88_59 ?_
  exact r_iS hx hb hr trivial dJ13_bitCount_95d88_60 hlocks
set_option maxHeartbeats 4000000 in
set_option maxRecDepth 100000 in
/-- isCrowded(key) -/
theorem c_X1_isCrowded (l : Launch) (D : va_G) (g : Nat → ClassId) (H : Heap) (a w : Nat) (f : Nat → Int64) (ho : HA D H a (eO 1 [.ref w])) (hw : HA D H w (eL (g 2) 64 f)) (k : Nat) (hk : k < 256) : Met l yX1_isCrowded wsX1_isCrowded ({ frames := 2, cells := 0, slots := 0, locals := 41 } : Room) (kPc D g [.ref a, .int (nI k)] H) (kX (.int (b2i (crowd (bt f) k))) H) 0 0 kN := by
  refine Met.ofW (cc := cX1_isCrowded) (maxL := 4) (ret := (some .boolean)) (by decide) rfl ?_
  intro p e s m args below meth c s₁ B hml hv
  obtain ⟨rfl, hH, hK⟩ := hv
  have hx := B.exec
  have hb := B.bytes
  have hr := B.returns
  have hts := atoms_spec (ws := wsX1_isCrowded) B.pre
  have hown : s.vm.findClass RX1 = some m.cls := findClass_of_methodNamed B.named
  have hlocks := B.notSynchronized
  rw [hH]
  have hl := lv_entry ([.ref a, .int (nI k)]) (n := 4) (Nat.le_of_ble_eq_true rfl)
  rw [lg_entry_eq]
  generalize (lg_sl ([.ref a, .int (nI k)]) ++ List.replicate (4 - (lg_sl ([.ref a, .int (nI k)])).length) Slot.unset).toArray = ls at hl ⊢
  have hl : lv_has ls 4 [(0, .ref a), (1, .int (nI k))] := hl
  refine lv_iload_n hx hb dX1_isCrowded_0 rfl (lv_at hl 1 rfl) ?_
  refine lv_bipush (v := nI 15) hx hb dX1_isCrowded_1 (by decide +kernel) ?_
  refine lv_iand hx hb dX1_isCrowded_3 ?_
  refine lv_topi (nm_r (show (nI k) &&& (nI 15) = nI (k % 16) from pk_andN (by omega) 4 (by decide +kernel)) ?_)
  refine lv_bipush (v := nI 12) hx hb dX1_isCrowded_4 (by decide +kernel) ?_
  refine n_icmp_ge (tgt := 11) hx hb dX1_isCrowded_6 (by decide) (by omega) (by omega) (fun c_69 => ?_) (fun c_69 => ?_)
  · skip
    refine lv_iconst (v := nI 0) hx hb dX1_isCrowded_11 (by decide +kernel) ?_
    refine lv_istore_n (lv' := [(2, .int (nI 0)), (0, .ref a), (1, .int (nI k))]) hx hb dX1_isCrowded_12 rfl hl (by decide) rfl (fun ls hl => ?_)
    refine lv_iconst (v := nI 0) hx hb dX1_isCrowded_13 (by decide +kernel) ?_
    refine lv_istore_n (lv' := [(3, .int (nI 0)), (2, .int (nI 0)), (0, .ref a), (1, .int (nI k))]) hx hb dX1_isCrowded_14 rfl hl (by decide) rfl (fun ls hl => ?_)
    have loop : ∀ (n i : Nat), 16 < i + n → i ≤ 16 → ∀ ls, lv_has ls 4 [(3, .int (nI i)), (2, .int (nI (cnt (fun o => bt f (16 * k + o)) i))), (0, .ref a), (1, .int (nI k))] → W p l e (headSpec wsX1_isCrowded ({ frames := 2, cells := 0, slots := 0, locals := 41 } : Room)).room s m ([.ref a, .int (nI k)] : List Value).toArray below meth c H [] 0 0 (MQ below (kX (.int (b2i (crowd (bt f) k))) H) ([.ref a, .int (nI k)] : List Value).toArray s 0 0 kN) (F0 m 15 ls []) := by
      intro n
      induction n with
      | zero => intro i h0 h1; omega
      | succ n ih =>
        intro i hn hi ls hl
        have hcl := cnt_le (fun o => bt f (16 * k + o)) i
        refine lv_iload_n hx hb dX1_isCrowded_15 rfl (lv_at hl 0 rfl) ?_
        refine lv_bipush (v := nI 16) hx hb dX1_isCrowded_16 (by decide +kernel) ?_
        refine n_icmp_ge (tgt := 43) hx hb dX1_isCrowded_18 (by decide) (by omega) (by omega) (fun c_70 => ?_) (fun c_70 => ?_)
        · skip
          refine lv_iload_n hx hb dX1_isCrowded_43 rfl (lv_at hl 1 rfl) ?_
          refine lv_iconst (v := nI 2) hx hb dX1_isCrowded_44 (by decide +kernel) ?_
          refine n_icmp_lt (tgt := 52) hx hb dX1_isCrowded_45 (by decide) (by omega) (by omega) (fun c_71 => ?_) (fun c_71 => ?_)
          · skip
            refine lv_iconst (v := b2i false) hx hb dX1_isCrowded_52 (by decide +kernel) ?_
            exact r_zX hx hb hr (by rw [crowd_no2 (show i = 16 by omega) c_71]) dX1_isCrowded_53 hlocks
          · skip
            refine lv_iconst (v := b2i true) hx hb dX1_isCrowded_48 (by decide +kernel) ?_
            refine lv_goto (tgt := 53) hx hb dX1_isCrowded_49 (by decide) ?_
            exact r_zX hx hb hr (by rw [crowd_yes (show i = 16 by omega) c_69 c_71]) dX1_isCrowded_53 hlocks
        · skip
          refine lv_aload_n hx hb dX1_isCrowded_21 rfl (lv_at hl 2 rfl) ?_
          refine lv_bipush (v := nI 16) hx hb dX1_isCrowded_22 (by decide +kernel) ?_
          refine lv_iload_n hx hb dX1_isCrowded_24 rfl (lv_at hl 3 rfl) ?_
          refine lv_imul hx hb dX1_isCrowded_25 ?_
          refine lv_topi (nm_r (show (nI 16) * (nI k) = nI (16 * (k)) from pk_mul _ _) ?_)
          refine lv_iload_n hx hb dX1_isCrowded_26 rfl (lv_at hl 0 rfl) ?_
          refine lv_iadd hx hb dX1_isCrowded_27 ?_
          refine lv_topi (nm_r (show (nI (16 * (k))) + (nI i) = nI (16 * (k) + i) from nI_add _ _) ?_)
          refine k_callX (va_runV (As := [.int (nI (16 * (k) + i))]) (rest := []) ⟨hx, hb, hml, hown, hts⟩ (c_X1_has l D g H a w f ho hw (16 * (k) + i) (by omega)) (cwV 1 hts gX1_isCrowded_X1_has rfl rfl rfl (by decide +kernel) ⟨Nat.le_of_ble_eq_true rfl, Nat.le_of_ble_eq_true rfl⟩) ⟨kPc_blind, k_recv hK ho rfl, fun U hU hW => kPc_at hK hU hW⟩ rfl rfl hl.1 rfl (lv_room (Nat.le_of_ble_eq_true rfl)) dX1_isCrowded_28 ⟨Nat.le_of_ble_eq_true rfl, Nat.le_of_ble_eq_true rfl⟩) ?_
          refine z_if_eq (tgt := 37) hx hb dX1_isCrowded_31 (by decide) (fun c_72 => ?_) (fun c_72 => ?_)
          · skip
            refine lv_iinc (v := nI (i + 1)) (lv' := [(3, .int (nI (i + 1))), (2, .int (nI (cnt (fun o => bt f (16 * k + o)) i))), (0, .ref a), (1, .int (nI k))]) hx hb dX1_isCrowded_37 hl (k := 0) rfl (nI_add (i) 1) (by decide) rfl (fun ls hl => ?_)
            refine lv_goto (tgt := 15) hx hb dX1_isCrowded_40 (by decide) ?_
            have e := cnt_f (p := fun o => bt f (16 * k + o)) (n := i) c_72
            have hl2 := (lv_sub hl [0, 1, 2, 3] rfl)
            exact ih (i + 1) (by omega) (by omega) ls (by rw [e]; exact hl2)
          · skip
            refine lv_iinc (v := nI (cnt (fun o => bt f (16 * k + o)) i + 1)) (lv' := [(2, .int (nI (cnt (fun o => bt f (16 * k + o)) i + 1))), (3, .int (nI i)), (0, .ref a), (1, .int (nI k))]) hx hb dX1_isCrowded_34 hl (k := 1) rfl (nI_add (cnt (fun o => bt f (16 * k + o)) i) 1) (by decide) rfl (fun ls hl => ?_)
            refine lv_iinc (v := nI (i + 1)) (lv' := [(3, .int (nI (i + 1))), (2, .int (nI (cnt (fun o => bt f (16 * k + o)) i + 1))), (0, .ref a), (1, .int (nI k))]) hx hb dX1_isCrowded_37 hl (k := 1) rfl (nI_add (i) 1) (by decide) rfl (fun ls hl => ?_)
            refine lv_goto (tgt := 15) hx hb dX1_isCrowded_40 (by decide) ?_
            have e := cnt_t (p := fun o => bt f (16 * k + o)) (n := i) c_72
            have hl2 := (lv_sub hl [0, 1, 2, 3] rfl)
            exact ih (i + 1) (by omega) (by omega) ls (by rw [e]; exact hl2)
    exact loop 17 0 (by omega) (by omega) ls (lv_sub hl [0, 1, 2, 3] rfl)
  · skip
    refine lv_iconst (v := b2i false) hx hb dX1_isCrowded_9 (by decide +kernel) ?_
    exact r_zX hx hb hr (by rw [crowd_no1 c_69]) dX1_isCrowded_10 hlocks
set_option maxHeartbeats 4000000 in
set_option maxRecDepth 100000 in
/-- crowdedKeys() -/
theorem c_X1_crowdedKeys (l : Launch) (D : va_G) (g : Nat → ClassId) (H : Heap) (a w : Nat) (f : Nat → Int64) (ho : HA D H a (eO 1 [.ref w])) (hw : HA D H w (eL (g 2) 64 f)) : Met l yX1_crowdedKeys wsX1_crowdedKeys ({ frames := 3, cells := 0, slots := 0, locals := 64 } : Room) (kPc D g [.ref a] H) (kX (.int (nI (cnt (crowd (bt f)) 256))) H) 0 0 kN := by
  refine Met.ofW (cc := cX1_crowdedKeys) (maxL := 3) (ret := (some .int)) (by decide) rfl ?_
  intro p e s m args below meth c s₁ B hml hv
  obtain ⟨rfl, hH, hK⟩ := hv
  have hx := B.exec
  have hb := B.bytes
  have hr := B.returns
  have hts := atoms_spec (ws := wsX1_crowdedKeys) B.pre
  have hown : s.vm.findClass RX1 = some m.cls := findClass_of_methodNamed B.named
  have hlocks := B.notSynchronized
  rw [hH]
  have hl := lv_entry ([.ref a]) (n := 3) (Nat.le_of_ble_eq_true rfl)
  rw [lg_entry_eq]
  generalize (lg_sl ([.ref a]) ++ List.replicate (3 - (lg_sl ([.ref a])).length) Slot.unset).toArray = ls at hl ⊢
  have hl : lv_has ls 3 [(0, .ref a)] := hl
  refine lv_iconst (v := nI 0) hx hb dX1_crowdedKeys_0 (by decide +kernel) ?_
  refine lv_istore_n (lv' := [(1, .int (nI 0)), (0, .ref a)]) hx hb dX1_crowdedKeys_1 rfl hl (by decide) rfl (fun ls hl => ?_)
  refine lv_iconst (v := nI 0) hx hb dX1_crowdedKeys_2 (by decide +kernel) ?_
  refine lv_istore_n (lv' := [(2, .int (nI 0)), (1, .int (nI 0)), (0, .ref a)]) hx hb dX1_crowdedKeys_3 rfl hl (by decide) rfl (fun ls hl => ?_)
  have loop : ∀ (n i : Nat), 256 < i + n → i ≤ 256 → ∀ ls, lv_has ls 3 [(2, .int (nI i)), (1, .int (nI (cnt (crowd (bt f)) i))), (0, .ref a)] → W p l e (headSpec wsX1_crowdedKeys ({ frames := 3, cells := 0, slots := 0, locals := 64 } : Room)).room s m ([.ref a] : List Value).toArray below meth c H [] 0 0 (MQ below (kX (.int (nI (cnt (crowd (bt f)) 256))) H) ([.ref a] : List Value).toArray s 0 0 kN) (F0 m 4 ls []) := by
    intro n
    induction n with
    | zero => intro i h0 h1; omega
    | succ n ih =>
      intro i hn hi ls hl
      have hcl := cnt_le (crowd (bt f)) i
      refine lv_iload_n hx hb dX1_crowdedKeys_4 rfl (lv_at hl 0 rfl) ?_
      refine lv_sipush (v := nI 256) hx hb dX1_crowdedKeys_5 (by decide +kernel) ?_
      refine n_icmp_ge (tgt := 28) hx hb dX1_crowdedKeys_8 (by decide) (by omega) (by omega) (fun c_73 => ?_) (fun c_73 => ?_)
      · skip
        refine lv_iload_n hx hb dX1_crowdedKeys_28 rfl (lv_at hl 1 rfl) ?_
        exact r_iX hx hb hr (by rw [show i = 256 by omega]) dX1_crowdedKeys_29 hlocks
      · skip
        refine lv_aload_n hx hb dX1_crowdedKeys_11 rfl (lv_at hl 2 rfl) ?_
        refine lv_iload_n hx hb dX1_crowdedKeys_12 rfl (lv_at hl 0 rfl) ?_
        refine k_callX (va_runV (As := [.int (nI i)]) (rest := []) ⟨hx, hb, hml, hown, hts⟩ (c_X1_isCrowded l D g H a w f ho hw i (by omega)) (cwV 1 hts gX1_crowdedKeys_X1_isCrowded rfl rfl rfl (by decide +kernel) ⟨Nat.le_of_ble_eq_true rfl, Nat.le_of_ble_eq_true rfl⟩) ⟨kPc_blind, k_recv hK ho rfl, fun U hU hW => kPc_at hK hU hW⟩ rfl rfl hl.1 rfl (lv_room (Nat.le_of_ble_eq_true rfl)) dX1_crowdedKeys_13 ⟨Nat.le_of_ble_eq_true rfl, Nat.le_of_ble_eq_true rfl⟩) ?_
        refine z_if_eq (tgt := 22) hx hb dX1_crowdedKeys_16 (by decide) (fun c_74 => ?_) (fun c_74 => ?_)
        · skip
          refine lv_iinc (v := nI (i + 1)) (lv' := [(2, .int (nI (i + 1))), (1, .int (nI (cnt (crowd (bt f)) i))), (0, .ref a)]) hx hb dX1_crowdedKeys_22 hl (k := 0) rfl (nI_add (i) 1) (by decide) rfl (fun ls hl => ?_)
          refine lv_goto (tgt := 4) hx hb dX1_crowdedKeys_25 (by decide) ?_
          have e := cnt_f (p := crowd (bt f)) (n := i) c_74
          have hl2 := (lv_sub hl [0, 1, 2] rfl)
          exact ih (i + 1) (by omega) (by omega) ls (by rw [e]; exact hl2)
        · skip
          refine lv_iinc (v := nI (cnt (crowd (bt f)) i + 1)) (lv' := [(1, .int (nI (cnt (crowd (bt f)) i + 1))), (2, .int (nI i)), (0, .ref a)]) hx hb dX1_crowdedKeys_19 hl (k := 1) rfl (nI_add (cnt (crowd (bt f)) i) 1) (by decide) rfl (fun ls hl => ?_)
          refine lv_iinc (v := nI (i + 1)) (lv' := [(2, .int (nI (i + 1))), (1, .int (nI (cnt (crowd (bt f)) i + 1))), (0, .ref a)]) hx hb dX1_crowdedKeys_22 hl (k := 1) rfl (nI_add (i) 1) (by decide) rfl (fun ls hl => ?_)
          refine lv_goto (tgt := 4) hx hb dX1_crowdedKeys_25 (by decide) ?_
          have e := cnt_t (p := crowd (bt f)) (n := i) c_74
          have hl2 := (lv_sub hl [0, 1, 2] rfl)
          exact ih (i + 1) (by omega) (by omega) ls (by rw [e]; exact hl2)
  exact loop 257 0 (by omega) (by omega) ls (lv_sub hl [0, 1, 2] rfl)
set_option maxHeartbeats 4000000 in
set_option maxRecDepth 100000 in
/-- crowdedKey(i) -/
theorem c_X1_crowdedKey (l : Launch) (D : va_G) (g : Nat → ClassId) (H : Heap) (a w : Nat) (f : Nat → Int64) (ho : HA D H a (eO 1 [.ref w])) (hw : HA D H w (eL (g 2) 64 f)) (ix : Int32) : Met l yX1_crowdedKey wsX1_crowdedKey ({ frames := 3, cells := 0, slots := 0, locals := 64 } : Room) (kPc D g [.ref a, .int (ix)] H) (kS (Nth (crowd (bt f)) 256 ix) H) 0 0 kN := by
  refine Met.ofW (cc := cX1_crowdedKey) (maxL := 4) (ret := (some .int)) (by decide) rfl ?_
  intro p e s m args below meth c s₁ B hml hv
  obtain ⟨rfl, hH, hK⟩ := hv
  have hx := B.exec
  have hb := B.bytes
  have hr := B.returns
  have hts := atoms_spec (ws := wsX1_crowdedKey) B.pre
  have hown : s.vm.findClass RX1 = some m.cls := findClass_of_methodNamed B.named
  have hlocks := B.notSynchronized
  rw [hH]
  have hl := lv_entry ([.ref a, .int (ix)]) (n := 4) (Nat.le_of_ble_eq_true rfl)
  rw [lg_entry_eq]
  generalize (lg_sl ([.ref a, .int (ix)]) ++ List.replicate (4 - (lg_sl ([.ref a, .int (ix)])).length) Slot.unset).toArray = ls at hl ⊢
  have hl : lv_has ls 4 [(0, .ref a), (1, .int (ix))] := hl
  refine lv_iconst (v := nI 0) hx hb dX1_crowdedKey_0 (by decide +kernel) ?_
  refine lv_istore_n (lv' := [(2, .int (nI 0)), (0, .ref a), (1, .int (ix))]) hx hb dX1_crowdedKey_1 rfl hl (by decide) rfl (fun ls hl => ?_)
  refine lv_iconst (v := nI 0) hx hb dX1_crowdedKey_2 (by decide +kernel) ?_
  refine lv_istore_n (lv' := [(3, .int (nI 0)), (2, .int (nI 0)), (0, .ref a), (1, .int (ix))]) hx hb dX1_crowdedKey_3 rfl hl (by decide) rfl (fun ls hl => ?_)
  have loop : ∀ (n i : Nat), 256 < i + n → i ≤ 256 → (∀ k, k < i → crowd (bt f) k = true → ¬ nI (cnt (crowd (bt f)) k) = ix) → ∀ ls, lv_has ls 4 [(3, .int (nI i)), (2, .int (nI (cnt (crowd (bt f)) i))), (0, .ref a), (1, .int ix)] → W p l e (headSpec wsX1_crowdedKey ({ frames := 3, cells := 0, slots := 0, locals := 64 } : Room)).room s m ([.ref a, .int (ix)] : List Value).toArray below meth c H [] 0 0 (MQ below (kS (Nth (crowd (bt f)) 256 ix) H) ([.ref a, .int (ix)] : List Value).toArray s 0 0 kN) (F0 m 4 ls []) := by
    intro n
    induction n with
    | zero => intro i h0 h1; omega
    | succ n ih =>
      intro i hn hi hv ls hl
      have hcl := cnt_le (crowd (bt f)) i
      refine lv_iload_n hx hb dX1_crowdedKey_4 rfl (lv_at hl 0 rfl) ?_
      refine lv_sipush (v := nI 256) hx hb dX1_crowdedKey_5 (by decide +kernel) ?_
      refine n_icmp_ge (tgt := 35) hx hb dX1_crowdedKey_8 (by decide) (by omega) (by omega) (fun c_75 => ?_) (fun c_75 => ?_)
      · skip
        refine lv_iconst (v := (-1)) hx hb dX1_crowdedKey_35 (by decide +kernel) ?_
        exact r_iS hx hb hr (Or.inr ⟨fun k hk hp => hv k (by omega) hp, rfl⟩) dX1_crowdedKey_36 hlocks
      · skip
        refine lv_aload_n hx hb dX1_crowdedKey_11 rfl (lv_at hl 2 rfl) ?_
        refine lv_iload_n hx hb dX1_crowdedKey_12 rfl (lv_at hl 0 rfl) ?_
        refine k_callX (va_runV (As := [.int (nI i)]) (rest := []) ⟨hx, hb, hml, hown, hts⟩ (c_X1_isCrowded l D g H a w f ho hw i (by omega)) (cwV 1 hts gX1_crowdedKey_X1_isCrowded rfl rfl rfl (by decide +kernel) ⟨Nat.le_of_ble_eq_true rfl, Nat.le_of_ble_eq_true rfl⟩) ⟨kPc_blind, k_recv hK ho rfl, fun U hU hW => kPc_at hK hU hW⟩ rfl rfl hl.1 rfl (lv_room (Nat.le_of_ble_eq_true rfl)) dX1_crowdedKey_13 ⟨Nat.le_of_ble_eq_true rfl, Nat.le_of_ble_eq_true rfl⟩) ?_
        refine z_if_eq (tgt := 29) hx hb dX1_crowdedKey_16 (by decide) (fun c_76 => ?_) (fun c_76 => ?_)
        · skip
          refine lv_iinc (v := nI (i + 1)) (lv' := [(3, .int (nI (i + 1))), (2, .int (nI (cnt (crowd (bt f)) i))), (0, .ref a), (1, .int (ix))]) hx hb dX1_crowdedKey_29 hl (k := 0) rfl (nI_add (i) 1) (by decide) rfl (fun ls hl => ?_)
          refine lv_goto (tgt := 4) hx hb dX1_crowdedKey_32 (by decide) ?_
          have e := cnt_f (p := crowd (bt f)) (n := i) c_76
          have hl2 := (lv_sub hl [0, 1, 2, 3] rfl)
          refine ih (i + 1) (by omega) (by omega) ?_ ls (by rw [e]; exact hl2)
          intro k hk hp
          rcases Nat.lt_or_ge k i with q | q
          · exact hv k q hp
          · rw [show k = i by omega] at hp ⊢
            rw [c_76] at hp; cases hp
        · skip
          refine lv_iload_n hx hb dX1_crowdedKey_19 rfl (lv_at hl 1 rfl) ?_
          refine lv_iload_n hx hb dX1_crowdedKey_20 rfl (lv_at hl 3 rfl) ?_
          refine lv_icmp_ne (tgt := 26) hx hb dX1_crowdedKey_21 (by decide) (fun c_77 => ?_) (fun c_77 => ?_)
          · skip
            refine lv_iinc (v := nI (cnt (crowd (bt f)) i + 1)) (lv' := [(2, .int (nI (cnt (crowd (bt f)) i + 1))), (3, .int (nI i)), (0, .ref a), (1, .int (ix))]) hx hb dX1_crowdedKey_26 hl (k := 1) rfl (nI_add (cnt (crowd (bt f)) i) 1) (by decide) rfl (fun ls hl => ?_)
            refine lv_iinc (v := nI (i + 1)) (lv' := [(3, .int (nI (i + 1))), (2, .int (nI (cnt (crowd (bt f)) i + 1))), (0, .ref a), (1, .int (ix))]) hx hb dX1_crowdedKey_29 hl (k := 1) rfl (nI_add (i) 1) (by decide) rfl (fun ls hl => ?_)
            refine lv_goto (tgt := 4) hx hb dX1_crowdedKey_32 (by decide) ?_
            have e := cnt_t (p := crowd (bt f)) (n := i) c_76
            have hl2 := (lv_sub hl [0, 1, 2, 3] rfl)
            refine ih (i + 1) (by omega) (by omega) ?_ ls (by rw [e]; exact hl2)
            intro k hk hp
            rcases Nat.lt_or_ge k i with q | q
            · exact hv k q hp
            · rw [show k = i by omega] at hp ⊢
              exact c_77
          · skip
            refine lv_iload_n hx hb dX1_crowdedKey_24 rfl (lv_at hl 0 rfl) ?_
            exact r_iS hx hb hr (Or.inl ⟨i, by omega, c_76, c_77, rfl⟩) dX1_crowdedKey_25 hlocks
  exact loop 257 0 (by omega) (by omega) (fun k h => by omega) ls (lv_sub hl [0, 1, 2, 3] rfl)
set_option maxHeartbeats 4000000 in
set_option maxRecDepth 100000 in
theorem c_X1_leastOfKey (l : Launch) (D : va_G) (g : Nat → ClassId) (H : Heap) (a w : Nat) (f : Nat → Int64) (ho : HA D H a (eO 1 [.ref w])) (hw : HA D H w (eL (g 2) 64 f)) (k : Nat) (hk : k < 256) : Met l yX1_leastOfKey wsX1_leastOfKey ({ frames := 2, cells := 0, slots := 0, locals := 41 } : Room) (kPc D g [.ref a, .int (nI k)] H) (kS (fun r => (∃ o, o < 16 ∧ bt f (16 * k + o) = true ∧ (∀ z, z < o → bt f (16 * k + z) = false) ∧ r = nI (16 * k + o)) ∨ ((∀ z, z < 16 → bt f (16 * k + z) = false) ∧ r = -1)) H) 0 0 kN := by
  refine Met.ofW (cc := cX1_leastOfKey) (maxL := 3) (ret := (some .int)) (by decide) rfl ?_
  intro p e s m args below meth c s₁ B hml hv
  obtain ⟨rfl, hH, hK⟩ := hv
  have hx := B.exec
  have hb := B.bytes
  have hr := B.returns
  have hts := atoms_spec (ws := wsX1_leastOfKey) B.pre
  have hown : s.vm.findClass RX1 = some m.cls := findClass_of_methodNamed B.named
  have hlocks := B.notSynchronized
  rw [hH]
  have hl := lv_entry ([.ref a, .int (nI k)]) (n := 3) (Nat.le_of_ble_eq_true rfl)
  rw [lg_entry_eq]
  generalize (lg_sl ([.ref a, .int (nI k)]) ++ List.replicate (3 - (lg_sl ([.ref a, .int (nI k)])).length) Slot.unset).toArray = ls at hl ⊢
  have hl : lv_has ls 3 [(0, .ref a), (1, .int (nI k))] := hl
  refine lv_iconst (v := nI 0) hx hb dX1_leastOfKey_0 (by decide +kernel) ?_
  refine lv_istore_n (lv' := [(2, .int (nI 0)), (0, .ref a), (1, .int (nI k))]) hx hb dX1_leastOfKey_1 rfl hl (by decide) rfl (fun ls hl => ?_)
  have loop : ∀ (n i : Nat), 16 < i + n → i ≤ 16 → (∀ z, z < i → bt f (16 * k + z) = false) → ∀ ls, lv_has ls 3 [(2, .int (nI i)), (0, .ref a), (1, .int (nI k))] → W p l e (headSpec wsX1_leastOfKey ({ frames := 2, cells := 0, slots := 0, locals := 41 } : Room)).room s m ([.ref a, .int (nI k)] : List Value).toArray below meth c H [] 0 0 (MQ below (kS (fun r => (∃ o, o < 16 ∧ bt f (16 * k + o) = true ∧ (∀ z, z < o → bt f (16 * k + z) = false) ∧ r = nI (16 * k + o)) ∨ ((∀ z, z < 16 → bt f (16 * k + z) = false) ∧ r = -1)) H) ([.ref a, .int (nI k)] : List Value).toArray s 0 0 kN) (F0 m 2 ls []) := by
    intro n
    induction n with
    | zero => intro i h0 h1; omega
    | succ n ih =>
      intro i hn hi hv ls hl
      refine lv_iload_n hx hb dX1_leastOfKey_2 rfl (lv_at hl 0 rfl) ?_
      refine lv_bipush (v := nI 16) hx hb dX1_leastOfKey_3 (by decide +kernel) ?_
      refine n_icmp_ge (tgt := 34) hx hb dX1_leastOfKey_5 (by decide) (by omega) (by omega) (fun c_78 => ?_) (fun c_78 => ?_)
      · skip
        refine lv_iconst (v := (-1)) hx hb dX1_leastOfKey_34 (by decide +kernel) ?_
        exact r_iS hx hb hr (Or.inr ⟨fun z hz => hv z (by omega), rfl⟩) dX1_leastOfKey_35 hlocks
      · skip
        refine lv_aload_n hx hb dX1_leastOfKey_8 rfl (lv_at hl 1 rfl) ?_
        refine lv_bipush (v := nI 16) hx hb dX1_leastOfKey_9 (by decide +kernel) ?_
        refine lv_iload_n hx hb dX1_leastOfKey_11 rfl (lv_at hl 2 rfl) ?_
        refine lv_imul hx hb dX1_leastOfKey_12 ?_
        refine lv_topi (nm_r (show (nI 16) * (nI k) = nI (16 * (k)) from pk_mul _ _) ?_)
        refine lv_iload_n hx hb dX1_leastOfKey_13 rfl (lv_at hl 0 rfl) ?_
        refine lv_iadd hx hb dX1_leastOfKey_14 ?_
        refine lv_topi (nm_r (show (nI (16 * (k))) + (nI i) = nI (16 * (k) + i) from nI_add _ _) ?_)
        refine k_callX (va_runV (As := [.int (nI (16 * (k) + i))]) (rest := []) ⟨hx, hb, hml, hown, hts⟩ (c_X1_has l D g H a w f ho hw (16 * (k) + i) (by omega)) (cwV 1 hts gX1_leastOfKey_X1_has rfl rfl rfl (by decide +kernel) ⟨Nat.le_of_ble_eq_true rfl, Nat.le_of_ble_eq_true rfl⟩) ⟨kPc_blind, k_recv hK ho rfl, fun U hU hW => kPc_at hK hU hW⟩ rfl rfl hl.1 rfl (lv_room (Nat.le_of_ble_eq_true rfl)) dX1_leastOfKey_15 ⟨Nat.le_of_ble_eq_true rfl, Nat.le_of_ble_eq_true rfl⟩) ?_
        refine z_if_eq (tgt := 28) hx hb dX1_leastOfKey_18 (by decide) (fun c_79 => ?_) (fun c_79 => ?_)
        · skip
          refine lv_iinc (v := nI (i + 1)) (lv' := [(2, .int (nI (i + 1))), (0, .ref a), (1, .int (nI k))]) hx hb dX1_leastOfKey_28 hl (k := 0) rfl (nI_add (i) 1) (by decide) rfl (fun ls hl => ?_)
          refine lv_goto (tgt := 2) hx hb dX1_leastOfKey_31 (by decide) ?_
          refine ih (i + 1) (by omega) (by omega) ?_ ls (lv_sub hl [0, 1, 2] rfl)
          intro z hz
          rcases Nat.lt_or_ge z i with q | q
          · exact hv z q
          · rw [show z = i by omega]; exact c_79
        · skip
          refine lv_bipush (v := nI 16) hx hb dX1_leastOfKey_21 (by decide +kernel) ?_
          refine lv_iload_n hx hb dX1_leastOfKey_23 rfl (lv_at hl 2 rfl) ?_
          refine lv_imul hx hb dX1_leastOfKey_24 ?_
          refine lv_topi (nm_r (show (nI 16) * (nI k) = nI (16 * (k)) from pk_mul _ _) ?_)
          refine lv_iload_n hx hb dX1_leastOfKey_25 rfl (lv_at hl 0 rfl) ?_
          refine lv_iadd hx hb dX1_leastOfKey_26 ?_
          refine lv_topi (nm_r (show (nI (16 * (k))) + (nI i) = nI (16 * (k) + i) from nI_add _ _) ?_)
          exact r_iS hx hb hr (Or.inl ⟨i, by omega, c_79, hv, rfl⟩) dX1_leastOfKey_27 hlocks
  exact loop 17 0 (by omega) (by omega) (fun z h => by omega) ls (lv_sub hl [0, 1, 2] rfl)
set_option maxHeartbeats 4000000 in
set_option maxRecDepth 100000 in
theorem c_X1_greatestOfKey (l : Launch) (D : va_G) (g : Nat → ClassId) (H : Heap) (a w : Nat) (f : Nat → Int64) (ho : HA D H a (eO 1 [.ref w])) (hw : HA D H w (eL (g 2) 64 f)) (k : Nat) (hk : k < 256) : Met l yX1_greatestOfKey wsX1_greatestOfKey ({ frames := 2, cells := 0, slots := 0, locals := 41 } : Room) (kPc D g [.ref a, .int (nI k)] H) (kS (fun r => (∃ o, o < 16 ∧ bt f (16 * k + o) = true ∧ (∀ z, o < z → z < 16 → bt f (16 * k + z) = false) ∧ r = nI (16 * k + o)) ∨ ((∀ z, z < 16 → bt f (16 * k + z) = false) ∧ r = -1)) H) 0 0 kN := by
  refine Met.ofW (cc := cX1_greatestOfKey) (maxL := 3) (ret := (some .int)) (by decide) rfl ?_
  intro p e s m args below meth c s₁ B hml hv
  obtain ⟨rfl, hH, hK⟩ := hv
  have hx := B.exec
  have hb := B.bytes
  have hr := B.returns
  have hts := atoms_spec (ws := wsX1_greatestOfKey) B.pre
  have hown : s.vm.findClass RX1 = some m.cls := findClass_of_methodNamed B.named
  have hlocks := B.notSynchronized
  rw [hH]
  have hl := lv_entry ([.ref a, .int (nI k)]) (n := 3) (Nat.le_of_ble_eq_true rfl)
  rw [lg_entry_eq]
  generalize (lg_sl ([.ref a, .int (nI k)]) ++ List.replicate (3 - (lg_sl ([.ref a, .int (nI k)])).length) Slot.unset).toArray = ls at hl ⊢
  have hl : lv_has ls 3 [(0, .ref a), (1, .int (nI k))] := hl
  refine lv_bipush (v := nI 15) hx hb dX1_greatestOfKey_0 (by decide +kernel) ?_
  refine lv_istore_n (lv' := [(2, .int (nI 15)), (0, .ref a), (1, .int (nI k))]) hx hb dX1_greatestOfKey_2 rfl hl (by decide) rfl (fun ls hl => ?_)
  have loop : ∀ (n i : Nat) (y : Int32), i < n → i ≤ 16 → y = nI i - 1 → (∀ z, i ≤ z → z < 16 → bt f (16 * k + z) = false) → ∀ ls, lv_has ls 3 [(2, .int y), (0, .ref a), (1, .int (nI k))] → W p l e (headSpec wsX1_greatestOfKey ({ frames := 2, cells := 0, slots := 0, locals := 41 } : Room)).room s m ([.ref a, .int (nI k)] : List Value).toArray below meth c H [] 0 0 (MQ below (kS (fun r => (∃ o, o < 16 ∧ bt f (16 * k + o) = true ∧ (∀ z, o < z → z < 16 → bt f (16 * k + z) = false) ∧ r = nI (16 * k + o)) ∨ ((∀ z, z < 16 → bt f (16 * k + z) = false) ∧ r = -1)) H) ([.ref a, .int (nI k)] : List Value).toArray s 0 0 kN) (F0 m 3 ls []) := by
    intro n
    induction n with
    | zero => intro i y h0 h1; omega
    | succ n ih =>
      intro i y hn hi hy hv ls hl
      cases i with
      | zero =>
        refine lv_iload_n hx hb dX1_greatestOfKey_3 rfl (lv_at hl 0 rfl) ?_
        refine lv_if_lt (tgt := 33) hx hb dX1_greatestOfKey_4 (by decide) (fun _ => ?_) (fun q => absurd (by rw [hy]; decide +kernel) q)
        refine lv_iconst (v := (-1)) hx hb dX1_greatestOfKey_33 (by decide +kernel) ?_
        exact r_iS hx hb hr (Or.inr ⟨fun z hz => hv z (Nat.zero_le _) hz, rfl⟩) dX1_greatestOfKey_34 hlocks
      | succ i =>
        obtain rfl : y = nI i := hy.trans (nI_pred i)
        refine lv_iload_n hx hb dX1_greatestOfKey_3 rfl (lv_at hl 0 rfl) ?_
        refine n_if_lt (tgt := 33) hx hb dX1_greatestOfKey_4 (by decide) (by omega) ?_
        refine lv_aload_n hx hb dX1_greatestOfKey_7 rfl (lv_at hl 1 rfl) ?_
        refine lv_bipush (v := nI 16) hx hb dX1_greatestOfKey_8 (by decide +kernel) ?_
        refine lv_iload_n hx hb dX1_greatestOfKey_10 rfl (lv_at hl 2 rfl) ?_
        refine lv_imul hx hb dX1_greatestOfKey_11 ?_
        refine lv_topi (nm_r (show (nI 16) * (nI k) = nI (16 * (k)) from pk_mul _ _) ?_)
        refine lv_iload_n hx hb dX1_greatestOfKey_12 rfl (lv_at hl 0 rfl) ?_
        refine lv_iadd hx hb dX1_greatestOfKey_13 ?_
        refine lv_topi (nm_r (show (nI (16 * (k))) + (nI i) = nI (16 * (k) + i) from nI_add _ _) ?_)
        refine k_callX (va_runV (As := [.int (nI (16 * (k) + i))]) (rest := []) ⟨hx, hb, hml, hown, hts⟩ (c_X1_has l D g H a w f ho hw (16 * (k) + i) (by omega)) (cwV 1 hts gX1_greatestOfKey_X1_has rfl rfl rfl (by decide +kernel) ⟨Nat.le_of_ble_eq_true rfl, Nat.le_of_ble_eq_true rfl⟩) ⟨kPc_blind, k_recv hK ho rfl, fun U hU hW => kPc_at hK hU hW⟩ rfl rfl hl.1 rfl (lv_room (Nat.le_of_ble_eq_true rfl)) dX1_greatestOfKey_14 ⟨Nat.le_of_ble_eq_true rfl, Nat.le_of_ble_eq_true rfl⟩) ?_
        refine z_if_eq (tgt := 27) hx hb dX1_greatestOfKey_17 (by decide) (fun c_81 => ?_) (fun c_81 => ?_)
        · skip
          refine lv_iinc (v := (nI i) + -1) (lv' := [(2, .int ((nI i) + -1)), (0, .ref a), (1, .int (nI k))]) hx hb dX1_greatestOfKey_27 hl (k := 0) rfl rfl (by decide) rfl (fun ls hl => ?_)
          refine lv_goto (tgt := 3) hx hb dX1_greatestOfKey_30 (by decide) ?_
          refine ih i _ (by omega) (by omega) (Int32.sub_eq_add_neg _ _).symm ?_ ls (lv_sub hl [0, 1, 2] rfl)
          intro z hz hz2
          rcases Nat.lt_or_ge i z with q | q
          · exact hv z q hz2
          · rw [show z = i by omega]; exact c_81
        · skip
          refine lv_bipush (v := nI 16) hx hb dX1_greatestOfKey_20 (by decide +kernel) ?_
          refine lv_iload_n hx hb dX1_greatestOfKey_22 rfl (lv_at hl 2 rfl) ?_
          refine lv_imul hx hb dX1_greatestOfKey_23 ?_
          refine lv_topi (nm_r (show (nI 16) * (nI k) = nI (16 * (k)) from pk_mul _ _) ?_)
          refine lv_iload_n hx hb dX1_greatestOfKey_24 rfl (lv_at hl 0 rfl) ?_
          refine lv_iadd hx hb dX1_greatestOfKey_25 ?_
          refine lv_topi (nm_r (show (nI (16 * (k))) + (nI i) = nI (16 * (k) + i) from nI_add _ _) ?_)
          exact r_iS hx hb hr (Or.inl ⟨i, by omega, c_81, fun z h1 h2 => hv z h1 h2, rfl⟩) dX1_greatestOfKey_26 hlocks
  exact loop 17 16 _ (by omega) (by omega) (by decide +kernel) (fun z h1 h2 => by omega) ls (lv_sub hl [0, 1, 2] rfl)
set_option maxHeartbeats 4000000 in
set_option maxRecDepth 100000 in
/-- tripleInWord: -1 or a triple -/
theorem c_X1_tripleInWord_w (l : Launch) (D : va_G) (g : Nat → ClassId) (H : Heap) (a w : Nat) (f : Nat → Int64) (ho : HA D H a (eO 1 [.ref w])) (hw : HA D H w (eL (g 2) 64 f)) (k : Nat) (hk : k < 64) (ix : Int32) : Met l yX1_tripleInWord wsX1_tripleInWord ({ frames := 2, cells := 0, slots := 0, locals := 41 } : Room) (kPc D g [.ref a, .int (nI k), .int (ix)] H) (kS (fun r => r = -1 ∨ ∃ t, t < 4096 ∧ r = nI t) H) 0 0 kN := by
  refine Met.ofW (cc := cX1_tripleInWord) (maxL := 5) (ret := (some .int)) (by decide) rfl ?_
  intro p e s m args below meth c s₁ B hml hv
  obtain ⟨rfl, hH, hK⟩ := hv
  have hx := B.exec
  have hb := B.bytes
  have hr := B.returns
  have hts := atoms_spec (ws := wsX1_tripleInWord) B.pre
  have hown : s.vm.findClass RX1 = some m.cls := findClass_of_methodNamed B.named
  have hlocks := B.notSynchronized
  rw [hH]
  have hl := lv_entry ([.ref a, .int (nI k), .int (ix)]) (n := 5) (Nat.le_of_ble_eq_true rfl)
  rw [lg_entry_eq]
  generalize (lg_sl ([.ref a, .int (nI k), .int (ix)]) ++ List.replicate (5 - (lg_sl ([.ref a, .int (nI k), .int (ix)])).length) Slot.unset).toArray = ls at hl ⊢
  have hl : lv_has ls 5 [(0, .ref a), (1, .int (nI k)), (2, .int (ix))] := hl
  refine lv_iload_n hx hb dX1_tripleInWord_0 rfl (lv_at hl 2 rfl) ?_
  refine lv_istore_n (lv' := [(3, .int (ix)), (0, .ref a), (1, .int (nI k)), (2, .int (ix))]) hx hb dX1_tripleInWord_1 rfl hl (by decide) rfl (fun ls hl => ?_)
  refine lv_bipush (v := nI 64) hx hb dX1_tripleInWord_2 (by decide +kernel) ?_
  refine lv_iload_n hx hb dX1_tripleInWord_4 rfl (lv_at hl 2 rfl) ?_
  refine lv_imul hx hb dX1_tripleInWord_5 ?_
  refine lv_topi (nm_r (show (nI 64) * (nI k) = nI (64 * (k)) from pk_mul _ _) ?_)
  refine lv_istore (lv' := [(4, .int (nI (64 * (k)))), (3, .int (ix)), (0, .ref a), (1, .int (nI k)), (2, .int (ix))]) hx hb dX1_tripleInWord_6 hl (by decide) rfl (fun ls hl => ?_)
  have loop : ∀ (n i : Nat) (y : Int32), 64 < i + n → i ≤ 64 → ∀ ls, lv_has ls 5 [(4, .int (nI (64 * k + i))), (3, .int y), (0, .ref a), (1, .int (nI k)), (2, .int ix)] → W p l e (headSpec wsX1_tripleInWord ({ frames := 2, cells := 0, slots := 0, locals := 41 } : Room)).room s m ([.ref a, .int (nI k), .int (ix)] : List Value).toArray below meth c H [] 0 0 (MQ below (kS (fun r => r = -1 ∨ ∃ t, t < 4096 ∧ r = nI t) H) ([.ref a, .int (nI k), .int (ix)] : List Value).toArray s 0 0 kN) (F0 m 8 ls []) := by
    intro n
    induction n with
    | zero => intro i y h0 h1; omega
    | succ n ih =>
      intro i y hn hi ls hl
      refine lv_iload hx hb dX1_tripleInWord_8 (lv_at hl 0 rfl) ?_
      refine lv_bipush (v := nI 64) hx hb dX1_tripleInWord_10 (by decide +kernel) ?_
      refine lv_iload_n hx hb dX1_tripleInWord_12 rfl (lv_at hl 3 rfl) ?_
      refine lv_imul hx hb dX1_tripleInWord_13 ?_
      refine lv_topi (nm_r (show (nI 64) * (nI k) = nI (64 * (k)) from pk_mul _ _) ?_)
      refine lv_bipush (v := nI 64) hx hb dX1_tripleInWord_14 (by decide +kernel) ?_
      refine lv_iadd hx hb dX1_tripleInWord_16 ?_
      refine lv_topi (nm_r (show (nI (64 * (k))) + (nI 64) = nI (64 * (k) + 64) from nI_add _ _) ?_)
      refine n_icmp_ge (tgt := 45) hx hb dX1_tripleInWord_17 (by decide) (by omega) (by omega) (fun c_82 => ?_) (fun c_82 => ?_)
      · skip
        refine lv_iconst (v := (-1)) hx hb dX1_tripleInWord_45 (by decide +kernel) ?_
        exact r_iS hx hb hr (Or.inl rfl) dX1_tripleInWord_46 hlocks
      · skip
        refine lv_aload_n hx hb dX1_tripleInWord_20 rfl (lv_at hl 2 rfl) ?_
        refine lv_iload hx hb dX1_tripleInWord_21 (lv_at hl 0 rfl) ?_
        refine k_callX (va_runV (As := [.int (nI (64 * k + i))]) (rest := []) ⟨hx, hb, hml, hown, hts⟩ (c_X1_has l D g H a w f ho hw (64 * k + i) (by omega)) (cwV 1 hts gX1_tripleInWord_X1_has rfl rfl rfl (by decide +kernel) ⟨Nat.le_of_ble_eq_true rfl, Nat.le_of_ble_eq_true rfl⟩) ⟨kPc_blind, k_recv hK ho rfl, fun U hU hW => kPc_at hK hU hW⟩ rfl rfl hl.1 rfl (lv_room (Nat.le_of_ble_eq_true rfl)) dX1_tripleInWord_23 ⟨Nat.le_of_ble_eq_true rfl, Nat.le_of_ble_eq_true rfl⟩) ?_
        refine z_if_eq (tgt := 39) hx hb dX1_tripleInWord_26 (by decide) (fun c_83 => ?_) (fun c_83 => ?_)
        · skip
          refine lv_iinc (v := nI (64 * k + i + 1)) (lv' := [(4, .int (nI (64 * k + i + 1))), (3, .int (y)), (0, .ref a), (1, .int (nI k)), (2, .int (ix))]) hx hb dX1_tripleInWord_39 hl (k := 0) rfl (nI_add (64 * k + i) 1) (by decide) rfl (fun ls hl => ?_)
          refine lv_goto (tgt := 8) hx hb dX1_tripleInWord_42 (by decide) ?_
          exact ih (i + 1) _ (by omega) (by omega) ls (lv_sub hl [0, 1, 2, 3, 4] rfl)
        · skip
          refine lv_iload_n hx hb dX1_tripleInWord_29 rfl (lv_at hl 1 rfl) ?_
          refine lv_if_ne (tgt := 36) hx hb dX1_tripleInWord_30 (by decide) (fun c_84 => ?_) (fun c_84 => ?_)
          · skip
            refine lv_iinc (v := (y) + -1) (lv' := [(3, .int ((y) + -1)), (4, .int (nI (64 * k + i))), (0, .ref a), (1, .int (nI k)), (2, .int (ix))]) hx hb dX1_tripleInWord_36 hl (k := 1) rfl rfl (by decide) rfl (fun ls hl => ?_)
            refine lv_iinc (v := nI (64 * k + i + 1)) (lv' := [(4, .int (nI (64 * k + i + 1))), (3, .int ((y) + -1)), (0, .ref a), (1, .int (nI k)), (2, .int (ix))]) hx hb dX1_tripleInWord_39 hl (k := 1) rfl (nI_add (64 * k + i) 1) (by decide) rfl (fun ls hl => ?_)
            refine lv_goto (tgt := 8) hx hb dX1_tripleInWord_42 (by decide) ?_
            exact ih (i + 1) _ (by omega) (by omega) ls (lv_sub hl [0, 1, 2, 3, 4] rfl)
          · skip
            refine lv_iload hx hb dX1_tripleInWord_33 (lv_at hl 0 rfl) ?_
            exact r_iS hx hb hr (Or.inr ⟨64 * k + i, by omega, rfl⟩) dX1_tripleInWord_35 hlocks
  exact loop 65 0 _ (by omega) (by omega) ls (lv_sub hl [0, 1, 2, 3, 4] rfl)
set_option maxHeartbeats 4000000 in
set_option maxRecDepth 100000 in
/-- tripleAt: -1 or a triple -/
theorem c_X1_tripleAt_w (l : Launch) (D : va_G) (g : Nat → ClassId) (H : Heap) (a w : Nat) (f : Nat → Int64) (ho : HA D H a (eO 1 [.ref w])) (hw : HA D H w (eL (g 2) 64 f)) (ix : Int32) : Met l yX1_tripleAt wsX1_tripleAt ({ frames := 3, cells := 0, slots := 0, locals := 65 } : Room) (kPc D g [.ref a, .int (ix)] H) (kS (fun r => r = -1 ∨ ∃ t, t < 4096 ∧ r = nI t) H) 0 0 kN := by
  refine Met.ofW (cc := cX1_tripleAt) (maxL := 5) (ret := (some .int)) (by decide) rfl ?_
  intro p e s m args below meth c s₁ B hml hv
  obtain ⟨rfl, hH, hK⟩ := hv
  have hx := B.exec
  have hb := B.bytes
  have hr := B.returns
  have hts := atoms_spec (ws := wsX1_tripleAt) B.pre
  have hown : s.vm.findClass RX1 = some m.cls := findClass_of_methodNamed B.named
  have hlocks := B.notSynchronized
  rw [hH]
  have hl := lv_entry ([.ref a, .int (ix)]) (n := 5) (Nat.le_of_ble_eq_true rfl)
  rw [lg_entry_eq]
  generalize (lg_sl ([.ref a, .int (ix)]) ++ List.replicate (5 - (lg_sl ([.ref a, .int (ix)])).length) Slot.unset).toArray = ls at hl ⊢
  have hl : lv_has ls 5 [(0, .ref a), (1, .int (ix))] := hl
  refine lv_iload_n hx hb dX1_tripleAt_0 rfl (lv_at hl 1 rfl) ?_
  refine lv_istore_n (lv' := [(2, .int (ix)), (0, .ref a), (1, .int (ix))]) hx hb dX1_tripleAt_1 rfl hl (by decide) rfl (fun ls hl => ?_)
  refine lv_iconst (v := nI 0) hx hb dX1_tripleAt_2 (by decide +kernel) ?_
  refine lv_istore_n (lv' := [(3, .int (nI 0)), (2, .int (ix)), (0, .ref a), (1, .int (ix))]) hx hb dX1_tripleAt_3 rfl hl (by decide) rfl (fun ls hl => ?_)
  have loop : ∀ (n i : Nat) (y : Int32), 64 < i + n → i ≤ 64 → ∀ ls, lv_has ls 5 [(3, .int (nI i)), (2, .int y), (0, .ref a), (1, .int ix)] → W p l e (headSpec wsX1_tripleAt ({ frames := 3, cells := 0, slots := 0, locals := 65 } : Room)).room s m ([.ref a, .int (ix)] : List Value).toArray below meth c H [] 0 0 (MQ below (kS (fun r => r = -1 ∨ ∃ t, t < 4096 ∧ r = nI t) H) ([.ref a, .int (ix)] : List Value).toArray s 0 0 kN) (F0 m 4 ls []) := by
    intro n
    induction n with
    | zero => intro i y h0 h1; omega
    | succ n ih =>
      intro i y hn hi ls hl
      refine lv_iload_n hx hb dX1_tripleAt_4 rfl (lv_at hl 0 rfl) ?_
      refine lv_bipush (v := nI 64) hx hb dX1_tripleAt_5 (by decide +kernel) ?_
      refine n_icmp_ge (tgt := 49) hx hb dX1_tripleAt_7 (by decide) (by omega) (by omega) (fun c_85 => ?_) (fun c_85 => ?_)
      · skip
        refine lv_iconst (v := (-1)) hx hb dX1_tripleAt_49 (by decide +kernel) ?_
        exact r_iS hx hb hr (Or.inl rfl) dX1_tripleAt_50 hlocks
      · skip
        refine lv_iload_n hx hb dX1_tripleAt_10 rfl (lv_at hl 1 rfl) ?_
        refine lv_if_lt (tgt := 49) hx hb dX1_tripleAt_11 (by decide) (fun c_86 => ?_) (fun c_86 => ?_)
        · skip
          refine lv_iconst (v := (-1)) hx hb dX1_tripleAt_49 (by decide +kernel) ?_
          exact r_iS hx hb hr (Or.inl rfl) dX1_tripleAt_50 hlocks
        · skip
          refine lv_aload_n hx hb dX1_tripleAt_14 rfl (lv_at hl 2 rfl) ?_
          refine k_get (ci := 1) (C := RX1) (T := TX1) (N := 1) (v := .ref w) hx hb hts (by decide +kernel) hown hK ho rfl 0 (by decide) rfl (hts (.fieldLink RX1 9 RX1 "words" "[J") (by decide +kernel)) rfl dX1_tripleAt_15 ?_
          refine lv_iload_n hx hb dX1_tripleAt_18 rfl (lv_at hl 0 rfl) ?_
          refine k_lald hx hb hK hw (i) rfl (by omega) (by omega) dX1_tripleAt_19 ?_
          refine k_callS (va_runS (As := [.long (f (i))]) (rest := []) ⟨hx, hb, hml, hown, hts⟩ (c_J13_bitCount_w l D g H (f i)) (va_cwS 1 hts gX1_tripleAt_J13_bitCount_95d88 rfl rfl rfl (by decide +kernel) ⟨Nat.le_of_ble_eq_true rfl, Nat.le_of_ble_eq_true rfl⟩) ⟨kPc_blind, fun U hU hW => kPc_at hK hU hW⟩ rfl rfl hl.1 rfl (lv_room (Nat.le_of_ble_eq_true rfl)) dX1_tripleAt_20 ⟨Nat.le_of_ble_eq_true rfl, Nat.le_of_ble_eq_true rfl⟩) (fun bc _ => ?_)
          refine lv_istore (lv' := [(4, .int (bc)), (3, .int (nI i)), (2, .int (y)), (0, .ref a), (1, .int (ix))]) hx hb dX1_tripleAt_23 hl (by decide) rfl (fun ls hl => ?_)
          refine lv_iload_n hx hb dX1_tripleAt_25 rfl (lv_at hl 2 rfl) ?_
          refine lv_iload hx hb dX1_tripleAt_26 (lv_at hl 0 rfl) ?_
          refine lv_icmp_ge (tgt := 38) hx hb dX1_tripleAt_28 (by decide) (fun c_87 => ?_) (fun c_87 => ?_)
          · skip
            refine lv_iload_n hx hb dX1_tripleAt_38 rfl (lv_at hl 2 rfl) ?_
            refine lv_iload hx hb dX1_tripleAt_39 (lv_at hl 0 rfl) ?_
            refine lv_isub hx hb dX1_tripleAt_41 ?_
            refine lv_istore_n (lv' := [(2, .int ((y) - (bc))), (4, .int (bc)), (3, .int (nI i)), (0, .ref a), (1, .int (ix))]) hx hb dX1_tripleAt_42 rfl hl (by decide) rfl (fun ls hl => ?_)
            refine lv_iinc (v := nI (i + 1)) (lv' := [(3, .int (nI (i + 1))), (2, .int ((y) - (bc))), (4, .int (bc)), (0, .ref a), (1, .int (ix))]) hx hb dX1_tripleAt_43 hl (k := 2) rfl (nI_add (i) 1) (by decide) rfl (fun ls hl => ?_)
            refine lv_goto (tgt := 4) hx hb dX1_tripleAt_46 (by decide) ?_
            exact ih (i + 1) _ (by omega) (by omega) ls (lv_sub hl [0, 1, 3, 4] rfl)
          · skip
            refine lv_aload_n hx hb dX1_tripleAt_31 rfl (lv_at hl 3 rfl) ?_
            refine lv_iload_n hx hb dX1_tripleAt_32 rfl (lv_at hl 1 rfl) ?_
            refine lv_iload_n hx hb dX1_tripleAt_33 rfl (lv_at hl 2 rfl) ?_
            refine k_callS (va_runV (As := [.int (nI i), .int (y)]) (rest := []) ⟨hx, hb, hml, hown, hts⟩ (c_X1_tripleInWord_w l D g H a w f ho hw i (by omega) y) (cwV 2 hts gX1_tripleAt_X1_tripleInWord rfl rfl rfl (by decide +kernel) ⟨Nat.le_of_ble_eq_true rfl, Nat.le_of_ble_eq_true rfl⟩) ⟨kPc_blind, k_recv hK ho rfl, fun U hU hW => kPc_at hK hU hW⟩ rfl rfl hl.1 rfl (lv_room (Nat.le_of_ble_eq_true rfl)) dX1_tripleAt_34 ⟨Nat.le_of_ble_eq_true rfl, Nat.le_of_ble_eq_true rfl⟩) (fun r hr2 => ?_)
            exact r_iS hx hb hr (hr2) dX1_tripleAt_37 hlocks
  exact loop 65 0 _ (by omega) (by omega) ls (lv_sub hl [0, 1, 2, 3] rfl)
end
section
/-! 09: what a state of the class IS: versions V, branches B, words of each version, first and second parents, heads, ancestors, the merged words; and the cells that hold it, at addresses by codes -/
abbrev SG : Type := Nat × Nat × (Nat → Nat → Int64) × (Nat → Option Nat) × (Nat → Option Nat) × (Nat → Nat) × (Nat → Nat → Bool) × (Nat → Int64)
abbrev sV (σ : SG) : Nat := σ.1
abbrev sB (σ : SG) : Nat := σ.2.1
abbrev sW (σ : SG) : Nat → Nat → Int64 := σ.2.2.1
abbrev sF (σ : SG) : Nat → Option Nat := σ.2.2.2.1
abbrev sS (σ : SG) : Nat → Option Nat := σ.2.2.2.2.1
abbrev sH (σ : SG) : Nat → Nat := σ.2.2.2.2.2.1
abbrev sA (σ : SG) : Nat → Nat → Bool := σ.2.2.2.2.2.2.1
abbrev sM (σ : SG) : Nat → Int64 := σ.2.2.2.2.2.2.2
def gGrow (σ : SG) (f s : Option Nat) (w : Nat → Int64) (an : Nat → Bool) : SG := (sV σ + 1, sB σ, va_up (sW σ) (sV σ) w, va_up (sF σ) (sV σ) f, va_up (sS σ) (sV σ) s, sH σ, va_up (sA σ) (sV σ) an, sM σ)
def gHead (σ : SG) (b v : Nat) : SG := (sV σ, sB σ, sW σ, sF σ, sS σ, va_up (sH σ) b v, sA σ, sM σ)
def gBr (σ : SG) (v : Nat) : SG := (sV σ, sB σ + 1, sW σ, sF σ, sS σ, va_up (sH σ) (sB σ) v, sA σ, sM σ)
def gM (σ : SG) (m : Nat → Int64) : SG := (sV σ, sB σ, sW σ, sF σ, sS σ, sH σ, sA σ, m)
/-- a parent's ancestors; none has none -/
def anO (σ : SG) (o : Option Nat) (j : Nat) : Bool := match o with
  | none => false
  | some p => sA σ p j
def AnOK (σ : SG) (v : Nat) (f s : Option Nat) (an : Nat → Bool) : Prop := ∀ j, j < 400 → an j = (decide (j = v) || anO σ f j || anO σ s j)
def OLt (o : Option Nat) (n : Nat) : Prop := ∀ p, o = some p → p < n
def WF (σ : SG) : Prop := 0 ≤ sV σ ∧ sV σ ≤ 400 ∧ 0 ≤ sB σ ∧ sB σ ≤ 40 ∧ (∀ b, b < sB σ → sH σ b < sV σ) ∧ ∀ k, k < sV σ → OLt (sF σ k) k ∧ OLt (sS σ k) k ∧ AnOK σ k (sF σ k) (sS σ k) (sA σ k)
theorem up_eq {α : Type} (f : Nat → α) (k : Nat) (v : α) : va_up f k v k = v := if_pos rfl
theorem up_ne {α : Type} (f : Nat → α) {k j : Nat} (v : α) (h : j ≠ k) : va_up f k v j = f j := if_neg h
theorem anO_up {σ : SG} {f s : Option Nat} {w : Nat → Int64} {an : Nat → Bool} {o : Option Nat} (ho : OLt o (sV σ)) (j : Nat) : anO (gGrow σ f s w an) o j = anO σ o j := by
  cases o with
  | none => rfl
  | some p =>
    have := ho p rfl
    show va_up (sA σ) (sV σ) an p j = sA σ p j
    rw [up_ne _ _ (by omega)]
theorem WF.grow {σ : SG} (h : WF σ) {f s : Option Nat} {w : Nat → Int64} {an : Nat → Bool} (hV : sV σ < 400) (hf : OLt f (sV σ)) (hs : OLt s (sV σ)) (ha : AnOK σ (sV σ) f s an) : WF (gGrow σ f s w an) := by
  obtain ⟨h1, h2, h3, h4, h5, h6⟩ := h
  refine ⟨Nat.zero_le _, hV, h3, h4, fun b hb => Nat.lt_succ_of_lt (h5 b hb), fun k hk => ?_⟩
  have hk : k < sV σ + 1 := hk
  by_cases e : k = sV σ
  · subst e
    refine ⟨?_, ?_, ?_⟩
    · show OLt (va_up (sF σ) (sV σ) f (sV σ)) _; rw [up_eq]; exact hf
    · show OLt (va_up (sS σ) (sV σ) s (sV σ)) _; rw [up_eq]; exact hs
    · show AnOK _ _ (va_up (sF σ) (sV σ) f (sV σ)) (va_up (sS σ) (sV σ) s (sV σ)) (va_up (sA σ) (sV σ) an (sV σ))
      rw [up_eq, up_eq, up_eq]
      intro j hj
      rw [anO_up hf, anO_up hs]
      exact ha j hj
  · have hk2 : k < sV σ := by omega
    obtain ⟨q1, q2, q3⟩ := h6 k hk2
    refine ⟨?_, ?_, ?_⟩
    · show OLt (va_up (sF σ) (sV σ) f k) _; rw [up_ne _ _ e]; exact q1
    · show OLt (va_up (sS σ) (sV σ) s k) _; rw [up_ne _ _ e]; exact q2
    · show AnOK _ _ (va_up (sF σ) (sV σ) f k) (va_up (sS σ) (sV σ) s k) (va_up (sA σ) (sV σ) an k)
      rw [up_ne _ _ e, up_ne _ _ e, up_ne _ _ e]
      intro j hj
      rw [anO_up (fun p hp => Nat.lt_trans (q1 p hp) hk2), anO_up (fun p hp => Nat.lt_trans (q2 p hp) hk2)]
      exact q3 j hj
theorem WF.head {σ : SG} (h : WF σ) {b v : Nat} (hv : v < sV σ) : WF (gHead σ b v) := by
  obtain ⟨h1, h2, h3, h4, h5, h6⟩ := h
  refine ⟨h1, h2, h3, h4, fun b' hb => ?_, h6⟩
  show va_up (sH σ) b v b' < sV σ
  by_cases e : b' = b
  · subst e; rw [up_eq]; exact hv
  · rw [up_ne _ _ e]; exact h5 b' hb
theorem WF.br {σ : SG} (h : WF σ) {v : Nat} (hB : sB σ < 40) (hv : v < sV σ) : WF (gBr σ v) := by
  obtain ⟨h1, h2, h3, h4, h5, h6⟩ := h
  refine ⟨h1, h2, Nat.zero_le _, hB, fun b' hb => ?_, h6⟩
  have hb : b' < sB σ + 1 := hb
  show va_up (sH σ) (sB σ) v b' < sV σ
  by_cases e : b' = sB σ
  · subst e; rw [up_eq]; exact hv
  · rw [up_ne _ _ e]; exact h5 b' (by omega)
theorem WF.m {σ : SG} (h : WF σ) {m : Nat → Int64} : WF (gM σ m) := h
/-- an ancestor isn't later -/
theorem WF.anc {σ : SG} (h : WF σ) : ∀ n k, k < n → k < sV σ → ∀ j, j < 400 → sA σ k j = true → j ≤ k
  | 0, k, h0, _, _, _, _ => by omega
  | n + 1, k, hn, hk, j, hj, ha => by
    obtain ⟨q1, q2, q3⟩ := h.2.2.2.2.2 k hk
    rw [q3 j hj] at ha
    rw [Bool.or_eq_true, Bool.or_eq_true] at ha
    have step : ∀ o : Option Nat, OLt o k → anO σ o j = true → j ≤ k := by
      intro o ho h1
      cases o with
      | none => cases h1
      | some p =>
        have hp := ho p rfl
        have := WF.anc h n p (by omega) (by omega) j hj h1
        omega
    rcases ha with (ha | ha) | ha
    · have := of_decide_eq_true ha; omega
    · exact step _ q1 ha
    · exact step _ q2 ha
theorem WF.self {σ : SG} (h : WF σ) {k : Nat} (hk : k < sV σ) : sA σ k k = true := by
  obtain ⟨q1, q2, q3⟩ := h.2.2.2.2.2 k hk
  rw [q3 k (by have := h.2.1; omega), show decide (k = k) = true from decide_eq_true rfl]
  rfl
/-- which codes stand for cells -/
def cLive (σ : SG) (c : Nat) : Prop := c < 9 ∨ (16 ≤ c ∧ c < 16 + 4 * sV σ) ∨ (2000 ≤ c ∧ c < 2000 + sB σ)
abbrev oA (A : Nat → Nat) (o : Option Nat) : Option Nat := o.map (fun p => A (16 + 4 * p))
def CR (D : va_G) (g : Nat → ClassId) (b0 : Nat) (A : Nat → Nat) (σ : SG) (dw : Nat → Int64) (H : Heap) : Prop :=
  WF σ ∧ (∀ c c', cLive σ c → cLive σ c' → A c = A c' → c = c') ∧ (∀ c, cLive σ c → b0 ≤ A c) ∧
  HA D H (A 0) (eO 3 [.ref (A 1), .ref (A 2), .int (nI (sV σ)), .int (nI (sB σ)), .ref (A 3), .ref (A 5), .ref (A 7)]) ∧
  HA D H (A 1) (eQ (g 5) 400 (fun k => if k < sV σ then some (A (16 + 4 * k)) else none)) ∧
  HA D H (A 2) (eQ (g 4) 40 (fun k => if k < sB σ then some (A (2000 + k)) else none)) ∧
  HA D H (A 3) (eO 1 [.ref (A 4)]) ∧ HA D H (A 4) (eL (g 2) 64 (fun _ => 0)) ∧
  HA D H (A 5) (eO 1 [.ref (A 6)]) ∧ HA D H (A 6) (eL (g 2) 64 (sM σ)) ∧
  HA D H (A 7) (eO 1 [.ref (A 8)]) ∧ HA D H (A 8) (eL (g 2) 64 dw) ∧
  (∀ k, k < sV σ → HA D H (A (16 + 4 * k)) (eO 2 [.int (nI k), va_rf (oA A (sF σ k)), va_rf (oA A (sS σ k)), .ref (A (17 + 4 * k)), .ref (A (19 + 4 * k))]) ∧ HA D H (A (17 + 4 * k)) (eO 1 [.ref (A (18 + 4 * k))]) ∧ HA D H (A (18 + 4 * k)) (eL (g 2) 64 (sW σ k)) ∧ HA D H (A (19 + 4 * k)) (eI (g 3) 400 (fun j => b2i (sA σ k j)))) ∧
  (∀ b, b < sB σ → HA D H (A (2000 + b)) (eO 0 [.ref (A (16 + 4 * sH σ b))]))
section CRS
variable {D : va_G} {g : Nat → ClassId} {b0 : Nat} {A : Nat → Nat} {σ : SG} {dw : Nat → Int64} {H H1 : Heap}
theorem CR.wf (h : CR D g b0 A σ dw H) : WF σ := h.1
theorem CR.ge (h : CR D g b0 A σ dw H) {c : Nat} (hc : cLive σ c) : b0 ≤ A c := h.2.2.1 c hc
theorem CR.ne (h : CR D g b0 A σ dw H) {c c' : Nat} (hc : cLive σ c) (hc' : cLive σ c') (hn : c ≠ c') : A c ≠ A c' := fun e => hn (h.2.1 c c' hc hc' e)
theorem CR.o (h : CR D g b0 A σ dw H) : HA D H (A 0) (eO 3 [.ref (A 1), .ref (A 2), .int (nI (sV σ)), .int (nI (sB σ)), .ref (A 3), .ref (A 5), .ref (A 7)]) := h.2.2.2.1
theorem CR.vr (h : CR D g b0 A σ dw H) : HA D H (A 1) (eQ (g 5) 400 (fun k => if k < sV σ then some (A (16 + 4 * k)) else none)) := h.2.2.2.2.1
theorem CR.br (h : CR D g b0 A σ dw H) : HA D H (A 2) (eQ (g 4) 40 (fun k => if k < sB σ then some (A (2000 + k)) else none)) := h.2.2.2.2.2.1
theorem CR.nt (h : CR D g b0 A σ dw H) : HA D H (A 3) (eO 1 [.ref (A 4)]) := h.2.2.2.2.2.2.1
theorem CR.nw (h : CR D g b0 A σ dw H) : HA D H (A 4) (eL (g 2) 64 (fun _ => 0)) := h.2.2.2.2.2.2.2.1
theorem CR.mg (h : CR D g b0 A σ dw H) : HA D H (A 5) (eO 1 [.ref (A 6)]) := h.2.2.2.2.2.2.2.2.1
theorem CR.mw (h : CR D g b0 A σ dw H) : HA D H (A 6) (eL (g 2) 64 (sM σ)) := h.2.2.2.2.2.2.2.2.2.1
theorem CR.dr (h : CR D g b0 A σ dw H) : HA D H (A 7) (eO 1 [.ref (A 8)]) := h.2.2.2.2.2.2.2.2.2.2.1
theorem CR.drw (h : CR D g b0 A σ dw H) : HA D H (A 8) (eL (g 2) 64 dw) := h.2.2.2.2.2.2.2.2.2.2.2.1
theorem CR.ver (h : CR D g b0 A σ dw H) {k : Nat} (hk : k < sV σ) : HA D H (A (16 + 4 * k)) (eO 2 [.int (nI k), va_rf (oA A (sF σ k)), va_rf (oA A (sS σ k)), .ref (A (17 + 4 * k)), .ref (A (19 + 4 * k))]) := (h.2.2.2.2.2.2.2.2.2.2.2.2.1 k hk).1
theorem CR.ts (h : CR D g b0 A σ dw H) {k : Nat} (hk : k < sV σ) : HA D H (A (17 + 4 * k)) (eO 1 [.ref (A (18 + 4 * k))]) := (h.2.2.2.2.2.2.2.2.2.2.2.2.1 k hk).2.1
theorem CR.tw (h : CR D g b0 A σ dw H) {k : Nat} (hk : k < sV σ) : HA D H (A (18 + 4 * k)) (eL (g 2) 64 (sW σ k)) := (h.2.2.2.2.2.2.2.2.2.2.2.2.1 k hk).2.2.1
theorem CR.an (h : CR D g b0 A σ dw H) {k : Nat} (hk : k < sV σ) : HA D H (A (19 + 4 * k)) (eI (g 3) 400 (fun j => b2i (sA σ k j))) := (h.2.2.2.2.2.2.2.2.2.2.2.2.1 k hk).2.2.2
theorem CR.ba (h : CR D g b0 A σ dw H) {b : Nat} (hb : b < sB σ) : HA D H (A (2000 + b)) (eO 0 [.ref (A (16 + 4 * sH σ b))]) := h.2.2.2.2.2.2.2.2.2.2.2.2.2 b hb
theorem cl0 {σ : SG} {c : Nat} (h : c < 9) : cLive σ c := Or.inl h
theorem clV {σ : SG} {c : Nat} (k : Nat) (h : k < sV σ) (h1 : 16 + 4 * k ≤ c) (h2 : c < 20 + 4 * k) : cLive σ c := Or.inr (Or.inl ⟨by omega, by omega⟩)
theorem clB {σ : SG} {b : Nat} (h : b < sB σ) : cLive σ (2000 + b) := Or.inr (Or.inr ⟨by omega, by omega⟩)
/-- every live cell but one is as it was -/
theorem CR.kept (h : CR D g b0 A σ dw H) {c0 : Nat} (h0 : cLive σ c0) (hC : Chg H H1 (A c0)) {c : Nat} (hc : cLive σ c) (hn : c ≠ c0) {e : va_E} (he : HA D H (A c) e) : HA D H1 (A c) e := he.chg hC (h.ne hc h0 hn)
theorem CR.draft (h : CR D g b0 A σ dw H) {dw' : Nat → Int64} (hw : HA D H1 (A 8) (eL (g 2) 64 dw')) (hC : Chg H H1 (A 8)) : CR D g b0 A σ dw' H1 := by
  have K : ∀ {c : Nat}, cLive σ c → c ≠ 8 → ∀ {e : va_E}, HA D H (A c) e → HA D H1 (A c) e := fun {_} hc hn {_} he => h.kept (cl0 (by omega)) hC hc hn he
  exact ⟨h.1, h.2.1, h.2.2.1, K (cl0 (by omega)) (by omega) h.o, K (cl0 (by omega)) (by omega) h.vr, K (cl0 (by omega)) (by omega) h.br, K (cl0 (by omega)) (by omega) h.nt, K (cl0 (by omega)) (by omega) h.nw, K (cl0 (by omega)) (by omega) h.mg, K (cl0 (by omega)) (by omega) h.mw, K (cl0 (by omega)) (by omega) h.dr, hw,
    fun k hk => ⟨K (clV k hk (by omega) (by omega)) (by omega) (h.ver hk), K (clV k hk (by omega) (by omega)) (by omega) (h.ts hk), K (clV k hk (by omega) (by omega)) (by omega) (h.tw hk), K (clV k hk (by omega) (by omega)) (by omega) (h.an hk)⟩,
    fun b hb => K (clB hb) (by omega) (h.ba hb)⟩
theorem CR.merged (h : CR D g b0 A σ dw H) {m : Nat → Int64} (hw : HA D H1 (A 6) (eL (g 2) 64 m)) (hC : Chg H H1 (A 6)) : CR D g b0 A (gM σ m) dw H1 := by
  have K : ∀ {c : Nat}, cLive σ c → c ≠ 6 → ∀ {e : va_E}, HA D H (A c) e → HA D H1 (A c) e := fun {_} hc hn {_} he => h.kept (cl0 (by omega)) hC hc hn he
  exact ⟨h.1, h.2.1, h.2.2.1, K (cl0 (by omega)) (by omega) h.o, K (cl0 (by omega)) (by omega) h.vr, K (cl0 (by omega)) (by omega) h.br, K (cl0 (by omega)) (by omega) h.nt, K (cl0 (by omega)) (by omega) h.nw, K (cl0 (by omega)) (by omega) h.mg, hw, K (cl0 (by omega)) (by omega) h.dr, K (cl0 (by omega)) (by omega) h.drw,
    fun k hk => ⟨K (clV k hk (by omega) (by omega)) (by omega) (h.ver hk), K (clV k hk (by omega) (by omega)) (by omega) (h.ts hk), K (clV k hk (by omega) (by omega)) (by omega) (h.tw hk), K (clV k hk (by omega) (by omega)) (by omega) (h.an hk)⟩,
    fun b hb => K (clB hb) (by omega) (h.ba hb)⟩
theorem CR.head (h : CR D g b0 A σ dw H) {b v : Nat} (hb : b < sB σ) (hv : v < sV σ) (hw : HA D H1 (A (2000 + b)) (eO 0 [.ref (A (16 + 4 * v))])) (hC : Chg H H1 (A (2000 + b))) : CR D g b0 A (gHead σ b v) dw H1 := by
  have hV := h.1.2.1
  have K : ∀ {c : Nat}, cLive σ c → c ≠ 2000 + b → ∀ {e : va_E}, HA D H (A c) e → HA D H1 (A c) e := fun {_} hc hn {_} he => h.kept (clB hb) hC hc hn he
  exact ⟨h.1.head hv, h.2.1, h.2.2.1, K (cl0 (by omega)) (by omega) h.o, K (cl0 (by omega)) (by omega) h.vr, K (cl0 (by omega)) (by omega) h.br, K (cl0 (by omega)) (by omega) h.nt, K (cl0 (by omega)) (by omega) h.nw, K (cl0 (by omega)) (by omega) h.mg, K (cl0 (by omega)) (by omega) h.mw, K (cl0 (by omega)) (by omega) h.dr, K (cl0 (by omega)) (by omega) h.drw,
    fun k hk => ⟨K (clV k hk (by omega) (by omega)) (by have : k < sV σ := hk; omega) (h.ver hk), K (clV k hk (by omega) (by omega)) (by have : k < sV σ := hk; omega) (h.ts hk), K (clV k hk (by omega) (by omega)) (by have : k < sV σ := hk; omega) (h.tw hk), K (clV k hk (by omega) (by omega)) (by have : k < sV σ := hk; omega) (h.an hk)⟩,
    fun b' hb' => by
      show HA D H1 (A (2000 + b')) (eO 0 [.ref (A (16 + 4 * va_up (sH σ) b v b'))])
      by_cases e : b' = b
      · subst e; rw [up_eq]; exact hw
      · rw [up_ne _ _ e]; exact K (clB hb') (by omega) (h.ba hb')⟩
/-- the frame that the rest of the world sees -/
def CFr (H : Heap) (A : Nat → Nat) (σ : SG) (H1 : Heap) (A1 : Nat → Nat) (σ1 : SG) : Prop := H.size ≤ H1.size ∧ ∀ q, q < H.size → (∀ c, cLive σ c → q ≠ A c) → H1[q]? = H[q]? ∧ ∀ c, cLive σ1 c → q ≠ A1 c
theorem CFr.rf {H : Heap} {A : Nat → Nat} {σ : SG} : CFr H A σ H A σ := ⟨Nat.le_refl _, fun _ _ h => ⟨rfl, h⟩⟩
theorem CFr.tr {H H1 H2 : Heap} {A A1 A2 : Nat → Nat} {σ σ1 σ2 : SG} (h : CFr H A σ H1 A1 σ1) (h2 : CFr H1 A1 σ1 H2 A2 σ2) : CFr H A σ H2 A2 σ2 := ⟨Nat.le_trans h.1 h2.1, fun q hq ho => by
  obtain ⟨a1, a2⟩ := h.2 q hq ho
  obtain ⟨b1, b2⟩ := h2.2 q (Nat.lt_of_lt_of_le hq h.1) a2
  exact ⟨b1.trans a1, b2⟩⟩
theorem CFr.chg {H H1 : Heap} {A : Nat → Nat} {σ σ1 : SG} {c0 : Nat} (h0 : cLive σ c0) (hC : Chg H H1 (A c0)) (hl : ∀ c, cLive σ1 c → cLive σ c) : CFr H A σ H1 A σ1 := ⟨hC.1, fun q hq ho => ⟨hC.2 q hq (ho c0 h0), fun c hc => ho c (hl c hc)⟩⟩
/-- addresses with a version's four cells more -/
def AV (A : Nat → Nat) (n q0 q1 q2 q3 : Nat) : Nat → Nat := fun c => if c = 16 + 4 * n then q0 else if c = 17 + 4 * n then q1 else if c = 18 + 4 * n then q2 else if c = 19 + 4 * n then q3 else A c
theorem AV0 (A : Nat → Nat) (n q0 q1 q2 q3 : Nat) : AV A n q0 q1 q2 q3 (16 + 4 * n) = q0 := if_pos rfl
theorem AV1 (A : Nat → Nat) (n q0 q1 q2 q3 : Nat) : AV A n q0 q1 q2 q3 (17 + 4 * n) = q1 := by unfold AV; rw [if_neg (by omega), if_pos rfl]
theorem AV2 (A : Nat → Nat) (n q0 q1 q2 q3 : Nat) : AV A n q0 q1 q2 q3 (18 + 4 * n) = q2 := by unfold AV; rw [if_neg (by omega), if_neg (by omega), if_pos rfl]
theorem AV3 (A : Nat → Nat) (n q0 q1 q2 q3 : Nat) : AV A n q0 q1 q2 q3 (19 + 4 * n) = q3 := by unfold AV; rw [if_neg (by omega), if_neg (by omega), if_neg (by omega), if_pos rfl]
theorem AVo (A : Nat → Nat) (n q0 q1 q2 q3 : Nat) {c : Nat} (h : c < 16 + 4 * n ∨ 20 + 4 * n ≤ c) : AV A n q0 q1 q2 q3 c = A c := by unfold AV; rw [if_neg (by omega), if_neg (by omega), if_neg (by omega), if_neg (by omega)]
theorem oA_AV (A : Nat → Nat) (n q0 q1 q2 q3 : Nat) {o : Option Nat} (ho : OLt o n) : oA (AV A n q0 q1 q2 q3) o = oA A o := by
  cases o with
  | none => rfl
  | some p =>
    have := ho p rfl
    show some (AV A n q0 q1 q2 q3 (16 + 4 * p)) = some (A (16 + 4 * p))
    rw [AVo A n q0 q1 q2 q3 (Or.inl (by omega))]
theorem CR.lt (h : CR D g b0 A σ dw H) {c : Nat} (hc : cLive σ c) : A c < H.size := by
  rcases hc with hc | ⟨h1, h2⟩ | ⟨h1, h2⟩
  · match c, hc with
    | 0, _ => exact h.o.lt
    | 1, _ => exact h.vr.lt
    | 2, _ => exact h.br.lt
    | 3, _ => exact h.nt.lt
    | 4, _ => exact h.nw.lt
    | 5, _ => exact h.mg.lt
    | 6, _ => exact h.mw.lt
    | 7, _ => exact h.dr.lt
    | 8, _ => exact h.drw.lt
    | n + 9, hc => omega
  · have hk : (c - 16) / 4 < sV σ := by omega
    have hm : c = 16 + 4 * ((c - 16) / 4) ∨ c = 17 + 4 * ((c - 16) / 4) ∨ c = 18 + 4 * ((c - 16) / 4) ∨ c = 19 + 4 * ((c - 16) / 4) := by omega
    rcases hm with e | e | e | e <;> rw [e]
    · exact (h.ver hk).lt
    · exact (h.ts hk).lt
    · exact (h.tw hk).lt
    · exact (h.an hk).lt
  · have := (h.ba (b := c - 2000) (by omega)).lt
    rw [show 2000 + (c - 2000) = c by omega] at this
    exact this
/-- a version more -/
theorem CR.addV (h : CR D g b0 A σ dw H) {f s : Option Nat} {w : Nat → Int64} {an : Nat → Bool} {q0 q1 q2 q3 : Nat} (hV : sV σ < 400) (hf : OLt f (sV σ)) (hs : OLt s (sV σ)) (ha : AnOK σ (sV σ) f s an) (hb : b0 ≤ H.size)
    (n0 : H.size ≤ q0) (n1 : q0 < q1) (n2 : q1 < q2) (n3 : q2 < q3) (hz : H.size ≤ H1.size) (hfr : ∀ q, q < H.size → q ≠ A 0 → q ≠ A 1 → H1[q]? = H[q]?)
    (c0 : HA D H1 q0 (eO 2 [.int (nI (sV σ)), va_rf (oA A f), va_rf (oA A s), .ref q1, .ref q3])) (c1 : HA D H1 q1 (eO 1 [.ref q2])) (c2 : HA D H1 q2 (eL (g 2) 64 w)) (c3 : HA D H1 q3 (eI (g 3) 400 (fun j => b2i (an j))))
    (d0 : HA D H1 (A 0) (eO 3 [.ref (A 1), .ref (A 2), .int (nI (sV σ + 1)), .int (nI (sB σ)), .ref (A 3), .ref (A 5), .ref (A 7)]))
    (d1 : HA D H1 (A 1) (eQ (g 5) 400 (va_up (fun k => if k < sV σ then some (A (16 + 4 * k)) else none) (sV σ) (some q0)))) :
    CR D g b0 (AV A (sV σ) q0 q1 q2 q3) (gGrow σ f s w an) dw H1 ∧ CFr H A σ H1 (AV A (sV σ) q0 q1 q2 q3) (gGrow σ f s w an) := by
  have hB := h.1.2.2.2.1
  have o : ∀ {c : Nat}, cLive σ c → AV A (sV σ) q0 q1 q2 q3 c = A c := fun {c} hc => AVo A (sV σ) q0 q1 q2 q3 (by rcases hc with z | ⟨z1, z2⟩ | ⟨z1, z2⟩ <;> omega)
  have K : ∀ {c : Nat}, cLive σ c → c ≠ 0 → c ≠ 1 → ∀ {e : va_E}, HA D H (A c) e → HA D H1 (AV A (sV σ) q0 q1 q2 q3 c) e := fun {c} hc g0 g1 {e} he => by
    rw [o hc]
    exact he.kept (hfr _ he.lt (h.ne hc (cl0 (by omega)) g0) (h.ne hc (cl0 (by omega)) g1))
  have live : ∀ c, cLive (gGrow σ f s w an) c → cLive σ c ∨ (16 + 4 * sV σ ≤ c ∧ c < 20 + 4 * sV σ) := by
    intro c hc
    rcases hc with z | ⟨z1, z2⟩ | ⟨z1, z2⟩
    · exact Or.inl (Or.inl z)
    · have z2 : c < 16 + 4 * (sV σ + 1) := z2
      rcases Nat.lt_or_ge c (16 + 4 * sV σ) with y | y
      · exact Or.inl (Or.inr (Or.inl ⟨z1, y⟩))
      · exact Or.inr ⟨y, by omega⟩
    · exact Or.inl (Or.inr (Or.inr ⟨z1, z2⟩))
  have new : ∀ c, 16 + 4 * sV σ ≤ c → c < 20 + 4 * sV σ → (c = 16 + 4 * sV σ ∧ AV A (sV σ) q0 q1 q2 q3 c = q0) ∨ (c = 17 + 4 * sV σ ∧ AV A (sV σ) q0 q1 q2 q3 c = q1) ∨ (c = 18 + 4 * sV σ ∧ AV A (sV σ) q0 q1 q2 q3 c = q2) ∨ (c = 19 + 4 * sV σ ∧ AV A (sV σ) q0 q1 q2 q3 c = q3) := by
    intro c y1 y2
    rcases (show c = 16 + 4 * sV σ ∨ c = 17 + 4 * sV σ ∨ c = 18 + 4 * sV σ ∨ c = 19 + 4 * sV σ by omega) with rfl | rfl | rfl | rfl
    · exact Or.inl ⟨rfl, AV0 ..⟩
    · exact Or.inr (Or.inl ⟨rfl, AV1 ..⟩)
    · exact Or.inr (Or.inr (Or.inl ⟨rfl, AV2 ..⟩))
    · exact Or.inr (Or.inr (Or.inr ⟨rfl, AV3 ..⟩))
  have newge : ∀ c, 16 + 4 * sV σ ≤ c → c < 20 + 4 * sV σ → H.size ≤ AV A (sV σ) q0 q1 q2 q3 c := by
    intro c y1 y2
    rcases new c y1 y2 with ⟨-, e⟩ | ⟨-, e⟩ | ⟨-, e⟩ | ⟨-, e⟩ <;> rw [e] <;> omega
  refine ⟨⟨h.1.grow hV hf hs ha, ?_, ?_, ?_, ?_, ?_, K (cl0 (by omega)) (by omega) (by omega) ?_, K (cl0 (by omega)) (by omega) (by omega) h.nw, K (cl0 (by omega)) (by omega) (by omega) ?_, K (cl0 (by omega)) (by omega) (by omega) h.mw, K (cl0 (by omega)) (by omega) (by omega) ?_, K (cl0 (by omega)) (by omega) (by omega) h.drw, ?_, ?_⟩, hz, ?_⟩
  · intro c c' hc hc' e
    rcases live c hc with y | ⟨y1, y2⟩ <;> rcases live c' hc' with y' | ⟨y1', y2'⟩
    · rw [o y, o y'] at e
      exact h.2.1 c c' y y' e
    · rw [o y] at e
      have := h.lt y
      have := newge c' y1' y2'
      omega
    · rw [o y'] at e
      have := h.lt y'
      have := newge c y1 y2
      omega
    · rcases new c y1 y2 with ⟨z, e1⟩ | ⟨z, e1⟩ | ⟨z, e1⟩ | ⟨z, e1⟩ <;> rcases new c' y1' y2' with ⟨z', e1'⟩ | ⟨z', e1'⟩ | ⟨z', e1'⟩ | ⟨z', e1'⟩ <;> rw [e1, e1'] at e <;> omega
  · intro c hc
    rcases live c hc with y | ⟨y1, y2⟩
    · rw [o y]; exact h.ge y
    · exact Nat.le_trans hb (newge c y1 y2)
  · rw [o (cl0 (by omega)), o (cl0 (by omega)), o (cl0 (by omega)), o (cl0 (by omega)), o (cl0 (by omega)), o (cl0 (by omega))]
    exact d0
  · rw [o (cl0 (by omega))]
    have e : (fun k => if k < sV (gGrow σ f s w an) then some (AV A (sV σ) q0 q1 q2 q3 (16 + 4 * k)) else none) = va_up (fun k => if k < sV σ then some (A (16 + 4 * k)) else none) (sV σ) (some q0) := by
      funext k
      show (if k < sV σ + 1 then _ else _) = _
      by_cases hk : k = sV σ
      · subst hk; rw [up_eq, if_pos (by omega), AV0]
      · rw [up_ne _ _ hk]
        by_cases hk2 : k < sV σ
        · rw [if_pos (by omega), if_pos hk2, AVo A (sV σ) q0 q1 q2 q3 (Or.inl (by omega))]
        · rw [if_neg (by omega), if_neg hk2]
    rw [e]
    exact d1
  · have e : (fun k => if k < sB (gGrow σ f s w an) then some (AV A (sV σ) q0 q1 q2 q3 (2000 + k)) else none) = (fun k => if k < sB σ then some (A (2000 + k)) else none) := by
      funext k
      show (if k < sB σ then _ else _) = _
      by_cases hk : k < sB σ
      · rw [if_pos hk, if_pos hk, AVo A (sV σ) q0 q1 q2 q3 (Or.inr (by omega))]
      · rw [if_neg hk, if_neg hk]
    rw [e]
    exact K (cl0 (by omega)) (by omega) (by omega) h.br
  · rw [o (cl0 (by omega))]; exact h.nt
  · rw [o (cl0 (by omega))]; exact h.mg
  · rw [o (cl0 (by omega))]; exact h.dr
  · intro k hk
    have hk : k < sV σ + 1 := hk
    show HA D H1 _ (eO 2 [.int (nI k), va_rf (oA _ (va_up (sF σ) (sV σ) f k)), va_rf (oA _ (va_up (sS σ) (sV σ) s k)), _, _]) ∧ _ ∧ HA D H1 _ (eL (g 2) 64 (va_up (sW σ) (sV σ) w k)) ∧ HA D H1 _ (eI (g 3) 400 (fun j => b2i (va_up (sA σ) (sV σ) an k j)))
    by_cases e : k = sV σ
    · subst e
      rw [up_eq, up_eq, up_eq, up_eq, AV0, AV1, AV2, AV3, oA_AV _ _ _ _ _ _ hf, oA_AV _ _ _ _ _ _ hs]
      exact ⟨c0, c1, c2, c3⟩
    · have hk2 : k < sV σ := by omega
      obtain ⟨p1, p2, -⟩ := h.1.2.2.2.2.2 k hk2
      rw [up_ne _ _ e, up_ne _ _ e, up_ne _ _ e, up_ne _ _ e, oA_AV _ _ _ _ _ _ (fun p hp => Nat.lt_trans (p1 p hp) hk2), oA_AV _ _ _ _ _ _ (fun p hp => Nat.lt_trans (p2 p hp) hk2)]
      refine ⟨K (clV k hk2 (by omega) (by omega)) (by omega) (by omega) ?_, K (clV k hk2 (by omega) (by omega)) (by omega) (by omega) ?_, K (clV k hk2 (by omega) (by omega)) (by omega) (by omega) (h.tw hk2), K (clV k hk2 (by omega) (by omega)) (by omega) (by omega) (h.an hk2)⟩
      · rw [o (clV k hk2 (by omega) (by omega)), o (clV k hk2 (by omega) (by omega))]; exact h.ver hk2
      · rw [o (clV k hk2 (by omega) (by omega))]; exact h.ts hk2
  · intro b hb
    have hh := h.1.2.2.2.2.1 b hb
    show HA D H1 _ (eO 0 [.ref (AV A (sV σ) q0 q1 q2 q3 (16 + 4 * sH σ b))])
    rw [o (c := 16 + 4 * sH σ b) (clV (sH σ b) hh (by omega) (by omega))]
    exact K (clB hb) (by omega) (by omega) (h.ba hb)
  · intro q hq ho
    refine ⟨hfr q hq (ho 0 (cl0 (by omega))) (ho 1 (cl0 (by omega))), fun c hc => ?_⟩
    rcases live c hc with y | ⟨y1, y2⟩
    · rw [o y]; exact ho c y
    · have := newge c y1 y2; omega
/-- a branch more -/
theorem CR.addB (h : CR D g b0 A σ dw H) {v q : Nat} (hB : sB σ < 40) (hv : v < sV σ) (hb : b0 ≤ H.size) (n0 : H.size ≤ q) (hz : H.size ≤ H1.size) (hfr : ∀ x, x < H.size → x ≠ A 0 → x ≠ A 2 → H1[x]? = H[x]?)
    (c0 : HA D H1 q (eO 0 [.ref (A (16 + 4 * v))]))
    (d0 : HA D H1 (A 0) (eO 3 [.ref (A 1), .ref (A 2), .int (nI (sV σ)), .int (nI (sB σ + 1)), .ref (A 3), .ref (A 5), .ref (A 7)]))
    (d1 : HA D H1 (A 2) (eQ (g 4) 40 (va_up (fun k => if k < sB σ then some (A (2000 + k)) else none) (sB σ) (some q)))) :
    CR D g b0 (va_up A (2000 + sB σ) q) (gBr σ v) dw H1 ∧ CFr H A σ H1 (va_up A (2000 + sB σ) q) (gBr σ v) := by
  have hV := h.1.2.1
  have o : ∀ {c : Nat}, cLive σ c → va_up A (2000 + sB σ) q c = A c := fun {c} hc => up_ne _ _ (by rcases hc with z | ⟨z1, z2⟩ | ⟨z1, z2⟩ <;> omega)
  have K : ∀ {c : Nat}, cLive σ c → c ≠ 0 → c ≠ 2 → ∀ {e : va_E}, HA D H (A c) e → HA D H1 (va_up A (2000 + sB σ) q c) e := fun {c} hc g0 g1 {e} he => by
    rw [o hc]
    exact he.kept (hfr _ he.lt (h.ne hc (cl0 (by omega)) g0) (h.ne hc (cl0 (by omega)) g1))
  have live : ∀ c, cLive (gBr σ v) c → cLive σ c ∨ c = 2000 + sB σ := by
    intro c hc
    rcases hc with z | ⟨z1, z2⟩ | ⟨z1, z2⟩
    · exact Or.inl (Or.inl z)
    · exact Or.inl (Or.inr (Or.inl ⟨z1, z2⟩))
    · have z2 : c < 2000 + (sB σ + 1) := z2
      rcases Nat.lt_or_ge c (2000 + sB σ) with y | y
      · exact Or.inl (Or.inr (Or.inr ⟨z1, y⟩))
      · exact Or.inr (by omega)
  refine ⟨⟨h.1.br hB hv, ?_, ?_, ?_, ?_, ?_, K (cl0 (by omega)) (by omega) (by omega) ?_, K (cl0 (by omega)) (by omega) (by omega) h.nw, K (cl0 (by omega)) (by omega) (by omega) ?_, K (cl0 (by omega)) (by omega) (by omega) h.mw, K (cl0 (by omega)) (by omega) (by omega) ?_, K (cl0 (by omega)) (by omega) (by omega) h.drw, ?_, ?_⟩, hz, ?_⟩
  · intro c c' hc hc' e
    rcases live c hc with y | y <;> rcases live c' hc' with y' | y'
    · rw [o y, o y'] at e
      exact h.2.1 c c' y y' e
    · rw [o y, y', up_eq] at e
      have := h.lt y
      omega
    · rw [o y', y, up_eq] at e
      have := h.lt y'
      omega
    · rw [y, y']
  · intro c hc
    rcases live c hc with y | y
    · rw [o y]; exact h.ge y
    · rw [y, up_eq]; omega
  · rw [o (cl0 (by omega)), o (cl0 (by omega)), o (cl0 (by omega)), o (cl0 (by omega)), o (cl0 (by omega)), o (cl0 (by omega))]
    exact d0
  · have e : (fun k => if k < sV (gBr σ v) then some (va_up A (2000 + sB σ) q (16 + 4 * k)) else none) = (fun k => if k < sV σ then some (A (16 + 4 * k)) else none) := by
      funext k
      show (if k < sV σ then _ else _) = _
      by_cases hk : k < sV σ
      · rw [if_pos hk, if_pos hk, o (clV k hk (by omega) (by omega))]
      · rw [if_neg hk, if_neg hk]
    rw [e]
    exact K (cl0 (by omega)) (by omega) (by omega) h.vr
  · rw [o (cl0 (by omega))]
    have e : (fun k => if k < sB (gBr σ v) then some (va_up A (2000 + sB σ) q (2000 + k)) else none) = va_up (fun k => if k < sB σ then some (A (2000 + k)) else none) (sB σ) (some q) := by
      funext k
      show (if k < sB σ + 1 then _ else _) = _
      by_cases hk : k = sB σ
      · subst hk; rw [up_eq, up_eq, if_pos (by omega)]
      · rw [up_ne _ _ hk, up_ne _ _ (by omega)]
        by_cases hk2 : k < sB σ
        · rw [if_pos (by omega), if_pos hk2]
        · rw [if_neg (by omega), if_neg hk2]
    rw [e]
    exact d1
  · rw [o (cl0 (by omega))]; exact h.nt
  · rw [o (cl0 (by omega))]; exact h.mg
  · rw [o (cl0 (by omega))]; exact h.dr
  · intro k hk
    have hk2 : k < sV σ := hk
    obtain ⟨p1, p2, -⟩ := h.1.2.2.2.2.2 k hk2
    have oo : ∀ {x : Option Nat}, OLt x k → oA (va_up A (2000 + sB σ) q) x = oA A x := fun {x} hx => by
      cases x with
      | none => rfl
      | some p => have := hx p rfl; show some (va_up A (2000 + sB σ) q (16 + 4 * p)) = some (A (16 + 4 * p)); rw [o (c := 16 + 4 * p) (clV p (by omega) (by omega) (by omega))]
    show HA D H1 _ (eO 2 [.int (nI k), va_rf (oA _ (sF σ k)), va_rf (oA _ (sS σ k)), _, _]) ∧ _ ∧ HA D H1 _ (eL (g 2) 64 (sW σ k)) ∧ HA D H1 _ (eI (g 3) 400 (fun j => b2i (sA σ k j)))
    rw [oo p1, oo p2]
    refine ⟨K (clV k hk2 (by omega) (by omega)) (by omega) (by omega) ?_, K (clV k hk2 (by omega) (by omega)) (by omega) (by omega) ?_, K (clV k hk2 (by omega) (by omega)) (by omega) (by omega) (h.tw hk2), K (clV k hk2 (by omega) (by omega)) (by omega) (by omega) (h.an hk2)⟩
    · rw [o (clV k hk2 (by omega) (by omega)), o (clV k hk2 (by omega) (by omega))]; exact h.ver hk2
    · rw [o (clV k hk2 (by omega) (by omega))]; exact h.ts hk2
  · intro b hb
    have hb : b < sB σ + 1 := hb
    show HA D H1 _ (eO 0 [.ref (va_up A (2000 + sB σ) q (16 + 4 * va_up (sH σ) (sB σ) v b))])
    by_cases e : b = sB σ
    · subst e
      rw [up_eq (sH σ), up_eq A, o (c := 16 + 4 * v) (clV v hv (by omega) (by omega))]
      exact c0
    · have hb2 : b < sB σ := by omega
      have hh := h.1.2.2.2.2.1 b hb2
      rw [up_ne (sH σ) _ e, o (c := 16 + 4 * sH σ b) (clV (sH σ b) hh (by omega) (by omega))]
      exact K (clB hb2) (by omega) (by omega) (h.ba hb2)
  · intro x hx ho
    refine ⟨hfr x hx (ho 0 (cl0 (by omega))) (ho 2 (cl0 (by omega))), fun c hc => ?_⟩
    rcases live c hc with y | y
    · rw [o y]; exact ho c y
    · rw [y, up_eq]; omega
end CRS
-- frames
def Fr (S : Nat → Prop) (H H1 : Heap) : Prop := H.size ≤ H1.size ∧ ∀ x, x < H.size → ¬ S x → H1[x]? = H[x]?
theorem Fr.rf {S : Nat → Prop} {H : Heap} : Fr S H H := ⟨Nat.le_refl _, fun _ _ _ => rfl⟩
theorem Fr.chg {S : Nat → Prop} {H H1 H2 : Heap} {a : Nat} (h : Fr S H H1) (h2 : Chg H1 H2 a) (ha : S a ∨ H.size ≤ a) : Fr S H H2 := ⟨Nat.le_trans h.1 h2.1, fun x hx hs => (h2.2 x (Nat.lt_of_lt_of_le hx h.1) (fun e => by subst e; rcases ha with z | z; exact hs z; omega)).trans (h.2 x hx hs)⟩
theorem Fr.add {S : Nat → Prop} {H H1 H2 : Heap} {a : Nat} (h : Fr S H H1) (h2 : Add H1 H2 a) : Fr S H H2 := ⟨Nat.le_trans h.1 (by rw [h2.2.1]; omega), fun x hx hs => (h2.2.2 x (Nat.lt_of_lt_of_le hx h.1)).trans (h.2 x hx hs)⟩
theorem Fr.to {S : Nat → Prop} {H H1 : Heap} {a : Nat} (h : Fr S H H1) (hs : ∀ x, S x → x = a) : Chg H H1 a := ⟨h.1, fun x hx hn => h.2 x hx (fun z => hn (hs x z))⟩
theorem HA.add {D : va_G} {H H1 : Heap} {a x : Nat} {e : va_E} (h : HA D H x e) (hA : Add H H1 a) : HA D H1 x e := h.kept (hA.2.2 x h.lt)
theorem upd_b2i (an : Nat → Bool) (i : Nat) (v : Bool) : upd (fun j => b2i (an j)) i (b2i v) = fun j => b2i (va_up an i v j) := by
  funext j
  unfold upd va_up
  split <;> rfl
end
section
/-! 10: makers: sets, branches, versions; ancestors (laid by wip/gen/cls10.py) -/
set_option maxHeartbeats 4000000 in
set_option maxRecDepth 100000 in
/-- TripleSet(): words of zeros -/
theorem c_X1_init (l : Launch) (D : va_G) (g : Nat → ClassId) (b0 : Nat) (H : Heap) (q0 : Nat) (ho : HA D H q0 (eO 1 [.null])) (hb0 : b0 ≤ q0) (hbH : b0 ≤ H.size) : Met l yX1_init wsX1_init ({ frames := 1, cells := 1, slots := 64, locals := 12 } : Room) (kPc D g [.ref q0] H) (kU (fun H1 => ∃ w, H.size ≤ w ∧ HA D H1 q0 (eO 1 [.ref w]) ∧ HA D H1 w (eL (g 2) 64 (fun _ => 0)) ∧ Chg H H1 q0)) 1 64 (kF b0) := by
  refine Met.ofW (cc := cX1_init) (maxL := 1) (ret := none) (by decide) rfl ?_
  intro p e s m args below meth c s₁ B hml hv
  obtain ⟨rfl, hH, hK⟩ := hv
  have hx := B.exec
  have hb := B.bytes
  have hr := B.returns
  have hts := atoms_spec (ws := wsX1_init) B.pre
  have hown : s.vm.findClass RX1 = some m.cls := findClass_of_methodNamed B.named
  have hlocks := B.notSynchronized
  have hin : meth.name = "<init>" := (name_of_methodNamed B.named B.method).1
  rw [hH]
  have hl := lv_entry ([.ref q0]) (n := 1) (Nat.le_of_ble_eq_true rfl)
  rw [lg_entry_eq]
  generalize (lg_sl ([.ref q0]) ++ List.replicate (1 - (lg_sl ([.ref q0])).length) Slot.unset).toArray = ls at hl ⊢
  have hl : lv_has ls 1 [(0, .ref q0)] := hl
  have hlt0 := ho.lt
  have hF0 : Fr (fun x => x = q0) H H := Fr.rf
  refine lv_aload_n hx hb dX1_init_0 rfl (lv_at hl 0 rfl) ?_
  refine W.objInit hx hb hown (hts (.methodLink RX1 3 objectInit) (by decide +kernel)) (hts (.instanceMethod objectInit) (by decide +kernel)) (hts (.code objectInit ⟨#[0xb1]⟩ 1 none) (by decide +kernel)) rfl (by rw [hml]; exact hl.1) rfl dX1_init_1 (Nat.le_of_ble_eq_true rfl) (Nat.le_of_ble_eq_true rfl) ?_
  refine W.eq (g2 := F0 m 4 ls []) rfl ?_
  refine lv_aload_n hx hb dX1_init_4 rfl (lv_at hl 0 rfl) ?_
  refine lv_bipush (v := nI 64) hx hb dX1_init_5 (by decide +kernel) ?_
  refine k_newa (atype := .long) hx hb (hts (.arrayClass .long) (by decide +kernel)) hK 2 (ty := .long) rfl rfl rfl (64, .inr (.inl (fun _ => 0))) (fun _ => rfl) (by decide +kernel) (by decide +kernel) (Nat.le_of_ble_eq_true rfl) (Nat.le_of_ble_eq_true rfl) (Nat.le_of_ble_eq_true rfl) dX1_init_7 (fun q_88 H_89 hw_90 hA_91 => ?_)
  refine W.widen (k := 1) (n := 64) (Nat.le_of_ble_eq_true rfl) (Nat.le_of_ble_eq_true rfl) ?_
  have hqe_q_88 := hA_91.1
  have ho_92 := ho.add hA_91
  have hF_93 := hF0.add hA_91
  have hz_94 := hA_91.2.1
  refine k_putF (ci := 1) (T := TX1) (N := 1) (v := .ref q_88) hx hb hts (by decide +kernel) tyX1 tyX1_ok nmX1 hown (hin) hK ho_92 LB.nil hb0 rfl 0 (by decide) rfl (hts (.fieldLink RX1 9 RX1 "words" "[J") (by decide +kernel)) rfl (ty := .array .long) (by decide +kernel) rfl rfl (Nat.le_of_ble_eq_true rfl) dX1_init_9 (fun H_95 locs_96 ho_97 hC_98 hLB_99 => ?_)
  have ho_97 : HA D H_95 q0 (eO 1 [.ref q_88]) := ho_97
  have hw_100 := hw_90.chg hC_98 (by omega)
  have hF_101 := hF_93.chg hC_98 (Or.inl rfl)
  have hz_102 := hC_98.1
  exact r_vU hx hb hr hLB_99 (Nat.le_refl _) (Nat.le_refl _) ⟨q_88, by omega, ho_97, hw_100, hF_101.to (fun _ h => h)⟩ dX1_init_12 hlocks
set_option maxHeartbeats 4000000 in
set_option maxRecDepth 100000 in
/-- Branch(head) -/
theorem c_X0_init (l : Launch) (D : va_G) (g : Nat → ClassId) (b0 : Nat) (H : Heap) (q0 : Nat) (ho : HA D H q0 (eO 0 [.null])) (hb0 : b0 ≤ q0) (v : Nat) : Met l yX0_init wsX0_init ({ frames := 1, cells := 0, slots := 0, locals := 12 } : Room) (kPc D g [.ref q0, .ref v] H) (kU (fun H1 => HA D H1 q0 (eO 0 [.ref v]) ∧ Chg H H1 q0)) 0 0 (kF b0) := by
  refine Met.ofW (cc := cX0_init) (maxL := 2) (ret := none) (by decide) rfl ?_
  intro p e s m args below meth c s₁ B hml hv
  obtain ⟨rfl, hH, hK⟩ := hv
  have hx := B.exec
  have hb := B.bytes
  have hr := B.returns
  have hts := atoms_spec (ws := wsX0_init) B.pre
  have hown : s.vm.findClass RX0 = some m.cls := findClass_of_methodNamed B.named
  have hlocks := B.notSynchronized
  have hin : meth.name = "<init>" := (name_of_methodNamed B.named B.method).1
  rw [hH]
  have hl := lv_entry ([.ref q0, .ref v]) (n := 2) (Nat.le_of_ble_eq_true rfl)
  rw [lg_entry_eq]
  generalize (lg_sl ([.ref q0, .ref v]) ++ List.replicate (2 - (lg_sl ([.ref q0, .ref v])).length) Slot.unset).toArray = ls at hl ⊢
  have hl : lv_has ls 2 [(0, .ref q0), (1, .ref v)] := hl
  have hlt0 := ho.lt
  have hF0 : Fr (fun x => x = q0) H H := Fr.rf
  refine lv_aload_n hx hb dX0_init_0 rfl (lv_at hl 0 rfl) ?_
  refine W.objInit hx hb hown (hts (.methodLink RX0 1 objectInit) (by decide +kernel)) (hts (.instanceMethod objectInit) (by decide +kernel)) (hts (.code objectInit ⟨#[0xb1]⟩ 1 none) (by decide +kernel)) rfl (by rw [hml]; exact hl.1) rfl dX0_init_1 (Nat.le_of_ble_eq_true rfl) (Nat.le_of_ble_eq_true rfl) ?_
  refine W.eq (g2 := F0 m 4 ls []) rfl ?_
  refine lv_aload_n hx hb dX0_init_4 rfl (lv_at hl 0 rfl) ?_
  refine lv_aload_n hx hb dX0_init_5 rfl (lv_at hl 1 rfl) ?_
  refine k_put (ci := 0) (T := TX0) (N := 1) (v := .ref v) hx hb hts (by decide +kernel) tyX0 tyX0_ok nmX0 hown hK ho LB.nil hb0 rfl 0 (by decide) rfl (hts (.fieldLink RX0 7 RX0 "head" "LVersionMerge$Version;") (by decide +kernel)) rfl (ty := .object "VersionMerge$Version") (by decide +kernel) rfl rfl (Nat.le_of_ble_eq_true rfl) dX0_init_6 (fun H_103 locs_104 ho_105 hC_106 hLB_107 => ?_)
  have ho_105 : HA D H_103 q0 (eO 0 [.ref v]) := ho_105
  have hF_108 := hF0.chg hC_106 (Or.inl rfl)
  have hz_109 := hC_106.1
  exact r_vU hx hb hr hLB_107 (Nat.le_refl _) (Nat.le_refl _) ⟨ho_105, hF_108.to (fun _ h => h)⟩ dX0_init_9 hlocks
set_option maxHeartbeats 4000000 in
set_option maxRecDepth 100000 in
/-- hasAncestor(j) -/
theorem c_X2_hasAncestor (l : Launch) (D : va_G) (g : Nat → ClassId) (H : Heap) (v na : Nat) (n0 : Int32) (u1 u2 u3 : Value) (an : Nat → Bool) (ho : HA D H v (eO 2 [.int n0, u1, u2, u3, .ref na])) (ha : HA D H na (eI (g 3) 400 (fun j => b2i (an j)))) (j : Nat) (hj : j < 400) : Met l yX2_hasAncestor wsX2_hasAncestor ({ frames := 0, cells := 0, slots := 0, locals := 0 } : Room) (kPc D g [.ref v, .int (nI j)] H) (kX (.int (b2i (an j))) H) 0 0 kN := by
  refine Met.ofW (cc := cX2_hasAncestor) (maxL := 2) (ret := (some .boolean)) (by decide) rfl ?_
  intro p e s m args below meth c s₁ B hml hv
  obtain ⟨rfl, hH, hK⟩ := hv
  have hx := B.exec
  have hb := B.bytes
  have hr := B.returns
  have hts := atoms_spec (ws := wsX2_hasAncestor) B.pre
  have hown : s.vm.findClass RX2 = some m.cls := findClass_of_methodNamed B.named
  have hlocks := B.notSynchronized
  rw [hH]
  have hl := lv_entry ([.ref v, .int (nI j)]) (n := 2) (Nat.le_of_ble_eq_true rfl)
  rw [lg_entry_eq]
  generalize (lg_sl ([.ref v, .int (nI j)]) ++ List.replicate (2 - (lg_sl ([.ref v, .int (nI j)])).length) Slot.unset).toArray = ls at hl ⊢
  have hl : lv_has ls 2 [(0, .ref v), (1, .int (nI j))] := hl
  refine lv_iload_n hx hb dX2_hasAncestor_0 rfl (lv_at hl 1 rfl) ?_
  refine n_if_lt (tgt := 24) hx hb dX2_hasAncestor_1 (by decide) (by omega) ?_
  refine lv_iload_n hx hb dX2_hasAncestor_4 rfl (lv_at hl 1 rfl) ?_
  refine lv_sipush (v := nI 400) hx hb dX2_hasAncestor_5 (by decide +kernel) ?_
  refine n_icmp_ge (tgt := 24) hx hb dX2_hasAncestor_8 (by decide) (by omega) (by omega) (fun c_111 => ?_) (fun c_111 => ?_)
  · skip
    refine lv_iconst (v := b2i false) hx hb dX2_hasAncestor_24 (by decide +kernel) ?_
    exact r_zX hx hb hr (absurd hj (by omega)) dX2_hasAncestor_25 hlocks
  · skip
    refine lv_aload_n hx hb dX2_hasAncestor_11 rfl (lv_at hl 0 rfl) ?_
    refine k_get (ci := 2) (C := RX2) (T := TX2) (N := 5) (v := .ref na) hx hb hts (by decide +kernel) hown hK ho rfl 4 (by decide) rfl (hts (.fieldLink RX2 18 RX2 "ancestors" "[Z") (by decide +kernel)) rfl dX2_hasAncestor_12 ?_
    refine lv_iload_n hx hb dX2_hasAncestor_15 rfl (lv_at hl 1 rfl) ?_
    refine k_zald hx hb hK ha (j) rfl (by omega) (by omega) dX2_hasAncestor_16 ?_
    refine z_if_eq (tgt := 24) hx hb dX2_hasAncestor_17 (by decide) (fun c_112 => ?_) (fun c_112 => ?_)
    · skip
      refine lv_iconst (v := b2i false) hx hb dX2_hasAncestor_24 (by decide +kernel) ?_
      exact r_zX hx hb hr (by rw [c_112]) dX2_hasAncestor_25 hlocks
    · skip
      refine lv_iconst (v := b2i true) hx hb dX2_hasAncestor_20 (by decide +kernel) ?_
      refine lv_goto (tgt := 25) hx hb dX2_hasAncestor_21 (by decide) ?_
      exact r_zX hx hb hr (by rw [c_112]) dX2_hasAncestor_25 hlocks
set_option maxHeartbeats 4000000 in
set_option maxRecDepth 100000 in
theorem c_X2_takeAncestors_0 (l : Launch) (D : va_G) (g : Nat → ClassId) (b0 : Nat) (H : Heap) (v : Nat) : Met l yX2_takeAncestors wsX2_takeAncestors ({ frames := 0, cells := 0, slots := 0, locals := 0 } : Room) (kPc D g [.ref v, .null] H) (kU (fun H1 => H1 = H)) 0 0 (kF b0) := by
  refine Met.ofW (cc := cX2_takeAncestors) (maxL := 3) (ret := none) (by decide) rfl ?_
  intro p e s m args below meth c s₁ B hml hv
  obtain ⟨rfl, hH, hK⟩ := hv
  have hx := B.exec
  have hb := B.bytes
  have hr := B.returns
  have hts := atoms_spec (ws := wsX2_takeAncestors) B.pre
  have hown : s.vm.findClass RX2 = some m.cls := findClass_of_methodNamed B.named
  have hlocks := B.notSynchronized
  rw [hH]
  have hl := lv_entry ([.ref v, .null]) (n := 3) (Nat.le_of_ble_eq_true rfl)
  rw [lg_entry_eq]
  generalize (lg_sl ([.ref v, .null]) ++ List.replicate (3 - (lg_sl ([.ref v, .null])).length) Slot.unset).toArray = ls at hl ⊢
  have hl : lv_has ls 3 [(0, .ref v), (1, .null)] := hl
  refine lv_aload_nN hx hb dX2_takeAncestors_0 rfl (lv_at hl 1 rfl) ?_
  refine lv_ifnonnullN hx hb dX2_takeAncestors_1 ?_
  exact r_vU hx hb hr LB.nil (Nat.le_refl _) (Nat.le_refl _) rfl dX2_takeAncestors_4 hlocks
set_option maxHeartbeats 4000000 in
set_option maxRecDepth 100000 in
theorem c_X2_takeAncestors_1 (l : Launch) (D : va_G) (g : Nat → ClassId) (b0 : Nat) (H : Heap) (v na : Nat) (n0 : Int32) (u1 u2 u3 : Value) (an : Nat → Bool) (ho : HA D H v (eO 2 [.int n0, u1, u2, u3, .ref na])) (ha : HA D H na (eI (g 3) 400 (fun j => b2i (an j)))) (hb0 : b0 ≤ na) (vp np : Nat) (n1 : Int32) (t1 t2 t3 : Value) (ap : Nat → Bool) (hop : HA D H vp (eO 2 [.int n1, t1, t2, t3, .ref np])) (hap : HA D H np (eI (g 3) 400 (fun j => b2i (ap j)))) (hvn : v ≠ na) (hvpn : vp ≠ na) (hnpn : np ≠ na) : Met l yX2_takeAncestors wsX2_takeAncestors ({ frames := 0, cells := 0, slots := 0, locals := 0 } : Room) (kPc D g [.ref v, .ref vp] H) (kU (fun H1 => ∃ an1 : Nat → Bool, HA D H1 na (eI (g 3) 400 (fun j => b2i (an1 j))) ∧ Chg H H1 na ∧ ∀ j, j < 400 → an1 j = (an j || ap j))) 0 0 (kF b0) := by
  refine Met.ofW (cc := cX2_takeAncestors) (maxL := 3) (ret := none) (by decide) rfl ?_
  intro p e s m args below meth c s₁ B hml hv
  obtain ⟨rfl, hH, hK⟩ := hv
  have hx := B.exec
  have hb := B.bytes
  have hr := B.returns
  have hts := atoms_spec (ws := wsX2_takeAncestors) B.pre
  have hown : s.vm.findClass RX2 = some m.cls := findClass_of_methodNamed B.named
  have hlocks := B.notSynchronized
  rw [hH]
  have hl := lv_entry ([.ref v, .ref vp]) (n := 3) (Nat.le_of_ble_eq_true rfl)
  rw [lg_entry_eq]
  generalize (lg_sl ([.ref v, .ref vp]) ++ List.replicate (3 - (lg_sl ([.ref v, .ref vp])).length) Slot.unset).toArray = ls at hl ⊢
  have hl : lv_has ls 3 [(0, .ref v), (1, .ref vp)] := hl
  refine lv_aload_n hx hb dX2_takeAncestors_0 rfl (lv_at hl 1 rfl) ?_
  refine lv_ifnonnull (tgt := 5) hx hb dX2_takeAncestors_1 (by decide) ?_
  refine lv_iconst (v := nI 0) hx hb dX2_takeAncestors_5 (by decide +kernel) ?_
  refine lv_istore_n (lv' := [(2, .int (nI 0)), (0, .ref v), (1, .ref vp)]) hx hb dX2_takeAncestors_6 rfl hl (by decide) rfl (fun ls hl => ?_)
  have loop : ∀ (n i : Nat) (H1 : Heap) (locs1 : List Loc) (an1 : Nat → Bool), 400 < i + n → i ≤ 400 → HA D H1 na (eI (g 3) 400 (fun j => b2i (an1 j))) → Chg H H1 na → LB b0 locs1 → (∀ j, j < 400 → an1 j = (an j || (decide (j < i) && ap j))) → ∀ ls, lv_has ls 3 [(2, .int (nI i)), (0, .ref v), (1, .ref vp)] → W p l e (headSpec wsX2_takeAncestors ({ frames := 0, cells := 0, slots := 0, locals := 0 } : Room)).room s m ([.ref v, .ref vp] : List Value).toArray below meth c H1 locs1 0 0 (MQ below (kU (fun H1 => ∃ an1 : Nat → Bool, HA D H1 na (eI (g 3) 400 (fun j => b2i (an1 j))) ∧ Chg H H1 na ∧ ∀ j, j < 400 → an1 j = (an j || ap j))) ([.ref v, .ref vp] : List Value).toArray s 0 0 (kF b0)) (F0 m 7 ls []) := by
    intro n
    induction n with
    | zero => intro i H1 locs1 an1 h0 h1; omega
    | succ n ih =>
      intro i H1 locs1 an1 hn hi hf hC hLB hv ls hl
      have hov := ho.chg hC hvn
      have hovp := hop.chg hC hvpn
      have hapn := hap.chg hC hnpn
      refine lv_iload_n hx hb dX2_takeAncestors_7 rfl (lv_at hl 0 rfl) ?_
      refine lv_sipush (v := nI 400) hx hb dX2_takeAncestors_8 (by decide +kernel) ?_
      refine n_icmp_ge (tgt := 36) hx hb dX2_takeAncestors_11 (by decide) (by omega) (by omega) (fun c_113 => ?_) (fun c_113 => ?_)
      · skip
        exact r_vU hx hb hr hLB (Nat.le_refl _) (Nat.le_refl _) ⟨an1, hf, hC, fun j hj => by rw [hv j hj, show decide (j < i) = true from decide_eq_true (by omega), Bool.true_and]⟩ dX2_takeAncestors_36 hlocks
      · skip
        refine lv_aload_n hx hb dX2_takeAncestors_14 rfl (lv_at hl 2 rfl) ?_
        refine k_get (ci := 2) (C := RX2) (T := TX2) (N := 5) (v := .ref np) hx hb hts (by decide +kernel) hown hK hovp rfl 4 (by decide) rfl (hts (.fieldLink RX2 18 RX2 "ancestors" "[Z") (by decide +kernel)) rfl dX2_takeAncestors_15 ?_
        refine lv_iload_n hx hb dX2_takeAncestors_18 rfl (lv_at hl 0 rfl) ?_
        refine k_zald hx hb hK hapn (i) rfl (by omega) (by omega) dX2_takeAncestors_19 ?_
        refine z_if_eq (tgt := 30) hx hb dX2_takeAncestors_20 (by decide) (fun c_114 => ?_) (fun c_114 => ?_)
        · skip
          refine lv_iinc (v := nI (i + 1)) (lv' := [(2, .int (nI (i + 1))), (0, .ref v), (1, .ref vp)]) hx hb dX2_takeAncestors_30 hl (k := 0) rfl (nI_add (i) 1) (by decide) rfl (fun ls hl => ?_)
          refine lv_goto (tgt := 7) hx hb dX2_takeAncestors_33 (by decide) ?_
          refine ih (i + 1) H1 locs1 an1 (by omega) (by omega) hf hC hLB ?_ ls (lv_sub hl [0, 1, 2] rfl)
          intro j hj
          rw [hv j hj]
          by_cases e : j = i
          · subst e
            rw [c_114, Bool.and_false, Bool.and_false]
          · rw [show decide (j < i + 1) = decide (j < i) from decide_eq_decide.mpr (by omega)]
        · skip
          refine lv_aload_n hx hb dX2_takeAncestors_23 rfl (lv_at hl 1 rfl) ?_
          refine k_get (ci := 2) (C := RX2) (T := TX2) (N := 5) (v := .ref na) hx hb hts (by decide +kernel) hown hK hov rfl 4 (by decide) rfl (hts (.fieldLink RX2 18 RX2 "ancestors" "[Z") (by decide +kernel)) rfl dX2_takeAncestors_24 ?_
          refine lv_iload_n hx hb dX2_takeAncestors_27 rfl (lv_at hl 0 rfl) ?_
          refine lv_iconst (v := b2i true) hx hb dX2_takeAncestors_28 (by decide +kernel) ?_
          refine k_zast (y := b2i true) hx hb hK hf hLB hb0 (i) rfl (by omega) (by omega) (b2i_z _) dX2_takeAncestors_29 (fun H_115 locs_116 hw_117 hC_118 hLB_119 => ?_)
          rw [upd_b2i] at hw_117
          refine lv_iinc (v := nI (i + 1)) (lv' := [(2, .int (nI (i + 1))), (0, .ref v), (1, .ref vp)]) hx hb dX2_takeAncestors_30 hl (k := 0) rfl (nI_add (i) 1) (by decide) rfl (fun ls hl => ?_)
          refine lv_goto (tgt := 7) hx hb dX2_takeAncestors_33 (by decide) ?_
          refine ih (i + 1) H_115 locs_116 _ (by omega) (by omega) hw_117 (hC.tr hC_118) hLB_119 ?_ ls (lv_sub hl [0, 1, 2] rfl)
          intro j hj
          by_cases e : j = i
          · subst e
            rw [up_eq, c_114, show decide (j < j + 1) = true from decide_eq_true (by omega), Bool.true_and, Bool.or_true]
          · rw [up_ne _ _ e, hv j hj, show decide (j < i + 1) = decide (j < i) from decide_eq_decide.mpr (by omega)]
  exact loop 401 0 H [] an (by omega) (by omega) ha Chg.rf LB.nil (fun j hj => by rw [show decide (j < 0) = false from decide_eq_false (Nat.not_lt_zero _), Bool.false_and, Bool.or_false]) ls (lv_sub hl [0, 1, 2] rfl)
set_option maxHeartbeats 4000000 in
set_option maxRecDepth 100000 in
/-- Version(number, first, second, triples) -/
theorem c_X2_init_00 (l : Launch) (D : va_G) (g : Nat → ClassId) (b0 : Nat) (H : Heap) (q0 : Nat) (ho : HA D H q0 (eO 2 [.int 0, .null, .null, .null, .null])) (hb0 : b0 ≤ q0) (hbH : b0 ≤ H.size) (v : Nat) (hv : v < 400) (x wx : Nat) (fx : Nat → Int64) (hox : HA D H x (eO 1 [.ref wx])) (hwx : HA D H wx (eL (g 2) 64 fx)) (hxb : b0 ≤ wx) (hx0 : x ≠ q0) (hwx0 : wx ≠ q0) : Met l yX2_init wsX2_init ({ frames := 2, cells := 3, slots := 465, locals := 61 } : Room) (kPc D g [.ref q0, .int (nI v), .null, .null, .ref x] H) (kU (fun H1 => ∃ (q1 q2 q3 : Nat) (w1 : Nat → Int64) (an1 : Nat → Bool), H.size ≤ q1 ∧ q1 < q2 ∧ q2 < q3 ∧ HA D H1 q0 (eO 2 [.int (nI v), .null, .null, .ref q1, .ref q3]) ∧ HA D H1 q1 (eO 1 [.ref q2]) ∧ HA D H1 q2 (eL (g 2) 64 w1) ∧ HA D H1 q3 (eI (g 3) 400 (fun j => b2i (an1 j))) ∧ Chg H H1 q0 ∧ (∀ j, j < 64 → w1 j = fx j) ∧ ∀ j, j < 400 → an1 j = (decide (j = v)))) 3 465 (kF b0) := by
  refine Met.ofW (cc := cX2_init) (maxL := 5) (ret := none) (by decide) rfl ?_
  intro p e s m args below meth c s₁ B hml hv
  obtain ⟨rfl, hH, hK⟩ := hv
  have hx := B.exec
  have hb := B.bytes
  have hr := B.returns
  have hts := atoms_spec (ws := wsX2_init) B.pre
  have hown : s.vm.findClass RX2 = some m.cls := findClass_of_methodNamed B.named
  have hlocks := B.notSynchronized
  have hin : meth.name = "<init>" := (name_of_methodNamed B.named B.method).1
  rw [hH]
  have hl := lv_entry ([.ref q0, .int (nI v), .null, .null, .ref x]) (n := 5) (Nat.le_of_ble_eq_true rfl)
  rw [lg_entry_eq]
  generalize (lg_sl ([.ref q0, .int (nI v), .null, .null, .ref x]) ++ List.replicate (5 - (lg_sl ([.ref q0, .int (nI v), .null, .null, .ref x])).length) Slot.unset).toArray = ls at hl ⊢
  have hl : lv_has ls 5 [(0, .ref q0), (1, .int (nI v)), (2, .null), (3, .null), (4, .ref x)] := hl
  have hlt0 := ho.lt
  have hltx := hox.lt
  have hltwx := hwx.lt
  have hF0 : Fr (fun x => x = q0) H H := Fr.rf
  refine lv_aload_n hx hb dX2_init_0 rfl (lv_at hl 0 rfl) ?_
  refine W.objInit hx hb hown (hts (.methodLink RX2 3 objectInit) (by decide +kernel)) (hts (.instanceMethod objectInit) (by decide +kernel)) (hts (.code objectInit ⟨#[0xb1]⟩ 1 none) (by decide +kernel)) rfl (by rw [hml]; exact hl.1) rfl dX2_init_1 (Nat.le_of_ble_eq_true rfl) (Nat.le_of_ble_eq_true rfl) ?_
  refine W.eq (g2 := F0 m 4 ls []) rfl ?_
  refine lv_aload_n hx hb dX2_init_4 rfl (lv_at hl 0 rfl) ?_
  refine k_new (ci := 1) (C := RX1) (T := TX1) (N := 1) (fs := [.null]) hx hb hts (by decide +kernel) tyX1 tyX1_ok hown (hts (.classLink RX2 9 RX1) (by decide +kernel)) (hts (.instantiable RX1 1) (by decide +kernel)) (hts (.initialized RX1) (by decide +kernel)) hK rfl (fun j hj => by rw [show j = 0 by omega]; rfl) (Nat.le_of_ble_eq_true rfl) (Nat.le_of_ble_eq_true rfl) dX2_init_5 (fun q_120 H_121 ho_122 hA_123 => ?_)
  refine W.widen (k := 1) (n := 1) (Nat.le_of_ble_eq_true rfl) (Nat.le_of_ble_eq_true rfl) ?_
  have hqe_q_120 := hA_123.1
  have ho_124 := ho.add hA_123
  have ho_125 := hox.add hA_123
  have hw_126 := hwx.add hA_123
  have hF_127 := hF0.add hA_123
  have hz_128 := hA_123.2.1
  refine lv_dup hx hb dX2_init_8 rfl ?_
  refine k_callU (va_runIN (As := []) (rest := [.ref q_120, .ref q0]) ⟨hx, hb, hml, hown, hts⟩ (c_X1_init l D g b0 H_121 q_120 ho_122 (by omega) (by omega)) ⟨va_cnB 0 hts gX2_init_X1_init_n11 rfl rfl rfl (hK.2.1 _ (List.mem_of_getElem? (i := 2) rfl)) (hts (.initialized RX1) (by decide +kernel)) (by decide +kernel) ⟨Nat.le_of_ble_eq_true rfl, Nat.le_of_ble_eq_true rfl⟩, rfl, hts (.instanceMethod yX1_init) (by decide +kernel)⟩ ⟨kPc_blind, fun U hU hW => kPc_at hK hU hW⟩ rfl rfl hl.1 rfl (lv_room (Nat.le_of_ble_eq_true rfl)) dX2_init_9 ⟨Nat.le_of_ble_eq_true rfl, Nat.le_of_ble_eq_true rfl⟩) LB.nil (fun Hi locsi hLBi hqi => ?_)
  refine W.widen (k := 2) (n := 65) (Nat.le_of_ble_eq_true rfl) (Nat.le_of_ble_eq_true rfl) ?_
  obtain ⟨q2, hq2s, hqi1, hqi2, hqi3⟩ := hqi
  have ho_129 := ho_124.chg hqi3 (by omega)
  have ho_130 := ho_125.chg hqi3 (by omega)
  have hw_131 := hw_126.chg hqi3 (by omega)
  have hF_132 := hF_127.chg hqi3 (Or.inr (by omega))
  have hz_133 := hqi3.1
  have hlq2 := hqi2.lt
  refine k_putF (ci := 2) (T := TX2) (N := 5) (v := .ref q_120) hx hb hts (by decide +kernel) tyX2 tyX2_ok nmX2 hown (hin) hK ho_129 hLBi hb0 rfl 3 (by decide) rfl (hts (.fieldLink RX2 12 RX2 "triples" "LVersionMerge$TripleSet;") (by decide +kernel)) rfl (ty := .object "VersionMerge$TripleSet") (by decide +kernel) rfl rfl (Nat.le_of_ble_eq_true rfl) dX2_init_12 (fun H_134 locs_135 ho_136 hC_137 hLB_138 => ?_)
  have ho_136 : HA D H_134 q0 (eO 2 [.int (0), .null, .null, .ref q_120, .null]) := ho_136
  have ho_139 := ho_130.chg hC_137 (by omega)
  have ho_140 := hqi1.chg hC_137 (by omega)
  have hw_141 := hw_131.chg hC_137 (by omega)
  have hw_142 := hqi2.chg hC_137 (by omega)
  have hF_143 := hF_132.chg hC_137 (Or.inl rfl)
  have hz_144 := hC_137.1
  refine lv_aload_n hx hb dX2_init_15 rfl (lv_at hl 0 rfl) ?_
  refine lv_sipush (v := nI 400) hx hb dX2_init_16 (by decide +kernel) ?_
  refine k_newa (atype := .boolean) hx hb (hts (.arrayClass .boolean) (by decide +kernel)) hK 3 (ty := .boolean) rfl rfl rfl (400, .inl (fun _ => 0)) (fun _ => rfl) (by decide +kernel) (by decide +kernel) (Nat.le_of_ble_eq_true rfl) (Nat.le_of_ble_eq_true rfl) (Nat.le_of_ble_eq_true rfl) dX2_init_19 (fun q_145 H_146 hw_147 hA_148 => ?_)
  refine W.widen (k := 3) (n := 465) (Nat.le_of_ble_eq_true rfl) (Nat.le_of_ble_eq_true rfl) ?_
  have hqe_q_145 := hA_148.1
  have ho_149 := ho_136.add hA_148
  have ho_150 := ho_139.add hA_148
  have ho_151 := ho_140.add hA_148
  have hw_152 := hw_141.add hA_148
  have hw_153 := hw_142.add hA_148
  have hF_154 := hF_143.add hA_148
  have hz_155 := hA_148.2.1
  have hw_156 : HA D H_146 q_145 (eI (g 3) 400 (fun j => b2i ((fun _ => false) j))) := hw_147
  refine k_putF (ci := 2) (T := TX2) (N := 5) (v := .ref q_145) hx hb hts (by decide +kernel) tyX2 tyX2_ok nmX2 hown (hin) hK ho_149 hLB_138 hb0 rfl 4 (by decide) rfl (hts (.fieldLink RX2 18 RX2 "ancestors" "[Z") (by decide +kernel)) rfl (ty := .array .boolean) (by decide +kernel) rfl rfl (Nat.le_of_ble_eq_true rfl) dX2_init_21 (fun H_157 locs_158 ho_159 hC_160 hLB_161 => ?_)
  have ho_159 : HA D H_157 q0 (eO 2 [.int (0), .null, .null, .ref q_120, .ref q_145]) := ho_159
  have ho_162 := ho_150.chg hC_160 (by omega)
  have ho_163 := ho_151.chg hC_160 (by omega)
  have hw_164 := hw_152.chg hC_160 (by omega)
  have hw_165 := hw_153.chg hC_160 (by omega)
  have hw_166 := hw_156.chg hC_160 (by omega)
  have hF_167 := hF_154.chg hC_160 (Or.inl rfl)
  have hz_168 := hC_160.1
  refine lv_aload_n hx hb dX2_init_24 rfl (lv_at hl 0 rfl) ?_
  refine lv_iload_n hx hb dX2_init_25 rfl (lv_at hl 1 rfl) ?_
  refine k_putF (ci := 2) (T := TX2) (N := 5) (v := .int (nI v)) hx hb hts (by decide +kernel) tyX2 tyX2_ok nmX2 hown (hin) hK ho_159 hLB_161 hb0 rfl 0 (by decide) rfl (hts (.fieldLink RX2 22 RX2 "number" "I") (by decide +kernel)) rfl (ty := .int) (by decide +kernel) rfl rfl (Nat.le_of_ble_eq_true rfl) dX2_init_26 (fun H_169 locs_170 ho_171 hC_172 hLB_173 => ?_)
  have ho_171 : HA D H_169 q0 (eO 2 [.int (nI v), .null, .null, .ref q_120, .ref q_145]) := ho_171
  have ho_174 := ho_162.chg hC_172 (by omega)
  have ho_175 := ho_163.chg hC_172 (by omega)
  have hw_176 := hw_164.chg hC_172 (by omega)
  have hw_177 := hw_165.chg hC_172 (by omega)
  have hw_178 := hw_166.chg hC_172 (by omega)
  have hF_179 := hF_167.chg hC_172 (Or.inl rfl)
  have hz_180 := hC_172.1
  refine lv_aload_n hx hb dX2_init_29 rfl (lv_at hl 0 rfl) ?_
  refine lv_aload_nN hx hb dX2_init_30 rfl (lv_at hl 2 rfl) ?_
  refine k_putF (ci := 2) (T := TX2) (N := 5) (v := .null) hx hb hts (by decide +kernel) tyX2 tyX2_ok nmX2 hown (hin) hK ho_171 hLB_173 hb0 rfl 1 (by decide) rfl (hts (.fieldLink RX2 26 RX2 "first" "LVersionMerge$Version;") (by decide +kernel)) rfl (ty := .object "VersionMerge$Version") (by decide +kernel) rfl rfl (Nat.le_of_ble_eq_true rfl) dX2_init_31 (fun H_181 locs_182 ho_183 hC_184 hLB_185 => ?_)
  have ho_183 : HA D H_181 q0 (eO 2 [.int (nI v), .null, .null, .ref q_120, .ref q_145]) := ho_183
  have ho_186 := ho_174.chg hC_184 (by omega)
  have ho_187 := ho_175.chg hC_184 (by omega)
  have hw_188 := hw_176.chg hC_184 (by omega)
  have hw_189 := hw_177.chg hC_184 (by omega)
  have hw_190 := hw_178.chg hC_184 (by omega)
  have hF_191 := hF_179.chg hC_184 (Or.inl rfl)
  have hz_192 := hC_184.1
  refine lv_aload_n hx hb dX2_init_34 rfl (lv_at hl 0 rfl) ?_
  refine lv_aload_nN hx hb dX2_init_35 rfl (lv_at hl 3 rfl) ?_
  refine k_putF (ci := 2) (T := TX2) (N := 5) (v := .null) hx hb hts (by decide +kernel) tyX2 tyX2_ok nmX2 hown (hin) hK ho_183 hLB_185 hb0 rfl 2 (by decide) rfl (hts (.fieldLink RX2 30 RX2 "second" "LVersionMerge$Version;") (by decide +kernel)) rfl (ty := .object "VersionMerge$Version") (by decide +kernel) rfl rfl (Nat.le_of_ble_eq_true rfl) dX2_init_36 (fun H_193 locs_194 ho_195 hC_196 hLB_197 => ?_)
  have ho_195 : HA D H_193 q0 (eO 2 [.int (nI v), .null, .null, .ref q_120, .ref q_145]) := ho_195
  have ho_198 := ho_186.chg hC_196 (by omega)
  have ho_199 := ho_187.chg hC_196 (by omega)
  have hw_200 := hw_188.chg hC_196 (by omega)
  have hw_201 := hw_189.chg hC_196 (by omega)
  have hw_202 := hw_190.chg hC_196 (by omega)
  have hF_203 := hF_191.chg hC_196 (Or.inl rfl)
  have hz_204 := hC_196.1
  refine lv_aload_n hx hb dX2_init_39 rfl (lv_at hl 0 rfl) ?_
  refine k_get (ci := 2) (C := RX2) (T := TX2) (N := 5) (v := .ref q_120) hx hb hts (by decide +kernel) hown hK ho_195 rfl 3 (by decide) rfl (hts (.fieldLink RX2 12 RX2 "triples" "LVersionMerge$TripleSet;") (by decide +kernel)) rfl dX2_init_40 ?_
  refine lv_aload hx hb dX2_init_43 (lv_at hl 4 rfl) ?_
  refine k_callU (va_runVN (As := [.ref x]) (rest := []) ⟨hx, hb, hml, hown, hts⟩ (c_X1_becomeCopy l D g b0 H_193 q_120 q2 (fun _ => 0) ho_199 hw_201 (by omega) x wx fx ho_198 hw_200 hxb (by omega)) ⟨va_cnB 1 hts gX2_init_X1_becomeCopy_n33 rfl rfl rfl (hK.2.1 _ (List.mem_of_getElem? (i := 3) rfl)) (hts (.initialized RX1) (by decide +kernel)) (by decide +kernel) ⟨Nat.le_of_ble_eq_true rfl, Nat.le_of_ble_eq_true rfl⟩, hts (.instanceMethod yX1_becomeCopy) (by decide +kernel), hts (.selects RX1 yX1_becomeCopy yX1_becomeCopy) (by decide +kernel)⟩ ⟨kPc_blind, k_recv hK ho_199 rfl, fun U hU hW => kPc_at hK hU hW⟩ rfl rfl hl.1 rfl (lv_room (Nat.le_of_ble_eq_true rfl)) dX2_init_45 ⟨Nat.le_of_ble_eq_true rfl, Nat.le_of_ble_eq_true rfl⟩) hLB_197 (fun Hb locsb hLBb hqb => ?_)
  obtain ⟨w1, hw1, hCb, hw1v⟩ := hqb
  have ho_205 := ho_195.chg hCb (by omega)
  have ho_206 := ho_198.chg hCb (by omega)
  have ho_207 := ho_199.chg hCb (by omega)
  have hw_208 := hw_200.chg hCb (by omega)
  have hw_209 := hw_202.chg hCb (by omega)
  have hF_210 := hF_203.chg hCb (Or.inr (by omega))
  have hz_211 := hCb.1
  refine lv_aload_n hx hb dX2_init_48 rfl (lv_at hl 0 rfl) ?_
  refine lv_aload_nN hx hb dX2_init_49 rfl (lv_at hl 2 rfl) ?_
  refine k_callU (va_runV (As := [.null]) (rest := []) ⟨hx, hb, hml, hown, hts⟩ (c_X2_takeAncestors_0 l D g b0 Hb q0) (cwV 1 hts gX2_init_X2_takeAncestors rfl rfl rfl (by decide +kernel) ⟨Nat.le_of_ble_eq_true rfl, Nat.le_of_ble_eq_true rfl⟩) ⟨kPc_blind, k_recv hK ho_205 rfl, fun U hU hW => kPc_at hK hU hW⟩ rfl rfl hl.1 rfl (lv_room (Nat.le_of_ble_eq_true rfl)) dX2_init_50 ⟨Nat.le_of_ble_eq_true rfl, Nat.le_of_ble_eq_true rfl⟩) hLBb (fun Ht1 locst1 hLBt1 hqt1 => ?_)
  have hqs1 := hqt1.symm
  subst hqs1
  refine lv_aload_n hx hb dX2_init_53 rfl (lv_at hl 0 rfl) ?_
  refine lv_aload_nN hx hb dX2_init_54 rfl (lv_at hl 3 rfl) ?_
  refine k_callU (va_runV (As := [.null]) (rest := []) ⟨hx, hb, hml, hown, hts⟩ (c_X2_takeAncestors_0 l D g b0 Hb q0) (cwV 1 hts gX2_init_X2_takeAncestors rfl rfl rfl (by decide +kernel) ⟨Nat.le_of_ble_eq_true rfl, Nat.le_of_ble_eq_true rfl⟩) ⟨kPc_blind, k_recv hK ho_205 rfl, fun U hU hW => kPc_at hK hU hW⟩ rfl rfl hl.1 rfl (lv_room (Nat.le_of_ble_eq_true rfl)) dX2_init_55 ⟨Nat.le_of_ble_eq_true rfl, Nat.le_of_ble_eq_true rfl⟩) hLBt1 (fun Ht2 locst2 hLBt2 hqt2 => ?_)
  have hqs2 := hqt2.symm
  subst hqs2
  refine lv_iload_n hx hb dX2_init_58 rfl (lv_at hl 1 rfl) ?_
  refine n_if_lt (tgt := 76) hx hb dX2_init_59 (by decide) (by omega) ?_
  refine lv_iload_n hx hb dX2_init_62 rfl (lv_at hl 1 rfl) ?_
  refine lv_sipush (v := nI 400) hx hb dX2_init_63 (by decide +kernel) ?_
  refine n_icmp_ge (tgt := 76) hx hb dX2_init_66 (by decide) (by omega) (by omega) (fun c_213 => ?_) (fun c_213 => ?_)
  · skip
    exact absurd hv (by omega)
  · skip
    refine lv_aload_n hx hb dX2_init_69 rfl (lv_at hl 0 rfl) ?_
    refine k_get (ci := 2) (C := RX2) (T := TX2) (N := 5) (v := .ref q_145) hx hb hts (by decide +kernel) hown hK ho_205 rfl 4 (by decide) rfl (hts (.fieldLink RX2 18 RX2 "ancestors" "[Z") (by decide +kernel)) rfl dX2_init_70 ?_
    refine lv_iload_n hx hb dX2_init_73 rfl (lv_at hl 1 rfl) ?_
    refine lv_iconst (v := b2i true) hx hb dX2_init_74 (by decide +kernel) ?_
    refine k_zast (y := b2i true) hx hb hK hw_209 hLBt2 (by omega) (v) rfl (by omega) (by omega) (b2i_z _) dX2_init_75 (fun H_214 locs_215 hw_216 hC_217 hLB_218 => ?_)
    rw [upd_b2i] at hw_216
    have ho_219 := ho_205.chg hC_217 (by omega)
    have ho_220 := ho_206.chg hC_217 (by omega)
    have ho_221 := ho_207.chg hC_217 (by omega)
    have hw_222 := hw_208.chg hC_217 (by omega)
    have hw_223 := hw1.chg hC_217 (by omega)
    have hF_224 := hF_210.chg hC_217 (Or.inr (by omega))
    have hz_225 := hC_217.1
    refine r_vU hx hb hr hLB_218 (Nat.le_refl _) (Nat.le_refl _) ⟨q_120, q2, q_145, w1, _, by omega, by omega, by omega, ho_219, ho_221, hw_223, hw_216, hF_224.to (fun _ h => h), hw1v, ?_⟩ dX2_init_76 hlocks
    intro j hj
    by_cases e : j = v
    · subst e
      rw [up_eq, show decide (j = j) = true from decide_eq_true rfl]
      try simp
    · rw [up_ne _ _ e, show decide (j = v) = false from decide_eq_false e]
      try simp
set_option maxHeartbeats 4000000 in
set_option maxRecDepth 100000 in
/-- Version(number, first, second, triples) -/
theorem c_X2_init_10 (l : Launch) (D : va_G) (g : Nat → ClassId) (b0 : Nat) (H : Heap) (q0 : Nat) (ho : HA D H q0 (eO 2 [.int 0, .null, .null, .null, .null])) (hb0 : b0 ≤ q0) (hbH : b0 ≤ H.size) (v : Nat) (hv : v < 400) (x wx : Nat) (fx : Nat → Int64) (hox : HA D H x (eO 1 [.ref wx])) (hwx : HA D H wx (eL (g 2) 64 fx)) (hxb : b0 ≤ wx) (hx0 : x ≠ q0) (hwx0 : wx ≠ q0) (p1 m1 : Nat) (i1 : Int32) (t11 t12 t13 : Value) (a1 : Nat → Bool) (hp1 : HA D H p1 (eO 2 [.int i1, t11, t12, t13, .ref m1])) (hm1 : HA D H m1 (eI (g 3) 400 (fun j => b2i (a1 j)))) (hp10 : p1 ≠ q0) (hm10 : m1 ≠ q0) : Met l yX2_init wsX2_init ({ frames := 2, cells := 3, slots := 465, locals := 61 } : Room) (kPc D g [.ref q0, .int (nI v), .ref p1, .null, .ref x] H) (kU (fun H1 => ∃ (q1 q2 q3 : Nat) (w1 : Nat → Int64) (an1 : Nat → Bool), H.size ≤ q1 ∧ q1 < q2 ∧ q2 < q3 ∧ HA D H1 q0 (eO 2 [.int (nI v), .ref p1, .null, .ref q1, .ref q3]) ∧ HA D H1 q1 (eO 1 [.ref q2]) ∧ HA D H1 q2 (eL (g 2) 64 w1) ∧ HA D H1 q3 (eI (g 3) 400 (fun j => b2i (an1 j))) ∧ Chg H H1 q0 ∧ (∀ j, j < 64 → w1 j = fx j) ∧ ∀ j, j < 400 → an1 j = (decide (j = v) || a1 j))) 3 465 (kF b0) := by
  refine Met.ofW (cc := cX2_init) (maxL := 5) (ret := none) (by decide) rfl ?_
  intro p e s m args below meth c s₁ B hml hv
  obtain ⟨rfl, hH, hK⟩ := hv
  have hx := B.exec
  have hb := B.bytes
  have hr := B.returns
  have hts := atoms_spec (ws := wsX2_init) B.pre
  have hown : s.vm.findClass RX2 = some m.cls := findClass_of_methodNamed B.named
  have hlocks := B.notSynchronized
  have hin : meth.name = "<init>" := (name_of_methodNamed B.named B.method).1
  rw [hH]
  have hl := lv_entry ([.ref q0, .int (nI v), .ref p1, .null, .ref x]) (n := 5) (Nat.le_of_ble_eq_true rfl)
  rw [lg_entry_eq]
  generalize (lg_sl ([.ref q0, .int (nI v), .ref p1, .null, .ref x]) ++ List.replicate (5 - (lg_sl ([.ref q0, .int (nI v), .ref p1, .null, .ref x])).length) Slot.unset).toArray = ls at hl ⊢
  have hl : lv_has ls 5 [(0, .ref q0), (1, .int (nI v)), (2, .ref p1), (3, .null), (4, .ref x)] := hl
  have hlt0 := ho.lt
  have hltx := hox.lt
  have hltwx := hwx.lt
  have hF0 : Fr (fun x => x = q0) H H := Fr.rf
  have hltp1 := hp1.lt
  have hltm1 := hm1.lt
  refine lv_aload_n hx hb dX2_init_0 rfl (lv_at hl 0 rfl) ?_
  refine W.objInit hx hb hown (hts (.methodLink RX2 3 objectInit) (by decide +kernel)) (hts (.instanceMethod objectInit) (by decide +kernel)) (hts (.code objectInit ⟨#[0xb1]⟩ 1 none) (by decide +kernel)) rfl (by rw [hml]; exact hl.1) rfl dX2_init_1 (Nat.le_of_ble_eq_true rfl) (Nat.le_of_ble_eq_true rfl) ?_
  refine W.eq (g2 := F0 m 4 ls []) rfl ?_
  refine lv_aload_n hx hb dX2_init_4 rfl (lv_at hl 0 rfl) ?_
  refine k_new (ci := 1) (C := RX1) (T := TX1) (N := 1) (fs := [.null]) hx hb hts (by decide +kernel) tyX1 tyX1_ok hown (hts (.classLink RX2 9 RX1) (by decide +kernel)) (hts (.instantiable RX1 1) (by decide +kernel)) (hts (.initialized RX1) (by decide +kernel)) hK rfl (fun j hj => by rw [show j = 0 by omega]; rfl) (Nat.le_of_ble_eq_true rfl) (Nat.le_of_ble_eq_true rfl) dX2_init_5 (fun q_226 H_227 ho_228 hA_229 => ?_)
  refine W.widen (k := 1) (n := 1) (Nat.le_of_ble_eq_true rfl) (Nat.le_of_ble_eq_true rfl) ?_
  have hqe_q_226 := hA_229.1
  have ho_230 := ho.add hA_229
  have ho_231 := hox.add hA_229
  have ho_232 := hp1.add hA_229
  have hw_233 := hwx.add hA_229
  have hw_234 := hm1.add hA_229
  have hF_235 := hF0.add hA_229
  have hz_236 := hA_229.2.1
  refine lv_dup hx hb dX2_init_8 rfl ?_
  refine k_callU (va_runIN (As := []) (rest := [.ref q_226, .ref q0]) ⟨hx, hb, hml, hown, hts⟩ (c_X1_init l D g b0 H_227 q_226 ho_228 (by omega) (by omega)) ⟨va_cnB 0 hts gX2_init_X1_init_n11 rfl rfl rfl (hK.2.1 _ (List.mem_of_getElem? (i := 2) rfl)) (hts (.initialized RX1) (by decide +kernel)) (by decide +kernel) ⟨Nat.le_of_ble_eq_true rfl, Nat.le_of_ble_eq_true rfl⟩, rfl, hts (.instanceMethod yX1_init) (by decide +kernel)⟩ ⟨kPc_blind, fun U hU hW => kPc_at hK hU hW⟩ rfl rfl hl.1 rfl (lv_room (Nat.le_of_ble_eq_true rfl)) dX2_init_9 ⟨Nat.le_of_ble_eq_true rfl, Nat.le_of_ble_eq_true rfl⟩) LB.nil (fun Hi locsi hLBi hqi => ?_)
  refine W.widen (k := 2) (n := 65) (Nat.le_of_ble_eq_true rfl) (Nat.le_of_ble_eq_true rfl) ?_
  obtain ⟨q2, hq2s, hqi1, hqi2, hqi3⟩ := hqi
  have ho_237 := ho_230.chg hqi3 (by omega)
  have ho_238 := ho_231.chg hqi3 (by omega)
  have ho_239 := ho_232.chg hqi3 (by omega)
  have hw_240 := hw_233.chg hqi3 (by omega)
  have hw_241 := hw_234.chg hqi3 (by omega)
  have hF_242 := hF_235.chg hqi3 (Or.inr (by omega))
  have hz_243 := hqi3.1
  have hlq2 := hqi2.lt
  refine k_putF (ci := 2) (T := TX2) (N := 5) (v := .ref q_226) hx hb hts (by decide +kernel) tyX2 tyX2_ok nmX2 hown (hin) hK ho_237 hLBi hb0 rfl 3 (by decide) rfl (hts (.fieldLink RX2 12 RX2 "triples" "LVersionMerge$TripleSet;") (by decide +kernel)) rfl (ty := .object "VersionMerge$TripleSet") (by decide +kernel) rfl rfl (Nat.le_of_ble_eq_true rfl) dX2_init_12 (fun H_244 locs_245 ho_246 hC_247 hLB_248 => ?_)
  have ho_246 : HA D H_244 q0 (eO 2 [.int (0), .null, .null, .ref q_226, .null]) := ho_246
  have ho_249 := ho_238.chg hC_247 (by omega)
  have ho_250 := ho_239.chg hC_247 (by omega)
  have ho_251 := hqi1.chg hC_247 (by omega)
  have hw_252 := hw_240.chg hC_247 (by omega)
  have hw_253 := hw_241.chg hC_247 (by omega)
  have hw_254 := hqi2.chg hC_247 (by omega)
  have hF_255 := hF_242.chg hC_247 (Or.inl rfl)
  have hz_256 := hC_247.1
  refine lv_aload_n hx hb dX2_init_15 rfl (lv_at hl 0 rfl) ?_
  refine lv_sipush (v := nI 400) hx hb dX2_init_16 (by decide +kernel) ?_
  refine k_newa (atype := .boolean) hx hb (hts (.arrayClass .boolean) (by decide +kernel)) hK 3 (ty := .boolean) rfl rfl rfl (400, .inl (fun _ => 0)) (fun _ => rfl) (by decide +kernel) (by decide +kernel) (Nat.le_of_ble_eq_true rfl) (Nat.le_of_ble_eq_true rfl) (Nat.le_of_ble_eq_true rfl) dX2_init_19 (fun q_257 H_258 hw_259 hA_260 => ?_)
  refine W.widen (k := 3) (n := 465) (Nat.le_of_ble_eq_true rfl) (Nat.le_of_ble_eq_true rfl) ?_
  have hqe_q_257 := hA_260.1
  have ho_261 := ho_246.add hA_260
  have ho_262 := ho_249.add hA_260
  have ho_263 := ho_250.add hA_260
  have ho_264 := ho_251.add hA_260
  have hw_265 := hw_252.add hA_260
  have hw_266 := hw_253.add hA_260
  have hw_267 := hw_254.add hA_260
  have hF_268 := hF_255.add hA_260
  have hz_269 := hA_260.2.1
  have hw_270 : HA D H_258 q_257 (eI (g 3) 400 (fun j => b2i ((fun _ => false) j))) := hw_259
  refine k_putF (ci := 2) (T := TX2) (N := 5) (v := .ref q_257) hx hb hts (by decide +kernel) tyX2 tyX2_ok nmX2 hown (hin) hK ho_261 hLB_248 hb0 rfl 4 (by decide) rfl (hts (.fieldLink RX2 18 RX2 "ancestors" "[Z") (by decide +kernel)) rfl (ty := .array .boolean) (by decide +kernel) rfl rfl (Nat.le_of_ble_eq_true rfl) dX2_init_21 (fun H_271 locs_272 ho_273 hC_274 hLB_275 => ?_)
  have ho_273 : HA D H_271 q0 (eO 2 [.int (0), .null, .null, .ref q_226, .ref q_257]) := ho_273
  have ho_276 := ho_262.chg hC_274 (by omega)
  have ho_277 := ho_263.chg hC_274 (by omega)
  have ho_278 := ho_264.chg hC_274 (by omega)
  have hw_279 := hw_265.chg hC_274 (by omega)
  have hw_280 := hw_266.chg hC_274 (by omega)
  have hw_281 := hw_267.chg hC_274 (by omega)
  have hw_282 := hw_270.chg hC_274 (by omega)
  have hF_283 := hF_268.chg hC_274 (Or.inl rfl)
  have hz_284 := hC_274.1
  refine lv_aload_n hx hb dX2_init_24 rfl (lv_at hl 0 rfl) ?_
  refine lv_iload_n hx hb dX2_init_25 rfl (lv_at hl 1 rfl) ?_
  refine k_putF (ci := 2) (T := TX2) (N := 5) (v := .int (nI v)) hx hb hts (by decide +kernel) tyX2 tyX2_ok nmX2 hown (hin) hK ho_273 hLB_275 hb0 rfl 0 (by decide) rfl (hts (.fieldLink RX2 22 RX2 "number" "I") (by decide +kernel)) rfl (ty := .int) (by decide +kernel) rfl rfl (Nat.le_of_ble_eq_true rfl) dX2_init_26 (fun H_285 locs_286 ho_287 hC_288 hLB_289 => ?_)
  have ho_287 : HA D H_285 q0 (eO 2 [.int (nI v), .null, .null, .ref q_226, .ref q_257]) := ho_287
  have ho_290 := ho_276.chg hC_288 (by omega)
  have ho_291 := ho_277.chg hC_288 (by omega)
  have ho_292 := ho_278.chg hC_288 (by omega)
  have hw_293 := hw_279.chg hC_288 (by omega)
  have hw_294 := hw_280.chg hC_288 (by omega)
  have hw_295 := hw_281.chg hC_288 (by omega)
  have hw_296 := hw_282.chg hC_288 (by omega)
  have hF_297 := hF_283.chg hC_288 (Or.inl rfl)
  have hz_298 := hC_288.1
  refine lv_aload_n hx hb dX2_init_29 rfl (lv_at hl 0 rfl) ?_
  refine lv_aload_n hx hb dX2_init_30 rfl (lv_at hl 2 rfl) ?_
  refine k_putF (ci := 2) (T := TX2) (N := 5) (v := .ref p1) hx hb hts (by decide +kernel) tyX2 tyX2_ok nmX2 hown (hin) hK ho_287 hLB_289 hb0 rfl 1 (by decide) rfl (hts (.fieldLink RX2 26 RX2 "first" "LVersionMerge$Version;") (by decide +kernel)) rfl (ty := .object "VersionMerge$Version") (by decide +kernel) rfl rfl (Nat.le_of_ble_eq_true rfl) dX2_init_31 (fun H_299 locs_300 ho_301 hC_302 hLB_303 => ?_)
  have ho_301 : HA D H_299 q0 (eO 2 [.int (nI v), .ref p1, .null, .ref q_226, .ref q_257]) := ho_301
  have ho_304 := ho_290.chg hC_302 (by omega)
  have ho_305 := ho_291.chg hC_302 (by omega)
  have ho_306 := ho_292.chg hC_302 (by omega)
  have hw_307 := hw_293.chg hC_302 (by omega)
  have hw_308 := hw_294.chg hC_302 (by omega)
  have hw_309 := hw_295.chg hC_302 (by omega)
  have hw_310 := hw_296.chg hC_302 (by omega)
  have hF_311 := hF_297.chg hC_302 (Or.inl rfl)
  have hz_312 := hC_302.1
  refine lv_aload_n hx hb dX2_init_34 rfl (lv_at hl 0 rfl) ?_
  refine lv_aload_nN hx hb dX2_init_35 rfl (lv_at hl 3 rfl) ?_
  refine k_putF (ci := 2) (T := TX2) (N := 5) (v := .null) hx hb hts (by decide +kernel) tyX2 tyX2_ok nmX2 hown (hin) hK ho_301 hLB_303 hb0 rfl 2 (by decide) rfl (hts (.fieldLink RX2 30 RX2 "second" "LVersionMerge$Version;") (by decide +kernel)) rfl (ty := .object "VersionMerge$Version") (by decide +kernel) rfl rfl (Nat.le_of_ble_eq_true rfl) dX2_init_36 (fun H_313 locs_314 ho_315 hC_316 hLB_317 => ?_)
  have ho_315 : HA D H_313 q0 (eO 2 [.int (nI v), .ref p1, .null, .ref q_226, .ref q_257]) := ho_315
  have ho_318 := ho_304.chg hC_316 (by omega)
  have ho_319 := ho_305.chg hC_316 (by omega)
  have ho_320 := ho_306.chg hC_316 (by omega)
  have hw_321 := hw_307.chg hC_316 (by omega)
  have hw_322 := hw_308.chg hC_316 (by omega)
  have hw_323 := hw_309.chg hC_316 (by omega)
  have hw_324 := hw_310.chg hC_316 (by omega)
  have hF_325 := hF_311.chg hC_316 (Or.inl rfl)
  have hz_326 := hC_316.1
  refine lv_aload_n hx hb dX2_init_39 rfl (lv_at hl 0 rfl) ?_
  refine k_get (ci := 2) (C := RX2) (T := TX2) (N := 5) (v := .ref q_226) hx hb hts (by decide +kernel) hown hK ho_315 rfl 3 (by decide) rfl (hts (.fieldLink RX2 12 RX2 "triples" "LVersionMerge$TripleSet;") (by decide +kernel)) rfl dX2_init_40 ?_
  refine lv_aload hx hb dX2_init_43 (lv_at hl 4 rfl) ?_
  refine k_callU (va_runVN (As := [.ref x]) (rest := []) ⟨hx, hb, hml, hown, hts⟩ (c_X1_becomeCopy l D g b0 H_313 q_226 q2 (fun _ => 0) ho_320 hw_323 (by omega) x wx fx ho_318 hw_321 hxb (by omega)) ⟨va_cnB 1 hts gX2_init_X1_becomeCopy_n33 rfl rfl rfl (hK.2.1 _ (List.mem_of_getElem? (i := 3) rfl)) (hts (.initialized RX1) (by decide +kernel)) (by decide +kernel) ⟨Nat.le_of_ble_eq_true rfl, Nat.le_of_ble_eq_true rfl⟩, hts (.instanceMethod yX1_becomeCopy) (by decide +kernel), hts (.selects RX1 yX1_becomeCopy yX1_becomeCopy) (by decide +kernel)⟩ ⟨kPc_blind, k_recv hK ho_320 rfl, fun U hU hW => kPc_at hK hU hW⟩ rfl rfl hl.1 rfl (lv_room (Nat.le_of_ble_eq_true rfl)) dX2_init_45 ⟨Nat.le_of_ble_eq_true rfl, Nat.le_of_ble_eq_true rfl⟩) hLB_317 (fun Hb locsb hLBb hqb => ?_)
  obtain ⟨w1, hw1, hCb, hw1v⟩ := hqb
  have ho_327 := ho_315.chg hCb (by omega)
  have ho_328 := ho_318.chg hCb (by omega)
  have ho_329 := ho_319.chg hCb (by omega)
  have ho_330 := ho_320.chg hCb (by omega)
  have hw_331 := hw_321.chg hCb (by omega)
  have hw_332 := hw_322.chg hCb (by omega)
  have hw_333 := hw_324.chg hCb (by omega)
  have hF_334 := hF_325.chg hCb (Or.inr (by omega))
  have hz_335 := hCb.1
  refine lv_aload_n hx hb dX2_init_48 rfl (lv_at hl 0 rfl) ?_
  refine lv_aload_n hx hb dX2_init_49 rfl (lv_at hl 2 rfl) ?_
  refine k_callU (va_runV (As := [.ref p1]) (rest := []) ⟨hx, hb, hml, hown, hts⟩ (c_X2_takeAncestors_1 l D g b0 Hb q0 q_257 _ _ _ _ (fun _ => false) ho_327 hw_333 (by omega) p1 m1 _ _ _ _ a1 ho_329 hw_332 (by omega) (by omega) (by omega)) (cwV 1 hts gX2_init_X2_takeAncestors rfl rfl rfl (by decide +kernel) ⟨Nat.le_of_ble_eq_true rfl, Nat.le_of_ble_eq_true rfl⟩) ⟨kPc_blind, k_recv hK ho_327 rfl, fun U hU hW => kPc_at hK hU hW⟩ rfl rfl hl.1 rfl (lv_room (Nat.le_of_ble_eq_true rfl)) dX2_init_50 ⟨Nat.le_of_ble_eq_true rfl, Nat.le_of_ble_eq_true rfl⟩) hLBb (fun Ht1 locst1 hLBt1 hqt1 => ?_)
  obtain ⟨an1, hat1, hCt1, hav1⟩ := hqt1
  have ho_336 := ho_327.chg hCt1 (by omega)
  have ho_337 := ho_328.chg hCt1 (by omega)
  have ho_338 := ho_329.chg hCt1 (by omega)
  have ho_339 := ho_330.chg hCt1 (by omega)
  have hw_340 := hw_331.chg hCt1 (by omega)
  have hw_341 := hw_332.chg hCt1 (by omega)
  have hw_342 := hw1.chg hCt1 (by omega)
  have hF_343 := hF_334.chg hCt1 (Or.inr (by omega))
  have hz_344 := hCt1.1
  refine lv_aload_n hx hb dX2_init_53 rfl (lv_at hl 0 rfl) ?_
  refine lv_aload_nN hx hb dX2_init_54 rfl (lv_at hl 3 rfl) ?_
  refine k_callU (va_runV (As := [.null]) (rest := []) ⟨hx, hb, hml, hown, hts⟩ (c_X2_takeAncestors_0 l D g b0 Ht1 q0) (cwV 1 hts gX2_init_X2_takeAncestors rfl rfl rfl (by decide +kernel) ⟨Nat.le_of_ble_eq_true rfl, Nat.le_of_ble_eq_true rfl⟩) ⟨kPc_blind, k_recv hK ho_336 rfl, fun U hU hW => kPc_at hK hU hW⟩ rfl rfl hl.1 rfl (lv_room (Nat.le_of_ble_eq_true rfl)) dX2_init_55 ⟨Nat.le_of_ble_eq_true rfl, Nat.le_of_ble_eq_true rfl⟩) hLBt1 (fun Ht2 locst2 hLBt2 hqt2 => ?_)
  have hqs2 := hqt2.symm
  subst hqs2
  refine lv_iload_n hx hb dX2_init_58 rfl (lv_at hl 1 rfl) ?_
  refine n_if_lt (tgt := 76) hx hb dX2_init_59 (by decide) (by omega) ?_
  refine lv_iload_n hx hb dX2_init_62 rfl (lv_at hl 1 rfl) ?_
  refine lv_sipush (v := nI 400) hx hb dX2_init_63 (by decide +kernel) ?_
  refine n_icmp_ge (tgt := 76) hx hb dX2_init_66 (by decide) (by omega) (by omega) (fun c_346 => ?_) (fun c_346 => ?_)
  · skip
    exact absurd hv (by omega)
  · skip
    refine lv_aload_n hx hb dX2_init_69 rfl (lv_at hl 0 rfl) ?_
    refine k_get (ci := 2) (C := RX2) (T := TX2) (N := 5) (v := .ref q_257) hx hb hts (by decide +kernel) hown hK ho_336 rfl 4 (by decide) rfl (hts (.fieldLink RX2 18 RX2 "ancestors" "[Z") (by decide +kernel)) rfl dX2_init_70 ?_
    refine lv_iload_n hx hb dX2_init_73 rfl (lv_at hl 1 rfl) ?_
    refine lv_iconst (v := b2i true) hx hb dX2_init_74 (by decide +kernel) ?_
    refine k_zast (y := b2i true) hx hb hK hat1 hLBt2 (by omega) (v) rfl (by omega) (by omega) (b2i_z _) dX2_init_75 (fun H_347 locs_348 hw_349 hC_350 hLB_351 => ?_)
    rw [upd_b2i] at hw_349
    have ho_352 := ho_336.chg hC_350 (by omega)
    have ho_353 := ho_337.chg hC_350 (by omega)
    have ho_354 := ho_338.chg hC_350 (by omega)
    have ho_355 := ho_339.chg hC_350 (by omega)
    have hw_356 := hw_340.chg hC_350 (by omega)
    have hw_357 := hw_341.chg hC_350 (by omega)
    have hw_358 := hw_342.chg hC_350 (by omega)
    have hF_359 := hF_343.chg hC_350 (Or.inr (by omega))
    have hz_360 := hC_350.1
    refine r_vU hx hb hr hLB_351 (Nat.le_refl _) (Nat.le_refl _) ⟨q_226, q2, q_257, w1, _, by omega, by omega, by omega, ho_352, ho_355, hw_358, hw_349, hF_359.to (fun _ h => h), hw1v, ?_⟩ dX2_init_76 hlocks
    intro j hj
    by_cases e : j = v
    · subst e
      rw [up_eq, show decide (j = j) = true from decide_eq_true rfl]
      try simp
    · rw [up_ne _ _ e, hav1 j hj, show decide (j = v) = false from decide_eq_false e]
      try simp
set_option maxHeartbeats 4000000 in
set_option maxRecDepth 100000 in
/-- Version(number, first, second, triples) -/
theorem c_X2_init_11 (l : Launch) (D : va_G) (g : Nat → ClassId) (b0 : Nat) (H : Heap) (q0 : Nat) (ho : HA D H q0 (eO 2 [.int 0, .null, .null, .null, .null])) (hb0 : b0 ≤ q0) (hbH : b0 ≤ H.size) (v : Nat) (hv : v < 400) (x wx : Nat) (fx : Nat → Int64) (hox : HA D H x (eO 1 [.ref wx])) (hwx : HA D H wx (eL (g 2) 64 fx)) (hxb : b0 ≤ wx) (hx0 : x ≠ q0) (hwx0 : wx ≠ q0) (p1 m1 : Nat) (i1 : Int32) (t11 t12 t13 : Value) (a1 : Nat → Bool) (hp1 : HA D H p1 (eO 2 [.int i1, t11, t12, t13, .ref m1])) (hm1 : HA D H m1 (eI (g 3) 400 (fun j => b2i (a1 j)))) (hp10 : p1 ≠ q0) (hm10 : m1 ≠ q0) (p2 m2 : Nat) (i2 : Int32) (t21 t22 t23 : Value) (a2 : Nat → Bool) (hp2 : HA D H p2 (eO 2 [.int i2, t21, t22, t23, .ref m2])) (hm2 : HA D H m2 (eI (g 3) 400 (fun j => b2i (a2 j)))) (hp20 : p2 ≠ q0) (hm20 : m2 ≠ q0) : Met l yX2_init wsX2_init ({ frames := 2, cells := 3, slots := 465, locals := 61 } : Room) (kPc D g [.ref q0, .int (nI v), .ref p1, .ref p2, .ref x] H) (kU (fun H1 => ∃ (q1 q2 q3 : Nat) (w1 : Nat → Int64) (an1 : Nat → Bool), H.size ≤ q1 ∧ q1 < q2 ∧ q2 < q3 ∧ HA D H1 q0 (eO 2 [.int (nI v), .ref p1, .ref p2, .ref q1, .ref q3]) ∧ HA D H1 q1 (eO 1 [.ref q2]) ∧ HA D H1 q2 (eL (g 2) 64 w1) ∧ HA D H1 q3 (eI (g 3) 400 (fun j => b2i (an1 j))) ∧ Chg H H1 q0 ∧ (∀ j, j < 64 → w1 j = fx j) ∧ ∀ j, j < 400 → an1 j = (decide (j = v) || a1 j || a2 j))) 3 465 (kF b0) := by
  refine Met.ofW (cc := cX2_init) (maxL := 5) (ret := none) (by decide) rfl ?_
  intro p e s m args below meth c s₁ B hml hv
  obtain ⟨rfl, hH, hK⟩ := hv
  have hx := B.exec
  have hb := B.bytes
  have hr := B.returns
  have hts := atoms_spec (ws := wsX2_init) B.pre
  have hown : s.vm.findClass RX2 = some m.cls := findClass_of_methodNamed B.named
  have hlocks := B.notSynchronized
  have hin : meth.name = "<init>" := (name_of_methodNamed B.named B.method).1
  rw [hH]
  have hl := lv_entry ([.ref q0, .int (nI v), .ref p1, .ref p2, .ref x]) (n := 5) (Nat.le_of_ble_eq_true rfl)
  rw [lg_entry_eq]
  generalize (lg_sl ([.ref q0, .int (nI v), .ref p1, .ref p2, .ref x]) ++ List.replicate (5 - (lg_sl ([.ref q0, .int (nI v), .ref p1, .ref p2, .ref x])).length) Slot.unset).toArray = ls at hl ⊢
  have hl : lv_has ls 5 [(0, .ref q0), (1, .int (nI v)), (2, .ref p1), (3, .ref p2), (4, .ref x)] := hl
  have hlt0 := ho.lt
  have hltx := hox.lt
  have hltwx := hwx.lt
  have hF0 : Fr (fun x => x = q0) H H := Fr.rf
  have hltp1 := hp1.lt
  have hltm1 := hm1.lt
  have hltp2 := hp2.lt
  have hltm2 := hm2.lt
  refine lv_aload_n hx hb dX2_init_0 rfl (lv_at hl 0 rfl) ?_
  refine W.objInit hx hb hown (hts (.methodLink RX2 3 objectInit) (by decide +kernel)) (hts (.instanceMethod objectInit) (by decide +kernel)) (hts (.code objectInit ⟨#[0xb1]⟩ 1 none) (by decide +kernel)) rfl (by rw [hml]; exact hl.1) rfl dX2_init_1 (Nat.le_of_ble_eq_true rfl) (Nat.le_of_ble_eq_true rfl) ?_
  refine W.eq (g2 := F0 m 4 ls []) rfl ?_
  refine lv_aload_n hx hb dX2_init_4 rfl (lv_at hl 0 rfl) ?_
  refine k_new (ci := 1) (C := RX1) (T := TX1) (N := 1) (fs := [.null]) hx hb hts (by decide +kernel) tyX1 tyX1_ok hown (hts (.classLink RX2 9 RX1) (by decide +kernel)) (hts (.instantiable RX1 1) (by decide +kernel)) (hts (.initialized RX1) (by decide +kernel)) hK rfl (fun j hj => by rw [show j = 0 by omega]; rfl) (Nat.le_of_ble_eq_true rfl) (Nat.le_of_ble_eq_true rfl) dX2_init_5 (fun q_361 H_362 ho_363 hA_364 => ?_)
  refine W.widen (k := 1) (n := 1) (Nat.le_of_ble_eq_true rfl) (Nat.le_of_ble_eq_true rfl) ?_
  have hqe_q_361 := hA_364.1
  have ho_365 := ho.add hA_364
  have ho_366 := hox.add hA_364
  have ho_367 := hp1.add hA_364
  have ho_368 := hp2.add hA_364
  have hw_369 := hwx.add hA_364
  have hw_370 := hm1.add hA_364
  have hw_371 := hm2.add hA_364
  have hF_372 := hF0.add hA_364
  have hz_373 := hA_364.2.1
  refine lv_dup hx hb dX2_init_8 rfl ?_
  refine k_callU (va_runIN (As := []) (rest := [.ref q_361, .ref q0]) ⟨hx, hb, hml, hown, hts⟩ (c_X1_init l D g b0 H_362 q_361 ho_363 (by omega) (by omega)) ⟨va_cnB 0 hts gX2_init_X1_init_n11 rfl rfl rfl (hK.2.1 _ (List.mem_of_getElem? (i := 2) rfl)) (hts (.initialized RX1) (by decide +kernel)) (by decide +kernel) ⟨Nat.le_of_ble_eq_true rfl, Nat.le_of_ble_eq_true rfl⟩, rfl, hts (.instanceMethod yX1_init) (by decide +kernel)⟩ ⟨kPc_blind, fun U hU hW => kPc_at hK hU hW⟩ rfl rfl hl.1 rfl (lv_room (Nat.le_of_ble_eq_true rfl)) dX2_init_9 ⟨Nat.le_of_ble_eq_true rfl, Nat.le_of_ble_eq_true rfl⟩) LB.nil (fun Hi locsi hLBi hqi => ?_)
  refine W.widen (k := 2) (n := 65) (Nat.le_of_ble_eq_true rfl) (Nat.le_of_ble_eq_true rfl) ?_
  obtain ⟨q2, hq2s, hqi1, hqi2, hqi3⟩ := hqi
  have ho_374 := ho_365.chg hqi3 (by omega)
  have ho_375 := ho_366.chg hqi3 (by omega)
  have ho_376 := ho_367.chg hqi3 (by omega)
  have ho_377 := ho_368.chg hqi3 (by omega)
  have hw_378 := hw_369.chg hqi3 (by omega)
  have hw_379 := hw_370.chg hqi3 (by omega)
  have hw_380 := hw_371.chg hqi3 (by omega)
  have hF_381 := hF_372.chg hqi3 (Or.inr (by omega))
  have hz_382 := hqi3.1
  have hlq2 := hqi2.lt
  refine k_putF (ci := 2) (T := TX2) (N := 5) (v := .ref q_361) hx hb hts (by decide +kernel) tyX2 tyX2_ok nmX2 hown (hin) hK ho_374 hLBi hb0 rfl 3 (by decide) rfl (hts (.fieldLink RX2 12 RX2 "triples" "LVersionMerge$TripleSet;") (by decide +kernel)) rfl (ty := .object "VersionMerge$TripleSet") (by decide +kernel) rfl rfl (Nat.le_of_ble_eq_true rfl) dX2_init_12 (fun H_383 locs_384 ho_385 hC_386 hLB_387 => ?_)
  have ho_385 : HA D H_383 q0 (eO 2 [.int (0), .null, .null, .ref q_361, .null]) := ho_385
  have ho_388 := ho_375.chg hC_386 (by omega)
  have ho_389 := ho_376.chg hC_386 (by omega)
  have ho_390 := ho_377.chg hC_386 (by omega)
  have ho_391 := hqi1.chg hC_386 (by omega)
  have hw_392 := hw_378.chg hC_386 (by omega)
  have hw_393 := hw_379.chg hC_386 (by omega)
  have hw_394 := hw_380.chg hC_386 (by omega)
  have hw_395 := hqi2.chg hC_386 (by omega)
  have hF_396 := hF_381.chg hC_386 (Or.inl rfl)
  have hz_397 := hC_386.1
  refine lv_aload_n hx hb dX2_init_15 rfl (lv_at hl 0 rfl) ?_
  refine lv_sipush (v := nI 400) hx hb dX2_init_16 (by decide +kernel) ?_
  refine k_newa (atype := .boolean) hx hb (hts (.arrayClass .boolean) (by decide +kernel)) hK 3 (ty := .boolean) rfl rfl rfl (400, .inl (fun _ => 0)) (fun _ => rfl) (by decide +kernel) (by decide +kernel) (Nat.le_of_ble_eq_true rfl) (Nat.le_of_ble_eq_true rfl) (Nat.le_of_ble_eq_true rfl) dX2_init_19 (fun q_398 H_399 hw_400 hA_401 => ?_)
  refine W.widen (k := 3) (n := 465) (Nat.le_of_ble_eq_true rfl) (Nat.le_of_ble_eq_true rfl) ?_
  have hqe_q_398 := hA_401.1
  have ho_402 := ho_385.add hA_401
  have ho_403 := ho_388.add hA_401
  have ho_404 := ho_389.add hA_401
  have ho_405 := ho_390.add hA_401
  have ho_406 := ho_391.add hA_401
  have hw_407 := hw_392.add hA_401
  have hw_408 := hw_393.add hA_401
  have hw_409 := hw_394.add hA_401
  have hw_410 := hw_395.add hA_401
  have hF_411 := hF_396.add hA_401
  have hz_412 := hA_401.2.1
  have hw_413 : HA D H_399 q_398 (eI (g 3) 400 (fun j => b2i ((fun _ => false) j))) := hw_400
  refine k_putF (ci := 2) (T := TX2) (N := 5) (v := .ref q_398) hx hb hts (by decide +kernel) tyX2 tyX2_ok nmX2 hown (hin) hK ho_402 hLB_387 hb0 rfl 4 (by decide) rfl (hts (.fieldLink RX2 18 RX2 "ancestors" "[Z") (by decide +kernel)) rfl (ty := .array .boolean) (by decide +kernel) rfl rfl (Nat.le_of_ble_eq_true rfl) dX2_init_21 (fun H_414 locs_415 ho_416 hC_417 hLB_418 => ?_)
  have ho_416 : HA D H_414 q0 (eO 2 [.int (0), .null, .null, .ref q_361, .ref q_398]) := ho_416
  have ho_419 := ho_403.chg hC_417 (by omega)
  have ho_420 := ho_404.chg hC_417 (by omega)
  have ho_421 := ho_405.chg hC_417 (by omega)
  have ho_422 := ho_406.chg hC_417 (by omega)
  have hw_423 := hw_407.chg hC_417 (by omega)
  have hw_424 := hw_408.chg hC_417 (by omega)
  have hw_425 := hw_409.chg hC_417 (by omega)
  have hw_426 := hw_410.chg hC_417 (by omega)
  have hw_427 := hw_413.chg hC_417 (by omega)
  have hF_428 := hF_411.chg hC_417 (Or.inl rfl)
  have hz_429 := hC_417.1
  refine lv_aload_n hx hb dX2_init_24 rfl (lv_at hl 0 rfl) ?_
  refine lv_iload_n hx hb dX2_init_25 rfl (lv_at hl 1 rfl) ?_
  refine k_putF (ci := 2) (T := TX2) (N := 5) (v := .int (nI v)) hx hb hts (by decide +kernel) tyX2 tyX2_ok nmX2 hown (hin) hK ho_416 hLB_418 hb0 rfl 0 (by decide) rfl (hts (.fieldLink RX2 22 RX2 "number" "I") (by decide +kernel)) rfl (ty := .int) (by decide +kernel) rfl rfl (Nat.le_of_ble_eq_true rfl) dX2_init_26 (fun H_430 locs_431 ho_432 hC_433 hLB_434 => ?_)
  have ho_432 : HA D H_430 q0 (eO 2 [.int (nI v), .null, .null, .ref q_361, .ref q_398]) := ho_432
  have ho_435 := ho_419.chg hC_433 (by omega)
  have ho_436 := ho_420.chg hC_433 (by omega)
  have ho_437 := ho_421.chg hC_433 (by omega)
  have ho_438 := ho_422.chg hC_433 (by omega)
  have hw_439 := hw_423.chg hC_433 (by omega)
  have hw_440 := hw_424.chg hC_433 (by omega)
  have hw_441 := hw_425.chg hC_433 (by omega)
  have hw_442 := hw_426.chg hC_433 (by omega)
  have hw_443 := hw_427.chg hC_433 (by omega)
  have hF_444 := hF_428.chg hC_433 (Or.inl rfl)
  have hz_445 := hC_433.1
  refine lv_aload_n hx hb dX2_init_29 rfl (lv_at hl 0 rfl) ?_
  refine lv_aload_n hx hb dX2_init_30 rfl (lv_at hl 2 rfl) ?_
  refine k_putF (ci := 2) (T := TX2) (N := 5) (v := .ref p1) hx hb hts (by decide +kernel) tyX2 tyX2_ok nmX2 hown (hin) hK ho_432 hLB_434 hb0 rfl 1 (by decide) rfl (hts (.fieldLink RX2 26 RX2 "first" "LVersionMerge$Version;") (by decide +kernel)) rfl (ty := .object "VersionMerge$Version") (by decide +kernel) rfl rfl (Nat.le_of_ble_eq_true rfl) dX2_init_31 (fun H_446 locs_447 ho_448 hC_449 hLB_450 => ?_)
  have ho_448 : HA D H_446 q0 (eO 2 [.int (nI v), .ref p1, .null, .ref q_361, .ref q_398]) := ho_448
  have ho_451 := ho_435.chg hC_449 (by omega)
  have ho_452 := ho_436.chg hC_449 (by omega)
  have ho_453 := ho_437.chg hC_449 (by omega)
  have ho_454 := ho_438.chg hC_449 (by omega)
  have hw_455 := hw_439.chg hC_449 (by omega)
  have hw_456 := hw_440.chg hC_449 (by omega)
  have hw_457 := hw_441.chg hC_449 (by omega)
  have hw_458 := hw_442.chg hC_449 (by omega)
  have hw_459 := hw_443.chg hC_449 (by omega)
  have hF_460 := hF_444.chg hC_449 (Or.inl rfl)
  have hz_461 := hC_449.1
  refine lv_aload_n hx hb dX2_init_34 rfl (lv_at hl 0 rfl) ?_
  refine lv_aload_n hx hb dX2_init_35 rfl (lv_at hl 3 rfl) ?_
  refine k_putF (ci := 2) (T := TX2) (N := 5) (v := .ref p2) hx hb hts (by decide +kernel) tyX2 tyX2_ok nmX2 hown (hin) hK ho_448 hLB_450 hb0 rfl 2 (by decide) rfl (hts (.fieldLink RX2 30 RX2 "second" "LVersionMerge$Version;") (by decide +kernel)) rfl (ty := .object "VersionMerge$Version") (by decide +kernel) rfl rfl (Nat.le_of_ble_eq_true rfl) dX2_init_36 (fun H_462 locs_463 ho_464 hC_465 hLB_466 => ?_)
  have ho_464 : HA D H_462 q0 (eO 2 [.int (nI v), .ref p1, .ref p2, .ref q_361, .ref q_398]) := ho_464
  have ho_467 := ho_451.chg hC_465 (by omega)
  have ho_468 := ho_452.chg hC_465 (by omega)
  have ho_469 := ho_453.chg hC_465 (by omega)
  have ho_470 := ho_454.chg hC_465 (by omega)
  have hw_471 := hw_455.chg hC_465 (by omega)
  have hw_472 := hw_456.chg hC_465 (by omega)
  have hw_473 := hw_457.chg hC_465 (by omega)
  have hw_474 := hw_458.chg hC_465 (by omega)
  have hw_475 := hw_459.chg hC_465 (by omega)
  have hF_476 := hF_460.chg hC_465 (Or.inl rfl)
  have hz_477 := hC_465.1
  refine lv_aload_n hx hb dX2_init_39 rfl (lv_at hl 0 rfl) ?_
  refine k_get (ci := 2) (C := RX2) (T := TX2) (N := 5) (v := .ref q_361) hx hb hts (by decide +kernel) hown hK ho_464 rfl 3 (by decide) rfl (hts (.fieldLink RX2 12 RX2 "triples" "LVersionMerge$TripleSet;") (by decide +kernel)) rfl dX2_init_40 ?_
  refine lv_aload hx hb dX2_init_43 (lv_at hl 4 rfl) ?_
  refine k_callU (va_runVN (As := [.ref x]) (rest := []) ⟨hx, hb, hml, hown, hts⟩ (c_X1_becomeCopy l D g b0 H_462 q_361 q2 (fun _ => 0) ho_470 hw_474 (by omega) x wx fx ho_467 hw_471 hxb (by omega)) ⟨va_cnB 1 hts gX2_init_X1_becomeCopy_n33 rfl rfl rfl (hK.2.1 _ (List.mem_of_getElem? (i := 3) rfl)) (hts (.initialized RX1) (by decide +kernel)) (by decide +kernel) ⟨Nat.le_of_ble_eq_true rfl, Nat.le_of_ble_eq_true rfl⟩, hts (.instanceMethod yX1_becomeCopy) (by decide +kernel), hts (.selects RX1 yX1_becomeCopy yX1_becomeCopy) (by decide +kernel)⟩ ⟨kPc_blind, k_recv hK ho_470 rfl, fun U hU hW => kPc_at hK hU hW⟩ rfl rfl hl.1 rfl (lv_room (Nat.le_of_ble_eq_true rfl)) dX2_init_45 ⟨Nat.le_of_ble_eq_true rfl, Nat.le_of_ble_eq_true rfl⟩) hLB_466 (fun Hb locsb hLBb hqb => ?_)
  obtain ⟨w1, hw1, hCb, hw1v⟩ := hqb
  have ho_478 := ho_464.chg hCb (by omega)
  have ho_479 := ho_467.chg hCb (by omega)
  have ho_480 := ho_468.chg hCb (by omega)
  have ho_481 := ho_469.chg hCb (by omega)
  have ho_482 := ho_470.chg hCb (by omega)
  have hw_483 := hw_471.chg hCb (by omega)
  have hw_484 := hw_472.chg hCb (by omega)
  have hw_485 := hw_473.chg hCb (by omega)
  have hw_486 := hw_475.chg hCb (by omega)
  have hF_487 := hF_476.chg hCb (Or.inr (by omega))
  have hz_488 := hCb.1
  refine lv_aload_n hx hb dX2_init_48 rfl (lv_at hl 0 rfl) ?_
  refine lv_aload_n hx hb dX2_init_49 rfl (lv_at hl 2 rfl) ?_
  refine k_callU (va_runV (As := [.ref p1]) (rest := []) ⟨hx, hb, hml, hown, hts⟩ (c_X2_takeAncestors_1 l D g b0 Hb q0 q_398 _ _ _ _ (fun _ => false) ho_478 hw_486 (by omega) p1 m1 _ _ _ _ a1 ho_480 hw_484 (by omega) (by omega) (by omega)) (cwV 1 hts gX2_init_X2_takeAncestors rfl rfl rfl (by decide +kernel) ⟨Nat.le_of_ble_eq_true rfl, Nat.le_of_ble_eq_true rfl⟩) ⟨kPc_blind, k_recv hK ho_478 rfl, fun U hU hW => kPc_at hK hU hW⟩ rfl rfl hl.1 rfl (lv_room (Nat.le_of_ble_eq_true rfl)) dX2_init_50 ⟨Nat.le_of_ble_eq_true rfl, Nat.le_of_ble_eq_true rfl⟩) hLBb (fun Ht1 locst1 hLBt1 hqt1 => ?_)
  obtain ⟨an1, hat1, hCt1, hav1⟩ := hqt1
  have ho_489 := ho_478.chg hCt1 (by omega)
  have ho_490 := ho_479.chg hCt1 (by omega)
  have ho_491 := ho_480.chg hCt1 (by omega)
  have ho_492 := ho_481.chg hCt1 (by omega)
  have ho_493 := ho_482.chg hCt1 (by omega)
  have hw_494 := hw_483.chg hCt1 (by omega)
  have hw_495 := hw_484.chg hCt1 (by omega)
  have hw_496 := hw_485.chg hCt1 (by omega)
  have hw_497 := hw1.chg hCt1 (by omega)
  have hF_498 := hF_487.chg hCt1 (Or.inr (by omega))
  have hz_499 := hCt1.1
  refine lv_aload_n hx hb dX2_init_53 rfl (lv_at hl 0 rfl) ?_
  refine lv_aload_n hx hb dX2_init_54 rfl (lv_at hl 3 rfl) ?_
  refine k_callU (va_runV (As := [.ref p2]) (rest := []) ⟨hx, hb, hml, hown, hts⟩ (c_X2_takeAncestors_1 l D g b0 Ht1 q0 q_398 _ _ _ _ an1 ho_489 hat1 (by omega) p2 m2 _ _ _ _ a2 ho_492 hw_496 (by omega) (by omega) (by omega)) (cwV 1 hts gX2_init_X2_takeAncestors rfl rfl rfl (by decide +kernel) ⟨Nat.le_of_ble_eq_true rfl, Nat.le_of_ble_eq_true rfl⟩) ⟨kPc_blind, k_recv hK ho_489 rfl, fun U hU hW => kPc_at hK hU hW⟩ rfl rfl hl.1 rfl (lv_room (Nat.le_of_ble_eq_true rfl)) dX2_init_55 ⟨Nat.le_of_ble_eq_true rfl, Nat.le_of_ble_eq_true rfl⟩) hLBt1 (fun Ht2 locst2 hLBt2 hqt2 => ?_)
  obtain ⟨an2, hat2, hCt2, hav2⟩ := hqt2
  have ho_500 := ho_489.chg hCt2 (by omega)
  have ho_501 := ho_490.chg hCt2 (by omega)
  have ho_502 := ho_491.chg hCt2 (by omega)
  have ho_503 := ho_492.chg hCt2 (by omega)
  have ho_504 := ho_493.chg hCt2 (by omega)
  have hw_505 := hw_494.chg hCt2 (by omega)
  have hw_506 := hw_495.chg hCt2 (by omega)
  have hw_507 := hw_496.chg hCt2 (by omega)
  have hw_508 := hw_497.chg hCt2 (by omega)
  have hF_509 := hF_498.chg hCt2 (Or.inr (by omega))
  have hz_510 := hCt2.1
  refine lv_iload_n hx hb dX2_init_58 rfl (lv_at hl 1 rfl) ?_
  refine n_if_lt (tgt := 76) hx hb dX2_init_59 (by decide) (by omega) ?_
  refine lv_iload_n hx hb dX2_init_62 rfl (lv_at hl 1 rfl) ?_
  refine lv_sipush (v := nI 400) hx hb dX2_init_63 (by decide +kernel) ?_
  refine n_icmp_ge (tgt := 76) hx hb dX2_init_66 (by decide) (by omega) (by omega) (fun c_512 => ?_) (fun c_512 => ?_)
  · skip
    exact absurd hv (by omega)
  · skip
    refine lv_aload_n hx hb dX2_init_69 rfl (lv_at hl 0 rfl) ?_
    refine k_get (ci := 2) (C := RX2) (T := TX2) (N := 5) (v := .ref q_398) hx hb hts (by decide +kernel) hown hK ho_500 rfl 4 (by decide) rfl (hts (.fieldLink RX2 18 RX2 "ancestors" "[Z") (by decide +kernel)) rfl dX2_init_70 ?_
    refine lv_iload_n hx hb dX2_init_73 rfl (lv_at hl 1 rfl) ?_
    refine lv_iconst (v := b2i true) hx hb dX2_init_74 (by decide +kernel) ?_
    refine k_zast (y := b2i true) hx hb hK hat2 hLBt2 (by omega) (v) rfl (by omega) (by omega) (b2i_z _) dX2_init_75 (fun H_513 locs_514 hw_515 hC_516 hLB_517 => ?_)
    rw [upd_b2i] at hw_515
    have ho_518 := ho_500.chg hC_516 (by omega)
    have ho_519 := ho_501.chg hC_516 (by omega)
    have ho_520 := ho_502.chg hC_516 (by omega)
    have ho_521 := ho_503.chg hC_516 (by omega)
    have ho_522 := ho_504.chg hC_516 (by omega)
    have hw_523 := hw_505.chg hC_516 (by omega)
    have hw_524 := hw_506.chg hC_516 (by omega)
    have hw_525 := hw_507.chg hC_516 (by omega)
    have hw_526 := hw_508.chg hC_516 (by omega)
    have hF_527 := hF_509.chg hC_516 (Or.inr (by omega))
    have hz_528 := hC_516.1
    refine r_vU hx hb hr hLB_517 (Nat.le_refl _) (Nat.le_refl _) ⟨q_361, q2, q_398, w1, _, by omega, by omega, by omega, ho_518, ho_522, hw_526, hw_515, hF_527.to (fun _ h => h), hw1v, ?_⟩ dX2_init_76 hlocks
    intro j hj
    by_cases e : j = v
    · subst e
      rw [up_eq, show decide (j = j) = true from decide_eq_true rfl]
      try simp
    · rw [up_ne _ _ e, hav2 j hj, hav1 j hj, show decide (j = v) = false from decide_eq_false e]
      try simp
end
section
/-! 11: reads of the class, versions and branches by their numbers (the walks are laid by wip/gen/cls11.py) -/
section KROWS2
variable {p : Program} {l : Launch} {e : Env} {R : Room} {s : State} {m : MethodId} {args : Array Value} {below : List Frame} {meth : Method} {c : Code} {H : Heap} {locs : List Loc} {cells slots : Nat} {Q : State → Prop}
variable {cc : ByteArray} {pc : Nat} {ls : Array Slot} {rest : List Value} {D : va_G} {g : Nat → ClassId} {a : Nat}
theorem k_aaldR (hexec : p.tables.exec = Jvm.exec) (hb : c.code = cc) (hK : KK D g s) (t0 : Nat) {C : String} {n : Nat} {f : Nat → Option Nat} {cA : ClassId} (ht : (ty6 g)[t0]? = some (cA, .object C)) (ho : HA D H a (eQ cA n f)) {i : Int32} (j : Nat) (hi : i = nI j) (hj : j < n) (hn : n < 2 ^ 31) {y : Nat} (hy : f j = some y) (hdg : decode cc pc = .ok (.aaload, 1))
    (kk : W p l e R s m args below meth c H locs cells slots Q (F0 m (pc + 1) ls (.ref y :: rest))) : W p l e R s m args below meth c H locs cells slots Q (F0 m pc ls (.int i :: .ref a :: rest)) :=
  k_aald hexec hb hK t0 ht ho j hi hj hn hdg (by rw [hy]; exact kk)
end KROWS2
theorem int_lt {i : Int32} {n : Nat} (h0 : ¬ i < 0) (h1 : ¬ nI n ≤ i) (hn : n < 2 ^ 31) : ∃ k, k < n ∧ i = nI k := by
  obtain ⟨k, hk, rfl⟩ := nI_of h0
  exact ⟨k, Nat.not_le.mp (fun z => h1 ((nI_leI hn hk).mpr z)), rfl⟩
theorem neg_lt {k : Nat} (hk : k < 2 ^ 31) : (-1) - nI k < 0 := by
  rw [Int32.lt_iff_toInt_lt, show (0 : Int32).toInt = 0 from by decide]
  have e : ((-1 : Int32) - nI k).toInt = -1 - (k : Int) := by
    rw [Int32.toInt_sub, nI_toInt hk, show (-1 : Int32).toInt = -1 from by decide, Int.bmod_eq_of_le (by omega) (by omega)]
  omega
theorem neg_neg1 (x : Int32) : (-1) - ((-1) - x) = x := by
  rw [Int32.sub_eq_add_neg, Int32.neg_sub, Int32.sub_eq_add_neg, Int32.add_comm x, ← Int32.add_assoc, Int32.add_right_neg, Int32.zero_add]
/-- where a version's change starts from: the code of the set, its words -/
def befC (σ : SG) (k : Nat) : Nat := match sF σ k with
  | none => 3
  | some p => 17 + 4 * p
def befW (σ : SG) (k : Nat) : Nat → Int64 := match sF σ k with
  | none => fun _ => 0
  | some p => sW σ p
theorem befC_0 {σ : SG} {k : Nat} (h : sF σ k = none) : befC σ k = 3 := by unfold befC; rw [h]
theorem befC_1 {σ : SG} {k p : Nat} (h : sF σ k = some p) : befC σ k = 17 + 4 * p := by unfold befC; rw [h]
theorem befW_0 {σ : SG} {k : Nat} (h : sF σ k = none) : befW σ k = fun _ => 0 := by unfold befW; rw [h]
theorem befW_1 {σ : SG} {k p : Nat} (h : sF σ k = some p) : befW σ k = sW σ p := by unfold befW; rw [h]
theorem WF.first {σ : SG} (h : WF σ) {k p : Nat} (hk : k < sV σ) (hp : sF σ k = some p) : p < k := (h.2.2.2.2.2 k hk).1 p hp
theorem WF.second {σ : SG} (h : WF σ) {k p : Nat} (hk : k < sV σ) (hp : sS σ k = some p) : p < k := (h.2.2.2.2.2 k hk).2.1 p hp
theorem CR.bef {D : va_G} {g : Nat → ClassId} {b0 : Nat} {A : Nat → Nat} {σ : SG} {dw : Nat → Int64} {H : Heap} (h : CR D g b0 A σ dw H) {k : Nat} (hk : k < sV σ) : HA D H (A (befC σ k)) (eO 1 [.ref (A (befC σ k + 1))]) ∧ HA D H (A (befC σ k + 1)) (eL (g 2) 64 (befW σ k)) ∧ cLive σ (befC σ k) ∧ cLive σ (befC σ k + 1) ∧ (befC σ k = 3 ∨ 17 ≤ befC σ k ∧ befC σ k < 16 + 4 * k) := by
  cases hf : sF σ k with
  | none =>
    rw [befC_0 hf, befW_0 hf]
    exact ⟨h.nt, h.nw, cl0 (by omega), cl0 (by omega), Or.inl rfl⟩
  | some p =>
    have hp := h.wf.first hk hf
    rw [befC_1 hf, befW_1 hf, show 17 + 4 * p + 1 = 18 + 4 * p by omega]
    exact ⟨h.ts (by omega), h.tw (by omega), clV p (by omega) (by omega) (by omega), clV p (by omega) (by omega) (by omega), Or.inr ⟨by omega, by omega⟩⟩
theorem CR.ver0 {D : va_G} {g : Nat → ClassId} {b0 : Nat} {A : Nat → Nat} {σ : SG} {dw : Nat → Int64} {H : Heap} (h : CR D g b0 A σ dw H) {k : Nat} (hk : k < sV σ) (hf : sF σ k = none) : HA D H (A (16 + 4 * k)) (eO 2 [.int (nI k), .null, va_rf (oA A (sS σ k)), .ref (A (17 + 4 * k)), .ref (A (19 + 4 * k))]) := by
  have := h.ver hk
  rw [hf] at this
  exact this
theorem CR.ver1 {D : va_G} {g : Nat → ClassId} {b0 : Nat} {A : Nat → Nat} {σ : SG} {dw : Nat → Int64} {H : Heap} (h : CR D g b0 A σ dw H) {k p : Nat} (hk : k < sV σ) (hf : sF σ k = some p) : HA D H (A (16 + 4 * k)) (eO 2 [.int (nI k), .ref (A (16 + 4 * p)), va_rf (oA A (sS σ k)), .ref (A (17 + 4 * k)), .ref (A (19 + 4 * k))]) := by
  have := h.ver hk
  rw [hf] at this
  exact this
theorem CR.verS0 {D : va_G} {g : Nat → ClassId} {b0 : Nat} {A : Nat → Nat} {σ : SG} {dw : Nat → Int64} {H : Heap} (h : CR D g b0 A σ dw H) {k : Nat} (hk : k < sV σ) (hf : sS σ k = none) : HA D H (A (16 + 4 * k)) (eO 2 [.int (nI k), va_rf (oA A (sF σ k)), .null, .ref (A (17 + 4 * k)), .ref (A (19 + 4 * k))]) := by
  have := h.ver hk
  rw [hf] at this
  exact this
theorem CR.verS1 {D : va_G} {g : Nat → ClassId} {b0 : Nat} {A : Nat → Nat} {σ : SG} {dw : Nat → Int64} {H : Heap} (h : CR D g b0 A σ dw H) {k p : Nat} (hk : k < sV σ) (hf : sS σ k = some p) : HA D H (A (16 + 4 * k)) (eO 2 [.int (nI k), va_rf (oA A (sF σ k)), .ref (A (16 + 4 * p)), .ref (A (17 + 4 * k)), .ref (A (19 + 4 * k))]) := by
  have := h.ver hk
  rw [hf] at this
  exact this
/-- the greatest common ancestor -/
def GC1 (σ : SG) (u v c : Nat) : Prop := c < 400 ∧ sA σ u c = true ∧ sA σ v c = true ∧ ∀ z, c < z → z < 400 → ¬ (sA σ u z = true ∧ sA σ v z = true)
def GC0 (σ : SG) (u v : Nat) : Prop := ∀ z, z < 400 → ¬ (sA σ u z = true ∧ sA σ v z = true)
theorem WF.gc1 {σ : SG} (h : WF σ) {u v c : Nat} (hu : u < sV σ) (hc : GC1 σ u v c) : c ≤ u := h.anc (u + 1) u (by omega) hu c hc.1 hc.2.1
theorem nI_min (u v : Nat) (hu : u < 2 ^ 31) (hv : v < 2 ^ 31) : (if nI v < nI u then nI v else nI u) = nI (min u v) := by
  by_cases h : v < u
  · rw [if_pos ((nI_ltI hv hu).mpr h), Nat.min_eq_right (by omega)]
  · rw [if_neg (fun z => h ((nI_ltI hv hu).mp z)), Nat.min_eq_left (by omega)]
theorem nbeq_t {a b : Bool} (h : ¬ a = b) : (!(a == b)) = true := by cases a <;> cases b <;> first | rfl | exact absurd rfl h
theorem nbeq_f {a b : Bool} (h : a = b) : (!(a == b)) = false := by subst h; cases a <;> rfl
set_option maxHeartbeats 4000000 in
set_option maxRecDepth 100000 in
/-- branchAt(k): there is one -/
theorem c_X3_branchAt_y (l : Launch) (D : va_G) (g : Nat → ClassId) (b0 : Nat) (H : Heap) (A : Nat → Nat) (σ : SG) (dw : Nat → Int64) (hC : CR D g b0 A σ dw H) (k : Nat) (hk : k < sB σ) : Met l yX3_branchAt wsX3_branchAt ({ frames := 0, cells := 0, slots := 0, locals := 0 } : Room) (kPc D g [.ref (A 0), .int (nI k)] H) (kX (.ref (A (2000 + k))) H) 0 0 kN := by
  refine Met.ofW (cc := cX3_branchAt) (maxL := 2) (ret := (some (.object "VersionMerge$Branch"))) (by decide) rfl ?_
  intro p e s m args below meth c s₁ B hml hv
  obtain ⟨rfl, hH, hK⟩ := hv
  have hx := B.exec
  have hb := B.bytes
  have hr := B.returns
  have hts := atoms_spec (ws := wsX3_branchAt) B.pre
  have hown : s.vm.findClass RX3 = some m.cls := findClass_of_methodNamed B.named
  have hlocks := B.notSynchronized
  rw [hH]
  have hl := lv_entry ([.ref (A 0), .int (nI k)]) (n := 2) (Nat.le_of_ble_eq_true rfl)
  rw [lg_entry_eq]
  generalize (lg_sl ([.ref (A 0), .int (nI k)]) ++ List.replicate (2 - (lg_sl ([.ref (A 0), .int (nI k)])).length) Slot.unset).toArray = ls at hl ⊢
  have hl : lv_has ls 2 [(0, .ref (A 0)), (1, .int (nI k))] := hl
  have hVB := hC.wf
  have hV4 : sV σ ≤ 400 := hVB.2.1
  have hB4 : sB σ ≤ 40 := hVB.2.2.2.1
  refine lv_iload_n hx hb dX3_branchAt_0 rfl (lv_at hl 1 rfl) ?_
  refine n_if_lt (tgt := 18) hx hb dX3_branchAt_1 (by decide) (by omega) ?_
  refine lv_iload_n hx hb dX3_branchAt_4 rfl (lv_at hl 1 rfl) ?_
  refine lv_aload_n hx hb dX3_branchAt_5 rfl (lv_at hl 0 rfl) ?_
  refine k_get (ci := 3) (C := RX3) (T := TX3) (N := 7) (v := .int (nI (sB σ))) hx hb hts (by decide +kernel) hown hK hC.o rfl 3 (by decide) rfl (hts (.fieldLink RX3 46 RX3 "branchCount" "I") (by decide +kernel)) rfl dX3_branchAt_6 ?_
  refine n_icmp_ge (tgt := 18) hx hb dX3_branchAt_9 (by decide) (by omega) (by omega) (fun c_530 => ?_) (fun c_530 => ?_)
  · skip
    refine lv_null hx hb dX3_branchAt_18 ?_
    exact absurd hk (by omega)
  · skip
    refine lv_iload_n hx hb dX3_branchAt_12 rfl (lv_at hl 1 rfl) ?_
    refine lv_bipush (v := nI 40) hx hb dX3_branchAt_13 (by decide +kernel) ?_
    refine n_icmp_lt (tgt := 20) hx hb dX3_branchAt_15 (by decide) (by omega) (by omega) (fun c_531 => ?_) (fun c_531 => ?_)
    · skip
      refine lv_aload_n hx hb dX3_branchAt_20 rfl (lv_at hl 0 rfl) ?_
      refine k_get (ci := 3) (C := RX3) (T := TX3) (N := 7) (v := .ref (A 2)) hx hb hts (by decide +kernel) hown hK hC.o rfl 1 (by decide) rfl (hts (.fieldLink RX3 17 RX3 "branchRow" "[LVersionMerge$Branch;") (by decide +kernel)) rfl dX3_branchAt_21 ?_
      refine lv_iload_n hx hb dX3_branchAt_24 rfl (lv_at hl 1 rfl) ?_
      refine k_aaldR hx hb hK 4 rfl hC.br k rfl (by omega) (by omega) (y := A (2000 + k)) (if_pos hk) dX3_branchAt_25 ?_
      exact r_aX hx hb hr (Or.inr ⟨_, rfl⟩) dX3_branchAt_26 hlocks
    · skip
      refine lv_null hx hb dX3_branchAt_18 ?_
      exact absurd hk (by omega)
set_option maxHeartbeats 4000000 in
set_option maxRecDepth 100000 in
/-- branchAt(i): there is none -/
theorem c_X3_branchAt_n (l : Launch) (D : va_G) (g : Nat → ClassId) (b0 : Nat) (H : Heap) (A : Nat → Nat) (σ : SG) (dw : Nat → Int64) (hC : CR D g b0 A σ dw H) (i : Int32) (hi : ∀ k, k < sB σ → ¬ i = nI k) : Met l yX3_branchAt wsX3_branchAt ({ frames := 0, cells := 0, slots := 0, locals := 0 } : Room) (kPc D g [.ref (A 0), .int (i)] H) (kX .null H) 0 0 kN := by
  refine Met.ofW (cc := cX3_branchAt) (maxL := 2) (ret := (some (.object "VersionMerge$Branch"))) (by decide) rfl ?_
  intro p e s m args below meth c s₁ B hml hv
  obtain ⟨rfl, hH, hK⟩ := hv
  have hx := B.exec
  have hb := B.bytes
  have hr := B.returns
  have hts := atoms_spec (ws := wsX3_branchAt) B.pre
  have hown : s.vm.findClass RX3 = some m.cls := findClass_of_methodNamed B.named
  have hlocks := B.notSynchronized
  rw [hH]
  have hl := lv_entry ([.ref (A 0), .int (i)]) (n := 2) (Nat.le_of_ble_eq_true rfl)
  rw [lg_entry_eq]
  generalize (lg_sl ([.ref (A 0), .int (i)]) ++ List.replicate (2 - (lg_sl ([.ref (A 0), .int (i)])).length) Slot.unset).toArray = ls at hl ⊢
  have hl : lv_has ls 2 [(0, .ref (A 0)), (1, .int (i))] := hl
  have hVB := hC.wf
  have hV4 : sV σ ≤ 400 := hVB.2.1
  have hB4 : sB σ ≤ 40 := hVB.2.2.2.1
  refine lv_iload_n hx hb dX3_branchAt_0 rfl (lv_at hl 1 rfl) ?_
  refine lv_if_lt (tgt := 18) hx hb dX3_branchAt_1 (by decide) (fun c_532 => ?_) (fun c_532 => ?_)
  · skip
    refine lv_null hx hb dX3_branchAt_18 ?_
    exact r_aX hx hb hr (Or.inl rfl) dX3_branchAt_19 hlocks
  · skip
    refine lv_iload_n hx hb dX3_branchAt_4 rfl (lv_at hl 1 rfl) ?_
    refine lv_aload_n hx hb dX3_branchAt_5 rfl (lv_at hl 0 rfl) ?_
    refine k_get (ci := 3) (C := RX3) (T := TX3) (N := 7) (v := .int (nI (sB σ))) hx hb hts (by decide +kernel) hown hK hC.o rfl 3 (by decide) rfl (hts (.fieldLink RX3 46 RX3 "branchCount" "I") (by decide +kernel)) rfl dX3_branchAt_6 ?_
    refine lv_icmp_ge (tgt := 18) hx hb dX3_branchAt_9 (by decide) (fun c_533 => ?_) (fun c_533 => ?_)
    · skip
      refine lv_null hx hb dX3_branchAt_18 ?_
      exact r_aX hx hb hr (Or.inl rfl) dX3_branchAt_19 hlocks
    · skip
      obtain ⟨k, hk, e⟩ := int_lt c_532 c_533 (by omega)
      exact absurd e (hi k hk)
set_option maxHeartbeats 4000000 in
set_option maxRecDepth 100000 in
/-- versionAt(k): there is one -/
theorem c_X3_versionAt_y (l : Launch) (D : va_G) (g : Nat → ClassId) (b0 : Nat) (H : Heap) (A : Nat → Nat) (σ : SG) (dw : Nat → Int64) (hC : CR D g b0 A σ dw H) (k : Nat) (hk : k < sV σ) : Met l yX3_versionAt wsX3_versionAt ({ frames := 0, cells := 0, slots := 0, locals := 0 } : Room) (kPc D g [.ref (A 0), .int (nI k)] H) (kX (.ref (A (16 + 4 * k))) H) 0 0 kN := by
  refine Met.ofW (cc := cX3_versionAt) (maxL := 2) (ret := (some (.object "VersionMerge$Version"))) (by decide) rfl ?_
  intro p e s m args below meth c s₁ B hml hv
  obtain ⟨rfl, hH, hK⟩ := hv
  have hx := B.exec
  have hb := B.bytes
  have hr := B.returns
  have hts := atoms_spec (ws := wsX3_versionAt) B.pre
  have hown : s.vm.findClass RX3 = some m.cls := findClass_of_methodNamed B.named
  have hlocks := B.notSynchronized
  rw [hH]
  have hl := lv_entry ([.ref (A 0), .int (nI k)]) (n := 2) (Nat.le_of_ble_eq_true rfl)
  rw [lg_entry_eq]
  generalize (lg_sl ([.ref (A 0), .int (nI k)]) ++ List.replicate (2 - (lg_sl ([.ref (A 0), .int (nI k)])).length) Slot.unset).toArray = ls at hl ⊢
  have hl : lv_has ls 2 [(0, .ref (A 0)), (1, .int (nI k))] := hl
  have hVB := hC.wf
  have hV4 : sV σ ≤ 400 := hVB.2.1
  have hB4 : sB σ ≤ 40 := hVB.2.2.2.1
  refine lv_iload_n hx hb dX3_versionAt_0 rfl (lv_at hl 1 rfl) ?_
  refine n_if_lt (tgt := 19) hx hb dX3_versionAt_1 (by decide) (by omega) ?_
  refine lv_iload_n hx hb dX3_versionAt_4 rfl (lv_at hl 1 rfl) ?_
  refine lv_aload_n hx hb dX3_versionAt_5 rfl (lv_at hl 0 rfl) ?_
  refine k_get (ci := 3) (C := RX3) (T := TX3) (N := 7) (v := .int (nI (sV σ))) hx hb hts (by decide +kernel) hown hK hC.o rfl 2 (by decide) rfl (hts (.fieldLink RX3 146 RX3 "versionCount" "I") (by decide +kernel)) rfl dX3_versionAt_6 ?_
  refine n_icmp_ge (tgt := 19) hx hb dX3_versionAt_9 (by decide) (by omega) (by omega) (fun c_535 => ?_) (fun c_535 => ?_)
  · skip
    refine lv_null hx hb dX3_versionAt_19 ?_
    exact absurd hk (by omega)
  · skip
    refine lv_iload_n hx hb dX3_versionAt_12 rfl (lv_at hl 1 rfl) ?_
    refine lv_sipush (v := nI 400) hx hb dX3_versionAt_13 (by decide +kernel) ?_
    refine n_icmp_lt (tgt := 21) hx hb dX3_versionAt_16 (by decide) (by omega) (by omega) (fun c_536 => ?_) (fun c_536 => ?_)
    · skip
      refine lv_aload_n hx hb dX3_versionAt_21 rfl (lv_at hl 0 rfl) ?_
      refine k_get (ci := 3) (C := RX3) (T := TX3) (N := 7) (v := .ref (A 1)) hx hb hts (by decide +kernel) hown hK hC.o rfl 0 (by decide) rfl (hts (.fieldLink RX3 11 RX3 "versionRow" "[LVersionMerge$Version;") (by decide +kernel)) rfl dX3_versionAt_22 ?_
      refine lv_iload_n hx hb dX3_versionAt_25 rfl (lv_at hl 1 rfl) ?_
      refine k_aaldR hx hb hK 5 rfl hC.vr k rfl (by omega) (by omega) (y := A (16 + 4 * k)) (if_pos hk) dX3_versionAt_26 ?_
      exact r_aX hx hb hr (Or.inr ⟨_, rfl⟩) dX3_versionAt_27 hlocks
    · skip
      refine lv_null hx hb dX3_versionAt_19 ?_
      exact absurd hk (by omega)
set_option maxHeartbeats 4000000 in
set_option maxRecDepth 100000 in
/-- versionAt(i): there is none -/
theorem c_X3_versionAt_n (l : Launch) (D : va_G) (g : Nat → ClassId) (b0 : Nat) (H : Heap) (A : Nat → Nat) (σ : SG) (dw : Nat → Int64) (hC : CR D g b0 A σ dw H) (i : Int32) (hi : ∀ k, k < sV σ → ¬ i = nI k) : Met l yX3_versionAt wsX3_versionAt ({ frames := 0, cells := 0, slots := 0, locals := 0 } : Room) (kPc D g [.ref (A 0), .int (i)] H) (kX .null H) 0 0 kN := by
  refine Met.ofW (cc := cX3_versionAt) (maxL := 2) (ret := (some (.object "VersionMerge$Version"))) (by decide) rfl ?_
  intro p e s m args below meth c s₁ B hml hv
  obtain ⟨rfl, hH, hK⟩ := hv
  have hx := B.exec
  have hb := B.bytes
  have hr := B.returns
  have hts := atoms_spec (ws := wsX3_versionAt) B.pre
  have hown : s.vm.findClass RX3 = some m.cls := findClass_of_methodNamed B.named
  have hlocks := B.notSynchronized
  rw [hH]
  have hl := lv_entry ([.ref (A 0), .int (i)]) (n := 2) (Nat.le_of_ble_eq_true rfl)
  rw [lg_entry_eq]
  generalize (lg_sl ([.ref (A 0), .int (i)]) ++ List.replicate (2 - (lg_sl ([.ref (A 0), .int (i)])).length) Slot.unset).toArray = ls at hl ⊢
  have hl : lv_has ls 2 [(0, .ref (A 0)), (1, .int (i))] := hl
  have hVB := hC.wf
  have hV4 : sV σ ≤ 400 := hVB.2.1
  have hB4 : sB σ ≤ 40 := hVB.2.2.2.1
  refine lv_iload_n hx hb dX3_versionAt_0 rfl (lv_at hl 1 rfl) ?_
  refine lv_if_lt (tgt := 19) hx hb dX3_versionAt_1 (by decide) (fun c_537 => ?_) (fun c_537 => ?_)
  · skip
    refine lv_null hx hb dX3_versionAt_19 ?_
    exact r_aX hx hb hr (Or.inl rfl) dX3_versionAt_20 hlocks
  · skip
    refine lv_iload_n hx hb dX3_versionAt_4 rfl (lv_at hl 1 rfl) ?_
    refine lv_aload_n hx hb dX3_versionAt_5 rfl (lv_at hl 0 rfl) ?_
    refine k_get (ci := 3) (C := RX3) (T := TX3) (N := 7) (v := .int (nI (sV σ))) hx hb hts (by decide +kernel) hown hK hC.o rfl 2 (by decide) rfl (hts (.fieldLink RX3 146 RX3 "versionCount" "I") (by decide +kernel)) rfl dX3_versionAt_6 ?_
    refine lv_icmp_ge (tgt := 19) hx hb dX3_versionAt_9 (by decide) (fun c_538 => ?_) (fun c_538 => ?_)
    · skip
      refine lv_null hx hb dX3_versionAt_19 ?_
      exact r_aX hx hb hr (Or.inl rfl) dX3_versionAt_20 hlocks
    · skip
      obtain ⟨k, hk, e⟩ := int_lt c_537 c_538 (by omega)
      exact absurd e (hi k hk)
set_option maxHeartbeats 4000000 in
set_option maxRecDepth 100000 in
theorem c_X3_changedBy_y1 (l : Launch) (D : va_G) (g : Nat → ClassId) (b0 : Nat) (H : Heap) (A : Nat → Nat) (σ : SG) (dw : Nat → Int64) (hC : CR D g b0 A σ dw H) (k : Nat) (hk : k < sV σ) : Met l yX3_changedBy wsX3_changedBy ({ frames := 1, cells := 0, slots := 0, locals := 21 } : Room) (kPc D g [.ref (A 0), .int (nI k)] H) (kX (.ref (A (16 + 4 * k))) H) 0 0 kN := by
  refine Met.ofW (cc := cX3_changedBy) (maxL := 2) (ret := (some (.object "VersionMerge$Version"))) (by decide) rfl ?_
  intro p e s m args below meth c s₁ B hml hv
  obtain ⟨rfl, hH, hK⟩ := hv
  have hx := B.exec
  have hb := B.bytes
  have hr := B.returns
  have hts := atoms_spec (ws := wsX3_changedBy) B.pre
  have hown : s.vm.findClass RX3 = some m.cls := findClass_of_methodNamed B.named
  have hlocks := B.notSynchronized
  rw [hH]
  have hl := lv_entry ([.ref (A 0), .int (nI k)]) (n := 2) (Nat.le_of_ble_eq_true rfl)
  rw [lg_entry_eq]
  generalize (lg_sl ([.ref (A 0), .int (nI k)]) ++ List.replicate (2 - (lg_sl ([.ref (A 0), .int (nI k)])).length) Slot.unset).toArray = ls at hl ⊢
  have hl : lv_has ls 2 [(0, .ref (A 0)), (1, .int (nI k))] := hl
  have hVB := hC.wf
  have hV4 : sV σ ≤ 400 := hVB.2.1
  have hB4 : sB σ ≤ 40 := hVB.2.2.2.1
  refine lv_aload_n hx hb dX3_changedBy_0 rfl (lv_at hl 0 rfl) ?_
  refine lv_iload_n hx hb dX3_changedBy_1 rfl (lv_at hl 1 rfl) ?_
  refine n_if_lt (tgt := 9) hx hb dX3_changedBy_2 (by decide) (by omega) ?_
  refine lv_iload_n hx hb dX3_changedBy_5 rfl (lv_at hl 1 rfl) ?_
  refine lv_goto (tgt := 13) hx hb dX3_changedBy_6 (by decide) ?_
  refine k_callX (va_runV (As := [.int (nI k)]) (rest := []) ⟨hx, hb, hml, hown, hts⟩ (c_X3_versionAt_y l D g b0 H A σ dw hC k hk) (cwV 1 hts gX3_changedBy_X3_versionAt rfl rfl rfl (by decide +kernel) ⟨Nat.le_of_ble_eq_true rfl, Nat.le_of_ble_eq_true rfl⟩) ⟨kPc_blind, k_recv hK hC.o rfl, fun U hU hW => kPc_at hK hU hW⟩ rfl rfl hl.1 rfl (lv_room (Nat.le_of_ble_eq_true rfl)) dX3_changedBy_13 ⟨Nat.le_of_ble_eq_true rfl, Nat.le_of_ble_eq_true rfl⟩) ?_
  exact r_aX hx hb hr (Or.inr ⟨_, rfl⟩) dX3_changedBy_16 hlocks
set_option maxHeartbeats 4000000 in
set_option maxRecDepth 100000 in
theorem c_X3_changedBy_y2 (l : Launch) (D : va_G) (g : Nat → ClassId) (b0 : Nat) (H : Heap) (A : Nat → Nat) (σ : SG) (dw : Nat → Int64) (hC : CR D g b0 A σ dw H) (k : Nat) (hk : k < sV σ) : Met l yX3_changedBy wsX3_changedBy ({ frames := 1, cells := 0, slots := 0, locals := 21 } : Room) (kPc D g [.ref (A 0), .int ((-1) - nI k)] H) (kX (.ref (A (16 + 4 * k))) H) 0 0 kN := by
  refine Met.ofW (cc := cX3_changedBy) (maxL := 2) (ret := (some (.object "VersionMerge$Version"))) (by decide) rfl ?_
  intro p e s m args below meth c s₁ B hml hv
  obtain ⟨rfl, hH, hK⟩ := hv
  have hx := B.exec
  have hb := B.bytes
  have hr := B.returns
  have hts := atoms_spec (ws := wsX3_changedBy) B.pre
  have hown : s.vm.findClass RX3 = some m.cls := findClass_of_methodNamed B.named
  have hlocks := B.notSynchronized
  rw [hH]
  have hl := lv_entry ([.ref (A 0), .int ((-1) - nI k)]) (n := 2) (Nat.le_of_ble_eq_true rfl)
  rw [lg_entry_eq]
  generalize (lg_sl ([.ref (A 0), .int ((-1) - nI k)]) ++ List.replicate (2 - (lg_sl ([.ref (A 0), .int ((-1) - nI k)])).length) Slot.unset).toArray = ls at hl ⊢
  have hl : lv_has ls 2 [(0, .ref (A 0)), (1, .int ((-1) - nI k))] := hl
  have hVB := hC.wf
  have hV4 : sV σ ≤ 400 := hVB.2.1
  have hB4 : sB σ ≤ 40 := hVB.2.2.2.1
  refine lv_aload_n hx hb dX3_changedBy_0 rfl (lv_at hl 0 rfl) ?_
  refine lv_iload_n hx hb dX3_changedBy_1 rfl (lv_at hl 1 rfl) ?_
  refine lv_if_lt (tgt := 9) hx hb dX3_changedBy_2 (by decide) (fun c_540 => ?_) (fun c_540 => ?_)
  · skip
    refine lv_iload_n hx hb dX3_changedBy_9 rfl (lv_at hl 1 rfl) ?_
    refine k_callX (va_runS (As := [.int ((-1) - nI k)]) (rest := [.ref (A 0)]) ⟨hx, hb, hml, hown, hts⟩ (c_X3_turnedRound l D g H ((-1) - nI k)) (va_cwS 1 hts gX3_changedBy_X3_turnedRound rfl rfl rfl (by decide +kernel) ⟨Nat.le_of_ble_eq_true rfl, Nat.le_of_ble_eq_true rfl⟩) ⟨kPc_blind, fun U hU hW => kPc_at hK hU hW⟩ rfl rfl hl.1 rfl (lv_room (Nat.le_of_ble_eq_true rfl)) dX3_changedBy_10 ⟨Nat.le_of_ble_eq_true rfl, Nat.le_of_ble_eq_true rfl⟩) ?_
    rw [neg_neg1]
    refine k_callX (va_runV (As := [.int (nI k)]) (rest := []) ⟨hx, hb, hml, hown, hts⟩ (c_X3_versionAt_y l D g b0 H A σ dw hC k hk) (cwV 1 hts gX3_changedBy_X3_versionAt rfl rfl rfl (by decide +kernel) ⟨Nat.le_of_ble_eq_true rfl, Nat.le_of_ble_eq_true rfl⟩) ⟨kPc_blind, k_recv hK hC.o rfl, fun U hU hW => kPc_at hK hU hW⟩ rfl rfl hl.1 rfl (lv_room (Nat.le_of_ble_eq_true rfl)) dX3_changedBy_13 ⟨Nat.le_of_ble_eq_true rfl, Nat.le_of_ble_eq_true rfl⟩) ?_
    exact r_aX hx hb hr (Or.inr ⟨_, rfl⟩) dX3_changedBy_16 hlocks
  · skip
    exact absurd (neg_lt (by omega)) c_540
set_option maxHeartbeats 4000000 in
set_option maxRecDepth 100000 in
theorem c_X3_changedBy_n (l : Launch) (D : va_G) (g : Nat → ClassId) (b0 : Nat) (H : Heap) (A : Nat → Nat) (σ : SG) (dw : Nat → Int64) (hC : CR D g b0 A σ dw H) (i : Int32) (h1 : ∀ k, k < sV σ → ¬ i = nI k) (h2 : ∀ k, k < sV σ → ¬ i = (-1) - nI k) : Met l yX3_changedBy wsX3_changedBy ({ frames := 1, cells := 0, slots := 0, locals := 21 } : Room) (kPc D g [.ref (A 0), .int (i)] H) (kX .null H) 0 0 kN := by
  refine Met.ofW (cc := cX3_changedBy) (maxL := 2) (ret := (some (.object "VersionMerge$Version"))) (by decide) rfl ?_
  intro p e s m args below meth c s₁ B hml hv
  obtain ⟨rfl, hH, hK⟩ := hv
  have hx := B.exec
  have hb := B.bytes
  have hr := B.returns
  have hts := atoms_spec (ws := wsX3_changedBy) B.pre
  have hown : s.vm.findClass RX3 = some m.cls := findClass_of_methodNamed B.named
  have hlocks := B.notSynchronized
  rw [hH]
  have hl := lv_entry ([.ref (A 0), .int (i)]) (n := 2) (Nat.le_of_ble_eq_true rfl)
  rw [lg_entry_eq]
  generalize (lg_sl ([.ref (A 0), .int (i)]) ++ List.replicate (2 - (lg_sl ([.ref (A 0), .int (i)])).length) Slot.unset).toArray = ls at hl ⊢
  have hl : lv_has ls 2 [(0, .ref (A 0)), (1, .int (i))] := hl
  have hVB := hC.wf
  have hV4 : sV σ ≤ 400 := hVB.2.1
  have hB4 : sB σ ≤ 40 := hVB.2.2.2.1
  refine lv_aload_n hx hb dX3_changedBy_0 rfl (lv_at hl 0 rfl) ?_
  refine lv_iload_n hx hb dX3_changedBy_1 rfl (lv_at hl 1 rfl) ?_
  refine lv_if_lt (tgt := 9) hx hb dX3_changedBy_2 (by decide) (fun c_541 => ?_) (fun c_541 => ?_)
  · skip
    refine lv_iload_n hx hb dX3_changedBy_9 rfl (lv_at hl 1 rfl) ?_
    refine k_callX (va_runS (As := [.int (i)]) (rest := [.ref (A 0)]) ⟨hx, hb, hml, hown, hts⟩ (c_X3_turnedRound l D g H i) (va_cwS 1 hts gX3_changedBy_X3_turnedRound rfl rfl rfl (by decide +kernel) ⟨Nat.le_of_ble_eq_true rfl, Nat.le_of_ble_eq_true rfl⟩) ⟨kPc_blind, fun U hU hW => kPc_at hK hU hW⟩ rfl rfl hl.1 rfl (lv_room (Nat.le_of_ble_eq_true rfl)) dX3_changedBy_10 ⟨Nat.le_of_ble_eq_true rfl, Nat.le_of_ble_eq_true rfl⟩) ?_
    refine k_callX (va_runV (As := [.int ((-1) - i)]) (rest := []) ⟨hx, hb, hml, hown, hts⟩ (c_X3_versionAt_n l D g b0 H A σ dw hC ((-1) - i) (fun k hk e => h2 k hk (by rw [← e, neg_neg1]))) (cwV 1 hts gX3_changedBy_X3_versionAt rfl rfl rfl (by decide +kernel) ⟨Nat.le_of_ble_eq_true rfl, Nat.le_of_ble_eq_true rfl⟩) ⟨kPc_blind, k_recv hK hC.o rfl, fun U hU hW => kPc_at hK hU hW⟩ rfl rfl hl.1 rfl (lv_room (Nat.le_of_ble_eq_true rfl)) dX3_changedBy_13 ⟨Nat.le_of_ble_eq_true rfl, Nat.le_of_ble_eq_true rfl⟩) ?_
    exact r_aX hx hb hr (Or.inl rfl) dX3_changedBy_16 hlocks
  · skip
    refine lv_iload_n hx hb dX3_changedBy_5 rfl (lv_at hl 1 rfl) ?_
    refine lv_goto (tgt := 13) hx hb dX3_changedBy_6 (by decide) ?_
    refine k_callX (va_runV (As := [.int (i)]) (rest := []) ⟨hx, hb, hml, hown, hts⟩ (c_X3_versionAt_n l D g b0 H A σ dw hC i h1) (cwV 1 hts gX3_changedBy_X3_versionAt rfl rfl rfl (by decide +kernel) ⟨Nat.le_of_ble_eq_true rfl, Nat.le_of_ble_eq_true rfl⟩) ⟨kPc_blind, k_recv hK hC.o rfl, fun U hU hW => kPc_at hK hU hW⟩ rfl rfl hl.1 rfl (lv_room (Nat.le_of_ble_eq_true rfl)) dX3_changedBy_13 ⟨Nat.le_of_ble_eq_true rfl, Nat.le_of_ble_eq_true rfl⟩) ?_
    exact r_aX hx hb hr (Or.inl rfl) dX3_changedBy_16 hlocks
set_option maxHeartbeats 4000000 in
set_option maxRecDepth 100000 in
theorem c_X3_setBefore_0 (l : Launch) (D : va_G) (g : Nat → ClassId) (b0 : Nat) (H : Heap) (A : Nat → Nat) (σ : SG) (dw : Nat → Int64) (hC : CR D g b0 A σ dw H) (k : Nat) (hk : k < sV σ) (hf : sF σ k = none) : Met l yX3_setBefore wsX3_setBefore ({ frames := 0, cells := 0, slots := 0, locals := 0 } : Room) (kPc D g [.ref (A 0), .ref (A (16 + 4 * k))] H) (kX (.ref (A 3)) H) 0 0 kN := by
  refine Met.ofW (cc := cX3_setBefore) (maxL := 2) (ret := (some (.object "VersionMerge$TripleSet"))) (by decide) rfl ?_
  intro p e s m args below meth c s₁ B hml hv
  obtain ⟨rfl, hH, hK⟩ := hv
  have hx := B.exec
  have hb := B.bytes
  have hr := B.returns
  have hts := atoms_spec (ws := wsX3_setBefore) B.pre
  have hown : s.vm.findClass RX3 = some m.cls := findClass_of_methodNamed B.named
  have hlocks := B.notSynchronized
  rw [hH]
  have hl := lv_entry ([.ref (A 0), .ref (A (16 + 4 * k))]) (n := 2) (Nat.le_of_ble_eq_true rfl)
  rw [lg_entry_eq]
  generalize (lg_sl ([.ref (A 0), .ref (A (16 + 4 * k))]) ++ List.replicate (2 - (lg_sl ([.ref (A 0), .ref (A (16 + 4 * k))])).length) Slot.unset).toArray = ls at hl ⊢
  have hl : lv_has ls 2 [(0, .ref (A 0)), (1, .ref (A (16 + 4 * k)))] := hl
  have hVB := hC.wf
  have hV4 : sV σ ≤ 400 := hVB.2.1
  have hB4 : sB σ ≤ 40 := hVB.2.2.2.1
  refine lv_aload_n hx hb dX3_setBefore_0 rfl (lv_at hl 1 rfl) ?_
  refine k_getN (ci := 2) (C := RX2) (T := TX2) (N := 5) (v := .null) hx hb hts (by decide +kernel) hown hK (hC.ver0 hk hf) rfl 1 (by decide) rfl (List.mem_of_getElem? (i := 1) rfl) rfl dX3_setBefore_1 ?_
  refine lv_ifnonnullN hx hb dX3_setBefore_4 ?_
  refine lv_aload_n hx hb dX3_setBefore_7 rfl (lv_at hl 0 rfl) ?_
  refine k_get (ci := 3) (C := RX3) (T := TX3) (N := 7) (v := .ref (A 3)) hx hb hts (by decide +kernel) hown hK hC.o rfl 4 (by decide) rfl (hts (.fieldLink RX3 24 RX3 "nothing" "LVersionMerge$TripleSet;") (by decide +kernel)) rfl dX3_setBefore_8 ?_
  refine lv_goto (tgt := 21) hx hb dX3_setBefore_11 (by decide) ?_
  exact r_aX hx hb hr (Or.inr ⟨_, rfl⟩) dX3_setBefore_21 hlocks
set_option maxHeartbeats 4000000 in
set_option maxRecDepth 100000 in
theorem c_X3_setBefore_1 (l : Launch) (D : va_G) (g : Nat → ClassId) (b0 : Nat) (H : Heap) (A : Nat → Nat) (σ : SG) (dw : Nat → Int64) (hC : CR D g b0 A σ dw H) (k : Nat) (hk : k < sV σ) (p1 : Nat) (hf : sF σ k = some p1) : Met l yX3_setBefore wsX3_setBefore ({ frames := 0, cells := 0, slots := 0, locals := 0 } : Room) (kPc D g [.ref (A 0), .ref (A (16 + 4 * k))] H) (kX (.ref (A (17 + 4 * p1))) H) 0 0 kN := by
  refine Met.ofW (cc := cX3_setBefore) (maxL := 2) (ret := (some (.object "VersionMerge$TripleSet"))) (by decide) rfl ?_
  intro p e s m args below meth c s₁ B hml hv
  obtain ⟨rfl, hH, hK⟩ := hv
  have hx := B.exec
  have hb := B.bytes
  have hr := B.returns
  have hts := atoms_spec (ws := wsX3_setBefore) B.pre
  have hown : s.vm.findClass RX3 = some m.cls := findClass_of_methodNamed B.named
  have hlocks := B.notSynchronized
  rw [hH]
  have hl := lv_entry ([.ref (A 0), .ref (A (16 + 4 * k))]) (n := 2) (Nat.le_of_ble_eq_true rfl)
  rw [lg_entry_eq]
  generalize (lg_sl ([.ref (A 0), .ref (A (16 + 4 * k))]) ++ List.replicate (2 - (lg_sl ([.ref (A 0), .ref (A (16 + 4 * k))])).length) Slot.unset).toArray = ls at hl ⊢
  have hl : lv_has ls 2 [(0, .ref (A 0)), (1, .ref (A (16 + 4 * k)))] := hl
  have hVB := hC.wf
  have hV4 : sV σ ≤ 400 := hVB.2.1
  have hB4 : sB σ ≤ 40 := hVB.2.2.2.1
  have hp1 := hVB.first hk hf
  refine lv_aload_n hx hb dX3_setBefore_0 rfl (lv_at hl 1 rfl) ?_
  refine k_getN (ci := 2) (C := RX2) (T := TX2) (N := 5) (v := .ref (A (16 + 4 * p1))) hx hb hts (by decide +kernel) hown hK (hC.ver1 hk hf) rfl 1 (by decide) rfl (List.mem_of_getElem? (i := 1) rfl) rfl dX3_setBefore_1 ?_
  refine lv_ifnonnull (tgt := 14) hx hb dX3_setBefore_4 (by decide) ?_
  refine lv_aload_n hx hb dX3_setBefore_14 rfl (lv_at hl 1 rfl) ?_
  refine k_getN (ci := 2) (C := RX2) (T := TX2) (N := 5) (v := .ref (A (16 + 4 * p1))) hx hb hts (by decide +kernel) hown hK (hC.ver1 hk hf) rfl 1 (by decide) rfl (List.mem_of_getElem? (i := 1) rfl) rfl dX3_setBefore_15 ?_
  refine k_getN (ci := 2) (C := RX2) (T := TX2) (N := 5) (v := .ref (A (17 + 4 * p1))) hx hb hts (by decide +kernel) hown hK (hC.ver (show p1 < sV σ by omega)) rfl 3 (by decide) rfl (List.mem_of_getElem? (i := 3) rfl) rfl dX3_setBefore_18 ?_
  exact r_aX hx hb hr (Or.inr ⟨_, rfl⟩) dX3_setBefore_21 hlocks
theorem c_X3_setBefore (l : Launch) (D : va_G) (g : Nat → ClassId) (b0 : Nat) (H : Heap) (A : Nat → Nat) (σ : SG) (dw : Nat → Int64) (hC : CR D g b0 A σ dw H) (k : Nat) (hk : k < sV σ) : Met l yX3_setBefore wsX3_setBefore ({ frames := 0, cells := 0, slots := 0, locals := 0 } : Room) (kPc D g [.ref (A 0), .ref (A (16 + 4 * k))] H) (kX (.ref (A (befC σ k))) H) 0 0 kN := by
  cases hf : sF σ k with
  | none =>
    rw [befC_0 hf]
    exact c_X3_setBefore_0 l D g b0 H A σ dw hC k hk hf
  | some p1 =>
    rw [befC_1 hf]
    exact c_X3_setBefore_1 l D g b0 H A σ dw hC k hk p1 hf
set_option maxHeartbeats 4000000 in
set_option maxRecDepth 100000 in
theorem c_X3_changes (l : Launch) (D : va_G) (g : Nat → ClassId) (b0 : Nat) (H : Heap) (A : Nat → Nat) (σ : SG) (dw : Nat → Int64) (hC : CR D g b0 A σ dw H) (k : Nat) (hk : k < sV σ) (t : Nat) (ht : t < 4096) : Met l yX3_changes wsX3_changes ({ frames := 2, cells := 0, slots := 0, locals := 41 } : Room) (kPc D g [.ref (A 0), .ref (A (16 + 4 * k)), .int (nI t)] H) (kX (.int (b2i (!(bt (sW σ k) t == bt (befW σ k) t)))) H) 0 0 kN := by
  refine Met.ofW (cc := cX3_changes) (maxL := 3) (ret := (some .boolean)) (by decide) rfl ?_
  intro p e s m args below meth c s₁ B hml hv
  obtain ⟨rfl, hH, hK⟩ := hv
  have hx := B.exec
  have hb := B.bytes
  have hr := B.returns
  have hts := atoms_spec (ws := wsX3_changes) B.pre
  have hown : s.vm.findClass RX3 = some m.cls := findClass_of_methodNamed B.named
  have hlocks := B.notSynchronized
  rw [hH]
  have hl := lv_entry ([.ref (A 0), .ref (A (16 + 4 * k)), .int (nI t)]) (n := 3) (Nat.le_of_ble_eq_true rfl)
  rw [lg_entry_eq]
  generalize (lg_sl ([.ref (A 0), .ref (A (16 + 4 * k)), .int (nI t)]) ++ List.replicate (3 - (lg_sl ([.ref (A 0), .ref (A (16 + 4 * k)), .int (nI t)])).length) Slot.unset).toArray = ls at hl ⊢
  have hl : lv_has ls 3 [(0, .ref (A 0)), (1, .ref (A (16 + 4 * k))), (2, .int (nI t))] := hl
  have hVB := hC.wf
  have hV4 : sV σ ≤ 400 := hVB.2.1
  have hB4 : sB σ ≤ 40 := hVB.2.2.2.1
  obtain ⟨hbf, hbw, -, -, -⟩ := hC.bef hk
  refine lv_aload_n hx hb dX3_changes_0 rfl (lv_at hl 1 rfl) ?_
  refine k_getN (ci := 2) (C := RX2) (T := TX2) (N := 5) (v := .ref (A (17 + 4 * k))) hx hb hts (by decide +kernel) hown hK (hC.ver hk) rfl 3 (by decide) rfl (List.mem_of_getElem? (i := 3) rfl) rfl dX3_changes_1 ?_
  refine lv_iload_n hx hb dX3_changes_4 rfl (lv_at hl 2 rfl) ?_
  refine k_callX (va_runVN (As := [.int (nI t)]) (rest := []) ⟨hx, hb, hml, hown, hts⟩ (c_X1_has l D g H _ _ (sW σ k) (hC.ts hk) (hC.tw hk) t ht) ⟨va_cnB 1 hts gX3_changes_X1_has_n61 rfl rfl rfl (hK.2.1 _ (List.mem_of_getElem? (i := 5) rfl)) (hts (.initialized RX1) (by decide +kernel)) (by decide +kernel) ⟨Nat.le_of_ble_eq_true rfl, Nat.le_of_ble_eq_true rfl⟩, hts (.instanceMethod yX1_has) (by decide +kernel), hts (.selects RX1 yX1_has yX1_has) (by decide +kernel)⟩ ⟨kPc_blind, k_recv hK (hC.ts hk) rfl, fun U hU hW => kPc_at hK hU hW⟩ rfl rfl hl.1 rfl (lv_room (Nat.le_of_ble_eq_true rfl)) dX3_changes_5 ⟨Nat.le_of_ble_eq_true rfl, Nat.le_of_ble_eq_true rfl⟩) ?_
  refine lv_aload_n hx hb dX3_changes_8 rfl (lv_at hl 0 rfl) ?_
  refine lv_aload_n hx hb dX3_changes_9 rfl (lv_at hl 1 rfl) ?_
  refine k_callX (va_runV (As := [.ref (A (16 + 4 * k))]) (rest := [.int (b2i (bt (sW σ k) t))]) ⟨hx, hb, hml, hown, hts⟩ (c_X3_setBefore l D g b0 H A σ dw hC k hk) (cwV 1 hts gX3_changes_X3_setBefore rfl rfl rfl (by decide +kernel) ⟨Nat.le_of_ble_eq_true rfl, Nat.le_of_ble_eq_true rfl⟩) ⟨kPc_blind, k_recv hK hC.o rfl, fun U hU hW => kPc_at hK hU hW⟩ rfl rfl hl.1 rfl (lv_room (Nat.le_of_ble_eq_true rfl)) dX3_changes_10 ⟨Nat.le_of_ble_eq_true rfl, Nat.le_of_ble_eq_true rfl⟩) ?_
  refine lv_iload_n hx hb dX3_changes_13 rfl (lv_at hl 2 rfl) ?_
  refine k_callX (va_runVN (As := [.int (nI t)]) (rest := [.int (b2i (bt (sW σ k) t))]) ⟨hx, hb, hml, hown, hts⟩ (c_X1_has l D g H _ _ (befW σ k) hbf hbw t ht) ⟨va_cnB 1 hts gX3_changes_X1_has_n61 rfl rfl rfl (hK.2.1 _ (List.mem_of_getElem? (i := 5) rfl)) (hts (.initialized RX1) (by decide +kernel)) (by decide +kernel) ⟨Nat.le_of_ble_eq_true rfl, Nat.le_of_ble_eq_true rfl⟩, hts (.instanceMethod yX1_has) (by decide +kernel), hts (.selects RX1 yX1_has yX1_has) (by decide +kernel)⟩ ⟨kPc_blind, k_recv hK hbf rfl, fun U hU hW => kPc_at hK hU hW⟩ rfl rfl hl.1 rfl (lv_room (Nat.le_of_ble_eq_true rfl)) dX3_changes_14 ⟨Nat.le_of_ble_eq_true rfl, Nat.le_of_ble_eq_true rfl⟩) ?_
  refine z_icmp_eq (tgt := 24) hx hb dX3_changes_17 (by decide) (fun c_542 => ?_) (fun c_542 => ?_)
  · skip
    refine lv_iconst (v := b2i false) hx hb dX3_changes_24 (by decide +kernel) ?_
    exact r_zX hx hb hr (by rw [nbeq_f c_542]) dX3_changes_25 hlocks
  · skip
    refine lv_iconst (v := b2i true) hx hb dX3_changes_20 (by decide +kernel) ?_
    refine lv_goto (tgt := 25) hx hb dX3_changes_21 (by decide) ?_
    exact r_zX hx hb hr (by rw [nbeq_t c_542]) dX3_changes_25 hlocks
set_option maxHeartbeats 4000000 in
set_option maxRecDepth 100000 in
theorem c_X3_isFull (l : Launch) (D : va_G) (g : Nat → ClassId) (b0 : Nat) (H : Heap) (A : Nat → Nat) (σ : SG) (dw : Nat → Int64) (hC : CR D g b0 A σ dw H) : Met l yX3_isFull wsX3_isFull ({ frames := 0, cells := 0, slots := 0, locals := 0 } : Room) (kPc D g [.ref (A 0)] H) (kX (.int (b2i (decide (400 ≤ sV σ)))) H) 0 0 kN := by
  refine Met.ofW (cc := cX3_isFull) (maxL := 1) (ret := (some .boolean)) (by decide) rfl ?_
  intro p e s m args below meth c s₁ B hml hv
  obtain ⟨rfl, hH, hK⟩ := hv
  have hx := B.exec
  have hb := B.bytes
  have hr := B.returns
  have hts := atoms_spec (ws := wsX3_isFull) B.pre
  have hown : s.vm.findClass RX3 = some m.cls := findClass_of_methodNamed B.named
  have hlocks := B.notSynchronized
  rw [hH]
  have hl := lv_entry ([.ref (A 0)]) (n := 1) (Nat.le_of_ble_eq_true rfl)
  rw [lg_entry_eq]
  generalize (lg_sl ([.ref (A 0)]) ++ List.replicate (1 - (lg_sl ([.ref (A 0)])).length) Slot.unset).toArray = ls at hl ⊢
  have hl : lv_has ls 1 [(0, .ref (A 0))] := hl
  have hVB := hC.wf
  have hV4 : sV σ ≤ 400 := hVB.2.1
  have hB4 : sB σ ≤ 40 := hVB.2.2.2.1
  refine lv_aload_n hx hb dX3_isFull_0 rfl (lv_at hl 0 rfl) ?_
  refine k_get (ci := 3) (C := RX3) (T := TX3) (N := 7) (v := .int (nI (sV σ))) hx hb hts (by decide +kernel) hown hK hC.o rfl 2 (by decide) rfl (hts (.fieldLink RX3 146 RX3 "versionCount" "I") (by decide +kernel)) rfl dX3_isFull_1 ?_
  refine lv_sipush (v := nI 400) hx hb dX3_isFull_4 (by decide +kernel) ?_
  refine n_icmp_lt (tgt := 14) hx hb dX3_isFull_7 (by decide) (by omega) (by omega) (fun c_543 => ?_) (fun c_543 => ?_)
  · skip
    refine lv_iconst (v := b2i false) hx hb dX3_isFull_14 (by decide +kernel) ?_
    exact r_zX hx hb hr (by rw [show decide (400 ≤ sV σ) = false from decide_eq_false (by omega)]) dX3_isFull_15 hlocks
  · skip
    refine lv_iconst (v := b2i true) hx hb dX3_isFull_10 (by decide +kernel) ?_
    refine lv_goto (tgt := 15) hx hb dX3_isFull_11 (by decide) ?_
    exact r_zX hx hb hr (by rw [show decide (400 ≤ sV σ) = true from decide_eq_true (by omega)]) dX3_isFull_15 hlocks
set_option maxHeartbeats 4000000 in
set_option maxRecDepth 100000 in
/-- greatestCommon -/
theorem c_X3_greatestCommon_1 (l : Launch) (D : va_G) (g : Nat → ClassId) (b0 : Nat) (H : Heap) (A : Nat → Nat) (σ : SG) (dw : Nat → Int64) (hC : CR D g b0 A σ dw H) (u v : Nat) (hu : u < sV σ) (hv : v < sV σ) (c0 : Nat) (hc0 : GC1 σ u v c0) : Met l yX3_greatestCommon wsX3_greatestCommon ({ frames := 1, cells := 0, slots := 0, locals := 30 } : Room) (kPc D g [.ref (A 0), .ref (A (16 + 4 * u)), .ref (A (16 + 4 * v))] H) (kX (.ref (A (16 + 4 * c0))) H) 0 0 kN := by
  refine Met.ofW (cc := cX3_greatestCommon) (maxL := 4) (ret := (some (.object "VersionMerge$Version"))) (by decide) rfl ?_
  intro p e s m args below meth c s₁ B hml hv
  obtain ⟨rfl, hH, hK⟩ := hv
  have hx := B.exec
  have hb := B.bytes
  have hr := B.returns
  have hts := atoms_spec (ws := wsX3_greatestCommon) B.pre
  have hown : s.vm.findClass RX3 = some m.cls := findClass_of_methodNamed B.named
  have hlocks := B.notSynchronized
  rw [hH]
  have hl := lv_entry ([.ref (A 0), .ref (A (16 + 4 * u)), .ref (A (16 + 4 * v))]) (n := 4) (Nat.le_of_ble_eq_true rfl)
  rw [lg_entry_eq]
  generalize (lg_sl ([.ref (A 0), .ref (A (16 + 4 * u)), .ref (A (16 + 4 * v))]) ++ List.replicate (4 - (lg_sl ([.ref (A 0), .ref (A (16 + 4 * u)), .ref (A (16 + 4 * v))])).length) Slot.unset).toArray = ls at hl ⊢
  have hl : lv_has ls 4 [(0, .ref (A 0)), (1, .ref (A (16 + 4 * u))), (2, .ref (A (16 + 4 * v)))] := hl
  have hVB := hC.wf
  have hV4 : sV σ ≤ 400 := hVB.2.1
  have hB4 : sB σ ≤ 40 := hVB.2.2.2.1
  have hcu := hVB.gc1 hu hc0
  refine lv_aload_n hx hb dX3_greatestCommon_0 rfl (lv_at hl 1 rfl) ?_
  refine k_getN (ci := 2) (C := RX2) (T := TX2) (N := 5) (v := .int (nI u)) hx hb hts (by decide +kernel) hown hK (hC.ver hu) rfl 0 (by decide) rfl (List.mem_of_getElem? (i := 0) rfl) rfl dX3_greatestCommon_1 ?_
  refine lv_aload_n hx hb dX3_greatestCommon_4 rfl (lv_at hl 2 rfl) ?_
  refine k_getN (ci := 2) (C := RX2) (T := TX2) (N := 5) (v := .int (nI v)) hx hb hts (by decide +kernel) hown hK (hC.ver hv) rfl 0 (by decide) rfl (List.mem_of_getElem? (i := 0) rfl) rfl dX3_greatestCommon_5 ?_
  refine va_mmin (x := nI u) (y := nI v) hx hb (hml.trans hl.1.symm) hown (hts (.methodLink RX3 158 Lib.Math.min.name) (by decide +kernel)) (hts (.static Lib.Math.min.name) (by decide +kernel)) (hts (.initialized "java/lang/Math") (by decide +kernel)) (hts (.code Lib.Math.min.name Lib.Math.min.code 2 (some .int)) (by decide +kernel)) (Nat.le_of_ble_eq_true rfl) (Nat.le_of_ble_eq_true rfl) (Nat.le_of_ble_eq_true rfl) (Nat.le_of_ble_eq_true rfl) dX3_greatestCommon_8 ?_
  rw [nI_min u v (by omega) (by omega)]
  refine lv_istore_n (lv' := [(3, .int (nI (min u v))), (0, .ref (A 0)), (1, .ref (A (16 + 4 * u))), (2, .ref (A (16 + 4 * v)))]) hx hb dX3_greatestCommon_11 rfl hl (by decide) rfl (fun ls hl => ?_)
  have loop : ∀ (n i : Nat) (y : Int32), i < n → i ≤ min u v + 1 → y = nI i - 1 → (∀ z, i ≤ z → z < 400 → ¬ (sA σ u z = true ∧ sA σ v z = true)) → ∀ ls, lv_has ls 4 [(3, .int y), (0, .ref (A 0)), (1, .ref (A (16 + 4 * u))), (2, .ref (A (16 + 4 * v)))] → W p l e (headSpec wsX3_greatestCommon ({ frames := 1, cells := 0, slots := 0, locals := 30 } : Room)).room s m ([.ref (A 0), .ref (A (16 + 4 * u)), .ref (A (16 + 4 * v))] : List Value).toArray below meth c H [] 0 0 (MQ below (kX (.ref (A (16 + 4 * c0))) H) ([.ref (A 0), .ref (A (16 + 4 * u)), .ref (A (16 + 4 * v))] : List Value).toArray s 0 0 kN) (F0 m 12 ls []) := by
    intro n
    induction n with
    | zero => intro i y h0 h1; omega
    | succ n ih =>
      intro i y hn hi hy hv2 ls hl
      have hmu := Nat.min_le_left u v
      have hmv := Nat.min_le_right u v
      cases i with
      | zero =>
        exact absurd ⟨hc0.2.1, hc0.2.2.1⟩ (hv2 c0 (Nat.zero_le _) hc0.1)
      | succ i =>
        obtain rfl : y = nI i := hy.trans (nI_pred i)
        refine lv_iload_n hx hb dX3_greatestCommon_12 rfl (lv_at hl 0 rfl) ?_
        refine n_if_lt (tgt := 44) hx hb dX3_greatestCommon_13 (by decide) (by omega) ?_
        refine lv_aload_n hx hb dX3_greatestCommon_16 rfl (lv_at hl 2 rfl) ?_
        refine lv_iload_n hx hb dX3_greatestCommon_17 rfl (lv_at hl 0 rfl) ?_
        refine k_callX (va_runVN (As := [.int (nI i)]) (rest := []) ⟨hx, hb, hml, hown, hts⟩ (c_X2_hasAncestor l D g H _ _ _ _ _ _ (sA σ u) (hC.ver hu) (hC.an hu) i (by omega)) ⟨va_cnB 1 hts gX3_greatestCommon_X2_hasAncestor_n93 rfl rfl rfl (hK.2.1 _ (List.mem_of_getElem? (i := 11) rfl)) (hts (.initialized RX2) (by decide +kernel)) (by decide +kernel) ⟨Nat.le_of_ble_eq_true rfl, Nat.le_of_ble_eq_true rfl⟩, hts (.instanceMethod yX2_hasAncestor) (by decide +kernel), hts (.selects RX2 yX2_hasAncestor yX2_hasAncestor) (by decide +kernel)⟩ ⟨kPc_blind, k_recv hK (hC.ver hu) rfl, fun U hU hW => kPc_at hK hU hW⟩ rfl rfl hl.1 rfl (lv_room (Nat.le_of_ble_eq_true rfl)) dX3_greatestCommon_18 ⟨Nat.le_of_ble_eq_true rfl, Nat.le_of_ble_eq_true rfl⟩) ?_
        refine z_if_eq (tgt := 38) hx hb dX3_greatestCommon_21 (by decide) (fun c_545 => ?_) (fun c_545 => ?_)
        · skip
          refine lv_iinc (v := (nI i) + -1) (lv' := [(3, .int ((nI i) + -1)), (0, .ref (A 0)), (1, .ref (A (16 + 4 * u))), (2, .ref (A (16 + 4 * v)))]) hx hb dX3_greatestCommon_38 hl (k := 0) rfl rfl (by decide) rfl (fun ls hl => ?_)
          refine lv_goto (tgt := 12) hx hb dX3_greatestCommon_41 (by decide) ?_
          refine ih i _ (by omega) (by omega) (Int32.sub_eq_add_neg _ _).symm ?_ ls (lv_sub hl [0, 1, 2, 3] rfl)
          intro z hz hz2
          rcases Nat.lt_or_ge i z with q | q
          · exact hv2 z q hz2
          · rw [show z = i by omega]; intro q2; rw [c_545] at q2; cases q2.1
        · skip
          refine lv_aload_n hx hb dX3_greatestCommon_24 rfl (lv_at hl 3 rfl) ?_
          refine lv_iload_n hx hb dX3_greatestCommon_25 rfl (lv_at hl 0 rfl) ?_
          refine k_callX (va_runVN (As := [.int (nI i)]) (rest := []) ⟨hx, hb, hml, hown, hts⟩ (c_X2_hasAncestor l D g H _ _ _ _ _ _ (sA σ v) (hC.ver hv) (hC.an hv) i (by omega)) ⟨va_cnB 1 hts gX3_greatestCommon_X2_hasAncestor_n93 rfl rfl rfl (hK.2.1 _ (List.mem_of_getElem? (i := 11) rfl)) (hts (.initialized RX2) (by decide +kernel)) (by decide +kernel) ⟨Nat.le_of_ble_eq_true rfl, Nat.le_of_ble_eq_true rfl⟩, hts (.instanceMethod yX2_hasAncestor) (by decide +kernel), hts (.selects RX2 yX2_hasAncestor yX2_hasAncestor) (by decide +kernel)⟩ ⟨kPc_blind, k_recv hK (hC.ver hv) rfl, fun U hU hW => kPc_at hK hU hW⟩ rfl rfl hl.1 rfl (lv_room (Nat.le_of_ble_eq_true rfl)) dX3_greatestCommon_26 ⟨Nat.le_of_ble_eq_true rfl, Nat.le_of_ble_eq_true rfl⟩) ?_
          refine z_if_eq (tgt := 38) hx hb dX3_greatestCommon_29 (by decide) (fun c_546 => ?_) (fun c_546 => ?_)
          · skip
            refine lv_iinc (v := (nI i) + -1) (lv' := [(3, .int ((nI i) + -1)), (0, .ref (A 0)), (1, .ref (A (16 + 4 * u))), (2, .ref (A (16 + 4 * v)))]) hx hb dX3_greatestCommon_38 hl (k := 0) rfl rfl (by decide) rfl (fun ls hl => ?_)
            refine lv_goto (tgt := 12) hx hb dX3_greatestCommon_41 (by decide) ?_
            refine ih i _ (by omega) (by omega) (Int32.sub_eq_add_neg _ _).symm ?_ ls (lv_sub hl [0, 1, 2, 3] rfl)
            intro z hz hz2
            rcases Nat.lt_or_ge i z with q | q
            · exact hv2 z q hz2
            · rw [show z = i by omega]; intro q2; rw [c_546] at q2; cases q2.2
          · skip
            refine lv_aload_n hx hb dX3_greatestCommon_32 rfl (lv_at hl 1 rfl) ?_
            refine lv_iload_n hx hb dX3_greatestCommon_33 rfl (lv_at hl 0 rfl) ?_
            refine k_callX (va_runV (As := [.int (nI i)]) (rest := []) ⟨hx, hb, hml, hown, hts⟩ (c_X3_versionAt_y l D g b0 H A σ dw hC i (by omega)) (cwV 1 hts gX3_greatestCommon_X3_versionAt rfl rfl rfl (by decide +kernel) ⟨Nat.le_of_ble_eq_true rfl, Nat.le_of_ble_eq_true rfl⟩) ⟨kPc_blind, k_recv hK hC.o rfl, fun U hU hW => kPc_at hK hU hW⟩ rfl rfl hl.1 rfl (lv_room (Nat.le_of_ble_eq_true rfl)) dX3_greatestCommon_34 ⟨Nat.le_of_ble_eq_true rfl, Nat.le_of_ble_eq_true rfl⟩) ?_
            obtain rfl : i = c0 := by
              rcases Nat.lt_trichotomy i c0 with q | q | q
              · exact absurd ⟨hc0.2.1, hc0.2.2.1⟩ (hv2 c0 (by omega) hc0.1)
              · exact q
              · exact absurd ⟨c_545, c_546⟩ (hc0.2.2.2 i q (by omega))
            exact r_aX hx hb hr (Or.inr ⟨_, rfl⟩) dX3_greatestCommon_37 hlocks
  refine loop (min u v + 2) (min u v + 1) _ (by omega) (Nat.le_refl _) (nI_pred _).symm ?_ ls (lv_sub hl [0, 1, 2, 3] rfl)
  intro z hz hz2 q
  have q1 := hVB.anc (u + 1) u (by omega) hu z hz2 q.1
  have q2 := hVB.anc (v + 1) v (by omega) hv z hz2 q.2
  omega
set_option maxHeartbeats 4000000 in
set_option maxRecDepth 100000 in
/-- greatestCommon -/
theorem c_X3_greatestCommon_0 (l : Launch) (D : va_G) (g : Nat → ClassId) (b0 : Nat) (H : Heap) (A : Nat → Nat) (σ : SG) (dw : Nat → Int64) (hC : CR D g b0 A σ dw H) (u v : Nat) (hu : u < sV σ) (hv : v < sV σ) (hc0 : GC0 σ u v) : Met l yX3_greatestCommon wsX3_greatestCommon ({ frames := 1, cells := 0, slots := 0, locals := 30 } : Room) (kPc D g [.ref (A 0), .ref (A (16 + 4 * u)), .ref (A (16 + 4 * v))] H) (kX (.null) H) 0 0 kN := by
  refine Met.ofW (cc := cX3_greatestCommon) (maxL := 4) (ret := (some (.object "VersionMerge$Version"))) (by decide) rfl ?_
  intro p e s m args below meth c s₁ B hml hv
  obtain ⟨rfl, hH, hK⟩ := hv
  have hx := B.exec
  have hb := B.bytes
  have hr := B.returns
  have hts := atoms_spec (ws := wsX3_greatestCommon) B.pre
  have hown : s.vm.findClass RX3 = some m.cls := findClass_of_methodNamed B.named
  have hlocks := B.notSynchronized
  rw [hH]
  have hl := lv_entry ([.ref (A 0), .ref (A (16 + 4 * u)), .ref (A (16 + 4 * v))]) (n := 4) (Nat.le_of_ble_eq_true rfl)
  rw [lg_entry_eq]
  generalize (lg_sl ([.ref (A 0), .ref (A (16 + 4 * u)), .ref (A (16 + 4 * v))]) ++ List.replicate (4 - (lg_sl ([.ref (A 0), .ref (A (16 + 4 * u)), .ref (A (16 + 4 * v))])).length) Slot.unset).toArray = ls at hl ⊢
  have hl : lv_has ls 4 [(0, .ref (A 0)), (1, .ref (A (16 + 4 * u))), (2, .ref (A (16 + 4 * v)))] := hl
  have hVB := hC.wf
  have hV4 : sV σ ≤ 400 := hVB.2.1
  have hB4 : sB σ ≤ 40 := hVB.2.2.2.1
  refine lv_aload_n hx hb dX3_greatestCommon_0 rfl (lv_at hl 1 rfl) ?_
  refine k_getN (ci := 2) (C := RX2) (T := TX2) (N := 5) (v := .int (nI u)) hx hb hts (by decide +kernel) hown hK (hC.ver hu) rfl 0 (by decide) rfl (List.mem_of_getElem? (i := 0) rfl) rfl dX3_greatestCommon_1 ?_
  refine lv_aload_n hx hb dX3_greatestCommon_4 rfl (lv_at hl 2 rfl) ?_
  refine k_getN (ci := 2) (C := RX2) (T := TX2) (N := 5) (v := .int (nI v)) hx hb hts (by decide +kernel) hown hK (hC.ver hv) rfl 0 (by decide) rfl (List.mem_of_getElem? (i := 0) rfl) rfl dX3_greatestCommon_5 ?_
  refine va_mmin (x := nI u) (y := nI v) hx hb (hml.trans hl.1.symm) hown (hts (.methodLink RX3 158 Lib.Math.min.name) (by decide +kernel)) (hts (.static Lib.Math.min.name) (by decide +kernel)) (hts (.initialized "java/lang/Math") (by decide +kernel)) (hts (.code Lib.Math.min.name Lib.Math.min.code 2 (some .int)) (by decide +kernel)) (Nat.le_of_ble_eq_true rfl) (Nat.le_of_ble_eq_true rfl) (Nat.le_of_ble_eq_true rfl) (Nat.le_of_ble_eq_true rfl) dX3_greatestCommon_8 ?_
  rw [nI_min u v (by omega) (by omega)]
  refine lv_istore_n (lv' := [(3, .int (nI (min u v))), (0, .ref (A 0)), (1, .ref (A (16 + 4 * u))), (2, .ref (A (16 + 4 * v)))]) hx hb dX3_greatestCommon_11 rfl hl (by decide) rfl (fun ls hl => ?_)
  have loop : ∀ (n i : Nat) (y : Int32), i < n → i ≤ min u v + 1 → y = nI i - 1 → (∀ z, i ≤ z → z < 400 → ¬ (sA σ u z = true ∧ sA σ v z = true)) → ∀ ls, lv_has ls 4 [(3, .int y), (0, .ref (A 0)), (1, .ref (A (16 + 4 * u))), (2, .ref (A (16 + 4 * v)))] → W p l e (headSpec wsX3_greatestCommon ({ frames := 1, cells := 0, slots := 0, locals := 30 } : Room)).room s m ([.ref (A 0), .ref (A (16 + 4 * u)), .ref (A (16 + 4 * v))] : List Value).toArray below meth c H [] 0 0 (MQ below (kX (.null) H) ([.ref (A 0), .ref (A (16 + 4 * u)), .ref (A (16 + 4 * v))] : List Value).toArray s 0 0 kN) (F0 m 12 ls []) := by
    intro n
    induction n with
    | zero => intro i y h0 h1; omega
    | succ n ih =>
      intro i y hn hi hy hv2 ls hl
      have hmu := Nat.min_le_left u v
      have hmv := Nat.min_le_right u v
      cases i with
      | zero =>
        refine lv_iload_n hx hb dX3_greatestCommon_12 rfl (lv_at hl 0 rfl) ?_
        refine lv_if_lt (tgt := 44) hx hb dX3_greatestCommon_13 (by decide) (fun _ => ?_) (fun q => absurd (by rw [hy]; decide +kernel) q)
        refine lv_null hx hb dX3_greatestCommon_44 ?_
        exact r_aX hx hb hr (Or.inl rfl) dX3_greatestCommon_45 hlocks
      | succ i =>
        obtain rfl : y = nI i := hy.trans (nI_pred i)
        refine lv_iload_n hx hb dX3_greatestCommon_12 rfl (lv_at hl 0 rfl) ?_
        refine n_if_lt (tgt := 44) hx hb dX3_greatestCommon_13 (by decide) (by omega) ?_
        refine lv_aload_n hx hb dX3_greatestCommon_16 rfl (lv_at hl 2 rfl) ?_
        refine lv_iload_n hx hb dX3_greatestCommon_17 rfl (lv_at hl 0 rfl) ?_
        refine k_callX (va_runVN (As := [.int (nI i)]) (rest := []) ⟨hx, hb, hml, hown, hts⟩ (c_X2_hasAncestor l D g H _ _ _ _ _ _ (sA σ u) (hC.ver hu) (hC.an hu) i (by omega)) ⟨va_cnB 1 hts gX3_greatestCommon_X2_hasAncestor_n93 rfl rfl rfl (hK.2.1 _ (List.mem_of_getElem? (i := 11) rfl)) (hts (.initialized RX2) (by decide +kernel)) (by decide +kernel) ⟨Nat.le_of_ble_eq_true rfl, Nat.le_of_ble_eq_true rfl⟩, hts (.instanceMethod yX2_hasAncestor) (by decide +kernel), hts (.selects RX2 yX2_hasAncestor yX2_hasAncestor) (by decide +kernel)⟩ ⟨kPc_blind, k_recv hK (hC.ver hu) rfl, fun U hU hW => kPc_at hK hU hW⟩ rfl rfl hl.1 rfl (lv_room (Nat.le_of_ble_eq_true rfl)) dX3_greatestCommon_18 ⟨Nat.le_of_ble_eq_true rfl, Nat.le_of_ble_eq_true rfl⟩) ?_
        refine z_if_eq (tgt := 38) hx hb dX3_greatestCommon_21 (by decide) (fun c_548 => ?_) (fun c_548 => ?_)
        · skip
          refine lv_iinc (v := (nI i) + -1) (lv' := [(3, .int ((nI i) + -1)), (0, .ref (A 0)), (1, .ref (A (16 + 4 * u))), (2, .ref (A (16 + 4 * v)))]) hx hb dX3_greatestCommon_38 hl (k := 0) rfl rfl (by decide) rfl (fun ls hl => ?_)
          refine lv_goto (tgt := 12) hx hb dX3_greatestCommon_41 (by decide) ?_
          refine ih i _ (by omega) (by omega) (Int32.sub_eq_add_neg _ _).symm ?_ ls (lv_sub hl [0, 1, 2, 3] rfl)
          intro z hz hz2
          rcases Nat.lt_or_ge i z with q | q
          · exact hv2 z q hz2
          · rw [show z = i by omega]; intro q2; rw [c_548] at q2; cases q2.1
        · skip
          refine lv_aload_n hx hb dX3_greatestCommon_24 rfl (lv_at hl 3 rfl) ?_
          refine lv_iload_n hx hb dX3_greatestCommon_25 rfl (lv_at hl 0 rfl) ?_
          refine k_callX (va_runVN (As := [.int (nI i)]) (rest := []) ⟨hx, hb, hml, hown, hts⟩ (c_X2_hasAncestor l D g H _ _ _ _ _ _ (sA σ v) (hC.ver hv) (hC.an hv) i (by omega)) ⟨va_cnB 1 hts gX3_greatestCommon_X2_hasAncestor_n93 rfl rfl rfl (hK.2.1 _ (List.mem_of_getElem? (i := 11) rfl)) (hts (.initialized RX2) (by decide +kernel)) (by decide +kernel) ⟨Nat.le_of_ble_eq_true rfl, Nat.le_of_ble_eq_true rfl⟩, hts (.instanceMethod yX2_hasAncestor) (by decide +kernel), hts (.selects RX2 yX2_hasAncestor yX2_hasAncestor) (by decide +kernel)⟩ ⟨kPc_blind, k_recv hK (hC.ver hv) rfl, fun U hU hW => kPc_at hK hU hW⟩ rfl rfl hl.1 rfl (lv_room (Nat.le_of_ble_eq_true rfl)) dX3_greatestCommon_26 ⟨Nat.le_of_ble_eq_true rfl, Nat.le_of_ble_eq_true rfl⟩) ?_
          refine z_if_eq (tgt := 38) hx hb dX3_greatestCommon_29 (by decide) (fun c_549 => ?_) (fun c_549 => ?_)
          · skip
            refine lv_iinc (v := (nI i) + -1) (lv' := [(3, .int ((nI i) + -1)), (0, .ref (A 0)), (1, .ref (A (16 + 4 * u))), (2, .ref (A (16 + 4 * v)))]) hx hb dX3_greatestCommon_38 hl (k := 0) rfl rfl (by decide) rfl (fun ls hl => ?_)
            refine lv_goto (tgt := 12) hx hb dX3_greatestCommon_41 (by decide) ?_
            refine ih i _ (by omega) (by omega) (Int32.sub_eq_add_neg _ _).symm ?_ ls (lv_sub hl [0, 1, 2, 3] rfl)
            intro z hz hz2
            rcases Nat.lt_or_ge i z with q | q
            · exact hv2 z q hz2
            · rw [show z = i by omega]; intro q2; rw [c_549] at q2; cases q2.2
          · skip
            refine lv_aload_n hx hb dX3_greatestCommon_32 rfl (lv_at hl 1 rfl) ?_
            refine lv_iload_n hx hb dX3_greatestCommon_33 rfl (lv_at hl 0 rfl) ?_
            refine k_callX (va_runV (As := [.int (nI i)]) (rest := []) ⟨hx, hb, hml, hown, hts⟩ (c_X3_versionAt_y l D g b0 H A σ dw hC i (by omega)) (cwV 1 hts gX3_greatestCommon_X3_versionAt rfl rfl rfl (by decide +kernel) ⟨Nat.le_of_ble_eq_true rfl, Nat.le_of_ble_eq_true rfl⟩) ⟨kPc_blind, k_recv hK hC.o rfl, fun U hU hW => kPc_at hK hU hW⟩ rfl rfl hl.1 rfl (lv_room (Nat.le_of_ble_eq_true rfl)) dX3_greatestCommon_34 ⟨Nat.le_of_ble_eq_true rfl, Nat.le_of_ble_eq_true rfl⟩) ?_
            exact absurd ⟨c_548, c_549⟩ (hc0 i (by omega))
  refine loop (min u v + 2) (min u v + 1) _ (by omega) (Nat.le_refl _) (nI_pred _).symm ?_ ls (lv_sub hl [0, 1, 2, 3] rfl)
  intro z hz hz2 q
  have q1 := hVB.anc (u + 1) u (by omega) hu z hz2 q.1
  have q2 := hVB.anc (v + 1) v (by omega) hv z hz2 q.2
  omega
end
section
/-! 12: a version more, a branch more, a step on a branch, a new object (the walks are laid by wip/gen/cls12.py) -/
def PGrow (D : va_G) (g : Nat → ClassId) (b0 : Nat) (H : Heap) (A : Nat → Nat) (σ : SG) (dw : Nat → Int64) (f s : Option Nat) (fs : Nat → Int64) (a : Nat) (H1 : Heap) : Prop := ∃ (q1 q2 q3 : Nat) (w1 : Nat → Int64) (an1 : Nat → Bool), CR D g b0 (AV A (sV σ) a q1 q2 q3) (gGrow σ f s w1 an1) dw H1 ∧ CFr H A σ H1 (AV A (sV σ) a q1 q2 q3) (gGrow σ f s w1 an1) ∧ (∀ j, j < 64 → w1 j = fs j) ∧ AnOK σ (sV σ) f s an1
/-- the state after a step of branch b -/
abbrev gStep (σ : SG) (b : Nat) (s : Option Nat) (w1 : Nat → Int64) (an1 : Nat → Bool) : SG := gHead (gGrow σ (some (sH σ b)) s w1 an1) b (sV σ)
def PAdv (D : va_G) (g : Nat → ClassId) (b0 : Nat) (H : Heap) (A : Nat → Nat) (σ : SG) (dw : Nat → Int64) (b : Nat) (s : Option Nat) (fs : Nat → Int64) (H1 : Heap) : Prop := ∃ (A1 : Nat → Nat) (w1 : Nat → Int64) (an1 : Nat → Bool), CR D g b0 A1 (gStep σ b s w1 an1) dw H1 ∧ CFr H A σ H1 A1 (gStep σ b s w1 an1) ∧ (∀ j, j < 64 → w1 j = fs j) ∧ AnOK σ (sV σ) (some (sH σ b)) s an1
set_option maxHeartbeats 4000000 in
set_option maxRecDepth 100000 in
theorem c_X3_addVersion_full_00 (l : Launch) (D : va_G) (g : Nat → ClassId) (b0 : Nat) (H : Heap) (A : Nat → Nat) (σ : SG) (dw : Nat → Int64) (hC : CR D g b0 A σ dw H) (hV : ¬ sV σ < 400) (cs : Nat) : Met l yX3_addVersion wsX3_addVersion ({ frames := 0, cells := 0, slots := 0, locals := 0 } : Room) (kPc D g [.ref (A 0), .null, .null, .ref (A cs)] H) (kX .null H) 0 0 kN := by
  refine Met.ofW (cc := cX3_addVersion) (maxL := 5) (ret := (some (.object "VersionMerge$Version"))) (by decide) rfl ?_
  intro p e s m args below meth c s₁ B hml hv
  obtain ⟨rfl, hH, hK⟩ := hv
  have hx := B.exec
  have hb := B.bytes
  have hr := B.returns
  have hts := atoms_spec (ws := wsX3_addVersion) B.pre
  have hown : s.vm.findClass RX3 = some m.cls := findClass_of_methodNamed B.named
  have hlocks := B.notSynchronized
  rw [hH]
  have hl := lv_entry ([.ref (A 0), .null, .null, .ref (A cs)]) (n := 5) (Nat.le_of_ble_eq_true rfl)
  rw [lg_entry_eq]
  generalize (lg_sl ([.ref (A 0), .null, .null, .ref (A cs)]) ++ List.replicate (5 - (lg_sl ([.ref (A 0), .null, .null, .ref (A cs)])).length) Slot.unset).toArray = ls at hl ⊢
  have hl : lv_has ls 5 [(0, .ref (A 0)), (1, .null), (2, .null), (3, .ref (A cs))] := hl
  have hVB := hC.wf
  have hV4 : sV σ ≤ 400 := hVB.2.1
  have hB4 : sB σ ≤ 40 := hVB.2.2.2.1
  refine lv_aload_n hx hb dX3_addVersion_0 rfl (lv_at hl 0 rfl) ?_
  refine k_get (ci := 3) (C := RX3) (T := TX3) (N := 7) (v := .int (nI (sV σ))) hx hb hts (by decide +kernel) hown hK hC.o rfl 2 (by decide) rfl (hts (.fieldLink RX3 146 RX3 "versionCount" "I") (by decide +kernel)) rfl dX3_addVersion_1 ?_
  refine n_if_lt (tgt := 17) hx hb dX3_addVersion_4 (by decide) (by omega) ?_
  refine lv_aload_n hx hb dX3_addVersion_7 rfl (lv_at hl 0 rfl) ?_
  refine k_get (ci := 3) (C := RX3) (T := TX3) (N := 7) (v := .int (nI (sV σ))) hx hb hts (by decide +kernel) hown hK hC.o rfl 2 (by decide) rfl (hts (.fieldLink RX3 146 RX3 "versionCount" "I") (by decide +kernel)) rfl dX3_addVersion_8 ?_
  refine lv_sipush (v := nI 400) hx hb dX3_addVersion_11 (by decide +kernel) ?_
  refine n_icmp_lt (tgt := 19) hx hb dX3_addVersion_14 (by decide) (by omega) (by omega) (fun c_551 => ?_) (fun c_551 => ?_)
  · skip
    exact absurd c_551 hV
  · skip
    refine lv_null hx hb dX3_addVersion_17 ?_
    exact r_aX hx hb hr (Or.inl rfl) dX3_addVersion_18 hlocks
set_option maxHeartbeats 4000000 in
set_option maxRecDepth 100000 in
/-- addVersion: there is room -/
theorem c_X3_addVersion_00 (l : Launch) (D : va_G) (g : Nat → ClassId) (b0 : Nat) (H : Heap) (A : Nat → Nat) (σ : SG) (dw : Nat → Int64) (hC : CR D g b0 A σ dw H) (cs : Nat) (fs : Nat → Int64) (hcs1 : cLive σ cs) (hcs2 : cLive σ (cs + 1)) (hs : HA D H (A cs) (eO 1 [.ref (A (cs + 1))])) (hw : HA D H (A (cs + 1)) (eL (g 2) 64 fs)) (hbH : b0 ≤ H.size) (hV : sV σ < 400) : Met l yX3_addVersion wsX3_addVersion ({ frames := 3, cells := 4, slots := 470, locals := 85 } : Room) (kPc D g [.ref (A 0), .null, .null, .ref (A cs)] H) (kR (PGrow D g b0 H A σ dw none none fs)) 4 470 (kF b0) := by
  refine Met.ofW (cc := cX3_addVersion) (maxL := 5) (ret := (some (.object "VersionMerge$Version"))) (by decide) rfl ?_
  intro p e s m args below meth c s₁ B hml hv
  obtain ⟨rfl, hH, hK⟩ := hv
  have hx := B.exec
  have hb := B.bytes
  have hr := B.returns
  have hts := atoms_spec (ws := wsX3_addVersion) B.pre
  have hown : s.vm.findClass RX3 = some m.cls := findClass_of_methodNamed B.named
  have hlocks := B.notSynchronized
  rw [hH]
  have hl := lv_entry ([.ref (A 0), .null, .null, .ref (A cs)]) (n := 5) (Nat.le_of_ble_eq_true rfl)
  rw [lg_entry_eq]
  generalize (lg_sl ([.ref (A 0), .null, .null, .ref (A cs)]) ++ List.replicate (5 - (lg_sl ([.ref (A 0), .null, .null, .ref (A cs)])).length) Slot.unset).toArray = ls at hl ⊢
  have hl : lv_has ls 5 [(0, .ref (A 0)), (1, .null), (2, .null), (3, .ref (A cs))] := hl
  have hVB := hC.wf
  have hV4 : sV σ ≤ 400 := hVB.2.1
  have hB4 : sB σ ≤ 40 := hVB.2.2.2.1
  refine lv_aload_n hx hb dX3_addVersion_0 rfl (lv_at hl 0 rfl) ?_
  refine k_get (ci := 3) (C := RX3) (T := TX3) (N := 7) (v := .int (nI (sV σ))) hx hb hts (by decide +kernel) hown hK hC.o rfl 2 (by decide) rfl (hts (.fieldLink RX3 146 RX3 "versionCount" "I") (by decide +kernel)) rfl dX3_addVersion_1 ?_
  refine n_if_lt (tgt := 17) hx hb dX3_addVersion_4 (by decide) (by omega) ?_
  refine lv_aload_n hx hb dX3_addVersion_7 rfl (lv_at hl 0 rfl) ?_
  refine k_get (ci := 3) (C := RX3) (T := TX3) (N := 7) (v := .int (nI (sV σ))) hx hb hts (by decide +kernel) hown hK hC.o rfl 2 (by decide) rfl (hts (.fieldLink RX3 146 RX3 "versionCount" "I") (by decide +kernel)) rfl dX3_addVersion_8 ?_
  refine lv_sipush (v := nI 400) hx hb dX3_addVersion_11 (by decide +kernel) ?_
  refine n_icmp_lt (tgt := 19) hx hb dX3_addVersion_14 (by decide) (by omega) (by omega) (fun c_553 => ?_) (fun c_553 => ?_)
  · skip
    have hlt_554 := hC.o.lt
    have hlt_555 := hs.lt
    have hlt_556 := hw.lt
    have hlt_557 := hC.vr.lt
    have hne01 : A 0 ≠ A 1 := hC.ne (cl0 (by omega)) (cl0 (by omega)) (by omega)
    have hgs := hC.ge hcs2
    have hF0 : Fr (fun x => x = A 0 ∨ x = A 1) H H := Fr.rf
    refine k_new (ci := 2) (C := RX2) (T := TX2) (N := 5) (fs := [.int (0), .null, .null, .null, .null]) hx hb hts (by decide +kernel) tyX2 tyX2_ok hown (hts (.classLink RX3 9 RX2) (by decide +kernel)) (hts (.instantiable RX2 5) (by decide +kernel)) (hts (.initialized RX2) (by decide +kernel)) hK rfl (fun j hj => by rcases (show j = 0 ∨ j = 1 ∨ j = 2 ∨ j = 3 ∨ j = 4 by omega) with rfl | rfl | rfl | rfl | rfl <;> rfl) (Nat.le_of_ble_eq_true rfl) (Nat.le_of_ble_eq_true rfl) dX3_addVersion_19 (fun q_558 H_559 ho_560 hA_561 => ?_)
    refine W.widen (k := 1) (n := 5) (Nat.le_of_ble_eq_true rfl) (Nat.le_of_ble_eq_true rfl) ?_
    have hqe_q_558 := hA_561.1
    have ho_562 := hC.o.add hA_561
    have ho_563 := hs.add hA_561
    have hw_564 := hw.add hA_561
    have hw_565 := hC.vr.add hA_561
    have hF_566 := hF0.add hA_561
    have hz_567 := hA_561.2.1
    refine lv_dup hx hb dX3_addVersion_22 rfl ?_
    refine lv_aload_n hx hb dX3_addVersion_23 rfl (lv_at hl 0 rfl) ?_
    refine k_get (ci := 3) (C := RX3) (T := TX3) (N := 7) (v := .int (nI (sV σ))) hx hb hts (by decide +kernel) hown hK ho_562 rfl 2 (by decide) rfl (hts (.fieldLink RX3 146 RX3 "versionCount" "I") (by decide +kernel)) rfl dX3_addVersion_24 ?_
    refine lv_aload_nN hx hb dX3_addVersion_27 rfl (lv_at hl 1 rfl) ?_
    refine lv_aload_nN hx hb dX3_addVersion_28 rfl (lv_at hl 2 rfl) ?_
    refine lv_aload_n hx hb dX3_addVersion_29 rfl (lv_at hl 3 rfl) ?_
    refine k_callU (va_runIN (As := [.int (nI (sV σ)), .null, .null, .ref (A cs)]) (rest := [.ref q_558]) ⟨hx, hb, hml, hown, hts⟩ (c_X2_init_00 l D g b0 H_559 q_558 ho_560 (by omega) (by omega) (sV σ) hV (A cs) (A (cs + 1)) fs ho_563 hw_564 hgs (by omega) (by omega)) ⟨va_cnB 4 hts gX3_addVersion_X2_init_n152 rfl rfl rfl (hK.2.1 _ (List.mem_of_getElem? (i := 1) rfl)) (hts (.initialized RX2) (by decide +kernel)) (by decide +kernel) ⟨Nat.le_of_ble_eq_true rfl, Nat.le_of_ble_eq_true rfl⟩, rfl, hts (.instanceMethod yX2_init) (by decide +kernel)⟩ ⟨kPc_blind, fun U hU hW => kPc_at hK hU hW⟩ rfl rfl hl.1 rfl (lv_room (Nat.le_of_ble_eq_true rfl)) dX3_addVersion_30 ⟨Nat.le_of_ble_eq_true rfl, Nat.le_of_ble_eq_true rfl⟩) LB.nil (fun Hi locsi hLBi hqi => ?_)
    refine W.widen (k := 4) (n := 470) (Nat.le_of_ble_eq_true rfl) (Nat.le_of_ble_eq_true rfl) ?_
    obtain ⟨q1, q2, q3, w1, an1, hq1s, h12, h23, k0, k1, k2, k3, hCi, hw1, han⟩ := hqi
    have ho_568 := ho_562.chg hCi (by omega)
    have hw_569 := hw_565.chg hCi (by omega)
    have hF_570 := hF_566.chg hCi (Or.inr (by omega))
    have hz_571 := hCi.1
    have hl1 := k1.lt
    have hl2 := k2.lt
    have hl3 := k3.lt
    refine lv_astore (lv' := [(4, .ref q_558), (0, .ref (A 0)), (1, .null), (2, .null), (3, .ref (A cs))]) hx hb dX3_addVersion_33 hl (by decide) rfl (fun ls hl => ?_)
    refine lv_aload_n hx hb dX3_addVersion_35 rfl (lv_at hl 1 rfl) ?_
    refine k_get (ci := 3) (C := RX3) (T := TX3) (N := 7) (v := .ref (A 1)) hx hb hts (by decide +kernel) hown hK ho_568 rfl 0 (by decide) rfl (hts (.fieldLink RX3 11 RX3 "versionRow" "[LVersionMerge$Version;") (by decide +kernel)) rfl dX3_addVersion_36 ?_
    refine lv_aload_n hx hb dX3_addVersion_39 rfl (lv_at hl 1 rfl) ?_
    refine k_get (ci := 3) (C := RX3) (T := TX3) (N := 7) (v := .int (nI (sV σ))) hx hb hts (by decide +kernel) hown hK ho_568 rfl 2 (by decide) rfl (hts (.fieldLink RX3 146 RX3 "versionCount" "I") (by decide +kernel)) rfl dX3_addVersion_40 ?_
    refine lv_aload hx hb dX3_addVersion_43 (lv_at hl 0 rfl) ?_
    refine k_aast (r := (RX2, TX2, 5)) hx hb hK 5 rfl hw_569 k0 rfl hLBi (hC.ge (cl0 (by omega))) (sV σ) rfl (by omega) (by omega) dX3_addVersion_45 (fun H_572 locs_573 hw_574 hC_575 hLB_576 => ?_)
    have ho_577 := ho_568.chg hC_575 (by omega)
    have ho_578 := k0.chg hC_575 (by omega)
    have ho_579 := k1.chg hC_575 (by omega)
    have hw_580 := k2.chg hC_575 (by omega)
    have hw_581 := k3.chg hC_575 (by omega)
    have hF_582 := hF_570.chg hC_575 (Or.inl (Or.inr rfl))
    have hz_583 := hC_575.1
    refine lv_aload_n hx hb dX3_addVersion_46 rfl (lv_at hl 1 rfl) ?_
    refine lv_dup hx hb dX3_addVersion_47 rfl ?_
    refine k_get (ci := 3) (C := RX3) (T := TX3) (N := 7) (v := .int (nI (sV σ))) hx hb hts (by decide +kernel) hown hK ho_577 rfl 2 (by decide) rfl (hts (.fieldLink RX3 146 RX3 "versionCount" "I") (by decide +kernel)) rfl dX3_addVersion_48 ?_
    refine lv_iconst (v := nI 1) hx hb dX3_addVersion_51 (by decide +kernel) ?_
    refine lv_iadd hx hb dX3_addVersion_52 ?_
    refine lv_topi (nm_r (show (nI (sV σ)) + (nI 1) = nI (sV σ + 1) from nI_add _ _) ?_)
    refine k_put (ci := 3) (T := TX3) (N := 7) (v := .int (nI (sV σ + 1))) hx hb hts (by decide +kernel) tyX3 tyX3_ok nmX3 hown hK ho_577 hLB_576 (hC.ge (cl0 (by omega))) rfl 2 (by decide) rfl (hts (.fieldLink RX3 146 RX3 "versionCount" "I") (by decide +kernel)) rfl (ty := .int) (by decide +kernel) rfl rfl (Nat.le_of_ble_eq_true rfl) dX3_addVersion_53 (fun H_584 locs_585 ho_586 hC_587 hLB_588 => ?_)
    have ho_586 : HA D H_584 (A 0) (eO 3 [.ref (A 1), .ref (A 2), .int (nI (sV σ + 1)), .int (nI (sB σ)), .ref (A 3), .ref (A 5), .ref (A 7)]) := ho_586
    have ho_589 := ho_578.chg hC_587 (by omega)
    have ho_590 := ho_579.chg hC_587 (by omega)
    have hw_591 := hw_574.chg hC_587 (by omega)
    have hw_592 := hw_580.chg hC_587 (by omega)
    have hw_593 := hw_581.chg hC_587 (by omega)
    have hF_594 := hF_582.chg hC_587 (Or.inl (Or.inl rfl))
    have hz_595 := hC_587.1
    refine lv_aload hx hb dX3_addVersion_56 (lv_at hl 0 rfl) ?_
    have hAn : AnOK σ (sV σ) none none an1 := fun j hj => by rw [han j hj]; simp [anO]
    have hfin := hC.addV (f := none) (s := none) (w := w1) (an := an1) (q0 := q_558) (q1 := q1) (q2 := q2) (q3 := q3) hV (fun p hp => by cases hp) (fun p hp => by cases hp) hAn hbH (by omega) (by omega) h12 h23 hF_594.1 (fun q hq g0 g1 => hF_594.2 q hq (fun z => z.elim g0 g1)) ho_589 ho_590 hw_592 hw_593 ho_586 hw_591
    exact r_aR hx hb hr hLB_588 (Nat.le_refl _) (Nat.le_refl _) ⟨q1, q2, q3, w1, an1, hfin.1, hfin.2, hw1, hAn⟩ dX3_addVersion_58 hlocks
  · skip
    exact absurd hV (by omega)
set_option maxHeartbeats 4000000 in
set_option maxRecDepth 100000 in
theorem c_X3_addVersion_full_10 (l : Launch) (D : va_G) (g : Nat → ClassId) (b0 : Nat) (H : Heap) (A : Nat → Nat) (σ : SG) (dw : Nat → Int64) (hC : CR D g b0 A σ dw H) (hV : ¬ sV σ < 400) (u : Nat) (cs : Nat) : Met l yX3_addVersion wsX3_addVersion ({ frames := 0, cells := 0, slots := 0, locals := 0 } : Room) (kPc D g [.ref (A 0), .ref (A (16 + 4 * u)), .null, .ref (A cs)] H) (kX .null H) 0 0 kN := by
  refine Met.ofW (cc := cX3_addVersion) (maxL := 5) (ret := (some (.object "VersionMerge$Version"))) (by decide) rfl ?_
  intro p e s m args below meth c s₁ B hml hv
  obtain ⟨rfl, hH, hK⟩ := hv
  have hx := B.exec
  have hb := B.bytes
  have hr := B.returns
  have hts := atoms_spec (ws := wsX3_addVersion) B.pre
  have hown : s.vm.findClass RX3 = some m.cls := findClass_of_methodNamed B.named
  have hlocks := B.notSynchronized
  rw [hH]
  have hl := lv_entry ([.ref (A 0), .ref (A (16 + 4 * u)), .null, .ref (A cs)]) (n := 5) (Nat.le_of_ble_eq_true rfl)
  rw [lg_entry_eq]
  generalize (lg_sl ([.ref (A 0), .ref (A (16 + 4 * u)), .null, .ref (A cs)]) ++ List.replicate (5 - (lg_sl ([.ref (A 0), .ref (A (16 + 4 * u)), .null, .ref (A cs)])).length) Slot.unset).toArray = ls at hl ⊢
  have hl : lv_has ls 5 [(0, .ref (A 0)), (1, .ref (A (16 + 4 * u))), (2, .null), (3, .ref (A cs))] := hl
  have hVB := hC.wf
  have hV4 : sV σ ≤ 400 := hVB.2.1
  have hB4 : sB σ ≤ 40 := hVB.2.2.2.1
  refine lv_aload_n hx hb dX3_addVersion_0 rfl (lv_at hl 0 rfl) ?_
  refine k_get (ci := 3) (C := RX3) (T := TX3) (N := 7) (v := .int (nI (sV σ))) hx hb hts (by decide +kernel) hown hK hC.o rfl 2 (by decide) rfl (hts (.fieldLink RX3 146 RX3 "versionCount" "I") (by decide +kernel)) rfl dX3_addVersion_1 ?_
  refine n_if_lt (tgt := 17) hx hb dX3_addVersion_4 (by decide) (by omega) ?_
  refine lv_aload_n hx hb dX3_addVersion_7 rfl (lv_at hl 0 rfl) ?_
  refine k_get (ci := 3) (C := RX3) (T := TX3) (N := 7) (v := .int (nI (sV σ))) hx hb hts (by decide +kernel) hown hK hC.o rfl 2 (by decide) rfl (hts (.fieldLink RX3 146 RX3 "versionCount" "I") (by decide +kernel)) rfl dX3_addVersion_8 ?_
  refine lv_sipush (v := nI 400) hx hb dX3_addVersion_11 (by decide +kernel) ?_
  refine n_icmp_lt (tgt := 19) hx hb dX3_addVersion_14 (by decide) (by omega) (by omega) (fun c_597 => ?_) (fun c_597 => ?_)
  · skip
    exact absurd c_597 hV
  · skip
    refine lv_null hx hb dX3_addVersion_17 ?_
    exact r_aX hx hb hr (Or.inl rfl) dX3_addVersion_18 hlocks
set_option maxHeartbeats 4000000 in
set_option maxRecDepth 100000 in
/-- addVersion: there is room -/
theorem c_X3_addVersion_10 (l : Launch) (D : va_G) (g : Nat → ClassId) (b0 : Nat) (H : Heap) (A : Nat → Nat) (σ : SG) (dw : Nat → Int64) (hC : CR D g b0 A σ dw H) (cs : Nat) (fs : Nat → Int64) (hcs1 : cLive σ cs) (hcs2 : cLive σ (cs + 1)) (hs : HA D H (A cs) (eO 1 [.ref (A (cs + 1))])) (hw : HA D H (A (cs + 1)) (eL (g 2) 64 fs)) (hbH : b0 ≤ H.size) (hV : sV σ < 400) (u : Nat) (hu : u < sV σ) : Met l yX3_addVersion wsX3_addVersion ({ frames := 3, cells := 4, slots := 470, locals := 85 } : Room) (kPc D g [.ref (A 0), .ref (A (16 + 4 * u)), .null, .ref (A cs)] H) (kR (PGrow D g b0 H A σ dw (some u) none fs)) 4 470 (kF b0) := by
  refine Met.ofW (cc := cX3_addVersion) (maxL := 5) (ret := (some (.object "VersionMerge$Version"))) (by decide) rfl ?_
  intro p e s m args below meth c s₁ B hml hv
  obtain ⟨rfl, hH, hK⟩ := hv
  have hx := B.exec
  have hb := B.bytes
  have hr := B.returns
  have hts := atoms_spec (ws := wsX3_addVersion) B.pre
  have hown : s.vm.findClass RX3 = some m.cls := findClass_of_methodNamed B.named
  have hlocks := B.notSynchronized
  rw [hH]
  have hl := lv_entry ([.ref (A 0), .ref (A (16 + 4 * u)), .null, .ref (A cs)]) (n := 5) (Nat.le_of_ble_eq_true rfl)
  rw [lg_entry_eq]
  generalize (lg_sl ([.ref (A 0), .ref (A (16 + 4 * u)), .null, .ref (A cs)]) ++ List.replicate (5 - (lg_sl ([.ref (A 0), .ref (A (16 + 4 * u)), .null, .ref (A cs)])).length) Slot.unset).toArray = ls at hl ⊢
  have hl : lv_has ls 5 [(0, .ref (A 0)), (1, .ref (A (16 + 4 * u))), (2, .null), (3, .ref (A cs))] := hl
  have hVB := hC.wf
  have hV4 : sV σ ≤ 400 := hVB.2.1
  have hB4 : sB σ ≤ 40 := hVB.2.2.2.1
  refine lv_aload_n hx hb dX3_addVersion_0 rfl (lv_at hl 0 rfl) ?_
  refine k_get (ci := 3) (C := RX3) (T := TX3) (N := 7) (v := .int (nI (sV σ))) hx hb hts (by decide +kernel) hown hK hC.o rfl 2 (by decide) rfl (hts (.fieldLink RX3 146 RX3 "versionCount" "I") (by decide +kernel)) rfl dX3_addVersion_1 ?_
  refine n_if_lt (tgt := 17) hx hb dX3_addVersion_4 (by decide) (by omega) ?_
  refine lv_aload_n hx hb dX3_addVersion_7 rfl (lv_at hl 0 rfl) ?_
  refine k_get (ci := 3) (C := RX3) (T := TX3) (N := 7) (v := .int (nI (sV σ))) hx hb hts (by decide +kernel) hown hK hC.o rfl 2 (by decide) rfl (hts (.fieldLink RX3 146 RX3 "versionCount" "I") (by decide +kernel)) rfl dX3_addVersion_8 ?_
  refine lv_sipush (v := nI 400) hx hb dX3_addVersion_11 (by decide +kernel) ?_
  refine n_icmp_lt (tgt := 19) hx hb dX3_addVersion_14 (by decide) (by omega) (by omega) (fun c_599 => ?_) (fun c_599 => ?_)
  · skip
    have hlt_600 := hC.o.lt
    have hlt_601 := hs.lt
    have hlt_602 := (hC.ver hu).lt
    have hlt_603 := hw.lt
    have hlt_604 := hC.vr.lt
    have hlt_605 := (hC.an hu).lt
    have hne01 : A 0 ≠ A 1 := hC.ne (cl0 (by omega)) (cl0 (by omega)) (by omega)
    have hgs := hC.ge hcs2
    have hF0 : Fr (fun x => x = A 0 ∨ x = A 1) H H := Fr.rf
    refine k_new (ci := 2) (C := RX2) (T := TX2) (N := 5) (fs := [.int (0), .null, .null, .null, .null]) hx hb hts (by decide +kernel) tyX2 tyX2_ok hown (hts (.classLink RX3 9 RX2) (by decide +kernel)) (hts (.instantiable RX2 5) (by decide +kernel)) (hts (.initialized RX2) (by decide +kernel)) hK rfl (fun j hj => by rcases (show j = 0 ∨ j = 1 ∨ j = 2 ∨ j = 3 ∨ j = 4 by omega) with rfl | rfl | rfl | rfl | rfl <;> rfl) (Nat.le_of_ble_eq_true rfl) (Nat.le_of_ble_eq_true rfl) dX3_addVersion_19 (fun q_606 H_607 ho_608 hA_609 => ?_)
    refine W.widen (k := 1) (n := 5) (Nat.le_of_ble_eq_true rfl) (Nat.le_of_ble_eq_true rfl) ?_
    have hqe_q_606 := hA_609.1
    have ho_610 := hC.o.add hA_609
    have ho_611 := hs.add hA_609
    have ho_612 := (hC.ver hu).add hA_609
    have hw_613 := hw.add hA_609
    have hw_614 := hC.vr.add hA_609
    have hw_615 := (hC.an hu).add hA_609
    have hF_616 := hF0.add hA_609
    have hz_617 := hA_609.2.1
    refine lv_dup hx hb dX3_addVersion_22 rfl ?_
    refine lv_aload_n hx hb dX3_addVersion_23 rfl (lv_at hl 0 rfl) ?_
    refine k_get (ci := 3) (C := RX3) (T := TX3) (N := 7) (v := .int (nI (sV σ))) hx hb hts (by decide +kernel) hown hK ho_610 rfl 2 (by decide) rfl (hts (.fieldLink RX3 146 RX3 "versionCount" "I") (by decide +kernel)) rfl dX3_addVersion_24 ?_
    refine lv_aload_n hx hb dX3_addVersion_27 rfl (lv_at hl 1 rfl) ?_
    refine lv_aload_nN hx hb dX3_addVersion_28 rfl (lv_at hl 2 rfl) ?_
    refine lv_aload_n hx hb dX3_addVersion_29 rfl (lv_at hl 3 rfl) ?_
    refine k_callU (va_runIN (As := [.int (nI (sV σ)), .ref (A (16 + 4 * u)), .null, .ref (A cs)]) (rest := [.ref q_606]) ⟨hx, hb, hml, hown, hts⟩ (c_X2_init_10 l D g b0 H_607 q_606 ho_608 (by omega) (by omega) (sV σ) hV (A cs) (A (cs + 1)) fs ho_611 hw_613 hgs (by omega) (by omega) (A (16 + 4 * u)) (A (19 + 4 * u)) _ _ _ _ (sA σ u) ho_612 hw_615 (by omega) (by omega)) ⟨va_cnB 4 hts gX3_addVersion_X2_init_n152 rfl rfl rfl (hK.2.1 _ (List.mem_of_getElem? (i := 1) rfl)) (hts (.initialized RX2) (by decide +kernel)) (by decide +kernel) ⟨Nat.le_of_ble_eq_true rfl, Nat.le_of_ble_eq_true rfl⟩, rfl, hts (.instanceMethod yX2_init) (by decide +kernel)⟩ ⟨kPc_blind, fun U hU hW => kPc_at hK hU hW⟩ rfl rfl hl.1 rfl (lv_room (Nat.le_of_ble_eq_true rfl)) dX3_addVersion_30 ⟨Nat.le_of_ble_eq_true rfl, Nat.le_of_ble_eq_true rfl⟩) LB.nil (fun Hi locsi hLBi hqi => ?_)
    refine W.widen (k := 4) (n := 470) (Nat.le_of_ble_eq_true rfl) (Nat.le_of_ble_eq_true rfl) ?_
    obtain ⟨q1, q2, q3, w1, an1, hq1s, h12, h23, k0, k1, k2, k3, hCi, hw1, han⟩ := hqi
    have ho_618 := ho_610.chg hCi (by omega)
    have hw_619 := hw_614.chg hCi (by omega)
    have hF_620 := hF_616.chg hCi (Or.inr (by omega))
    have hz_621 := hCi.1
    have hl1 := k1.lt
    have hl2 := k2.lt
    have hl3 := k3.lt
    refine lv_astore (lv' := [(4, .ref q_606), (0, .ref (A 0)), (1, .ref (A (16 + 4 * u))), (2, .null), (3, .ref (A cs))]) hx hb dX3_addVersion_33 hl (by decide) rfl (fun ls hl => ?_)
    refine lv_aload_n hx hb dX3_addVersion_35 rfl (lv_at hl 1 rfl) ?_
    refine k_get (ci := 3) (C := RX3) (T := TX3) (N := 7) (v := .ref (A 1)) hx hb hts (by decide +kernel) hown hK ho_618 rfl 0 (by decide) rfl (hts (.fieldLink RX3 11 RX3 "versionRow" "[LVersionMerge$Version;") (by decide +kernel)) rfl dX3_addVersion_36 ?_
    refine lv_aload_n hx hb dX3_addVersion_39 rfl (lv_at hl 1 rfl) ?_
    refine k_get (ci := 3) (C := RX3) (T := TX3) (N := 7) (v := .int (nI (sV σ))) hx hb hts (by decide +kernel) hown hK ho_618 rfl 2 (by decide) rfl (hts (.fieldLink RX3 146 RX3 "versionCount" "I") (by decide +kernel)) rfl dX3_addVersion_40 ?_
    refine lv_aload hx hb dX3_addVersion_43 (lv_at hl 0 rfl) ?_
    refine k_aast (r := (RX2, TX2, 5)) hx hb hK 5 rfl hw_619 k0 rfl hLBi (hC.ge (cl0 (by omega))) (sV σ) rfl (by omega) (by omega) dX3_addVersion_45 (fun H_622 locs_623 hw_624 hC_625 hLB_626 => ?_)
    have ho_627 := ho_618.chg hC_625 (by omega)
    have ho_628 := k0.chg hC_625 (by omega)
    have ho_629 := k1.chg hC_625 (by omega)
    have hw_630 := k2.chg hC_625 (by omega)
    have hw_631 := k3.chg hC_625 (by omega)
    have hF_632 := hF_620.chg hC_625 (Or.inl (Or.inr rfl))
    have hz_633 := hC_625.1
    refine lv_aload_n hx hb dX3_addVersion_46 rfl (lv_at hl 1 rfl) ?_
    refine lv_dup hx hb dX3_addVersion_47 rfl ?_
    refine k_get (ci := 3) (C := RX3) (T := TX3) (N := 7) (v := .int (nI (sV σ))) hx hb hts (by decide +kernel) hown hK ho_627 rfl 2 (by decide) rfl (hts (.fieldLink RX3 146 RX3 "versionCount" "I") (by decide +kernel)) rfl dX3_addVersion_48 ?_
    refine lv_iconst (v := nI 1) hx hb dX3_addVersion_51 (by decide +kernel) ?_
    refine lv_iadd hx hb dX3_addVersion_52 ?_
    refine lv_topi (nm_r (show (nI (sV σ)) + (nI 1) = nI (sV σ + 1) from nI_add _ _) ?_)
    refine k_put (ci := 3) (T := TX3) (N := 7) (v := .int (nI (sV σ + 1))) hx hb hts (by decide +kernel) tyX3 tyX3_ok nmX3 hown hK ho_627 hLB_626 (hC.ge (cl0 (by omega))) rfl 2 (by decide) rfl (hts (.fieldLink RX3 146 RX3 "versionCount" "I") (by decide +kernel)) rfl (ty := .int) (by decide +kernel) rfl rfl (Nat.le_of_ble_eq_true rfl) dX3_addVersion_53 (fun H_634 locs_635 ho_636 hC_637 hLB_638 => ?_)
    have ho_636 : HA D H_634 (A 0) (eO 3 [.ref (A 1), .ref (A 2), .int (nI (sV σ + 1)), .int (nI (sB σ)), .ref (A 3), .ref (A 5), .ref (A 7)]) := ho_636
    have ho_639 := ho_628.chg hC_637 (by omega)
    have ho_640 := ho_629.chg hC_637 (by omega)
    have hw_641 := hw_624.chg hC_637 (by omega)
    have hw_642 := hw_630.chg hC_637 (by omega)
    have hw_643 := hw_631.chg hC_637 (by omega)
    have hF_644 := hF_632.chg hC_637 (Or.inl (Or.inl rfl))
    have hz_645 := hC_637.1
    refine lv_aload hx hb dX3_addVersion_56 (lv_at hl 0 rfl) ?_
    have hAn : AnOK σ (sV σ) (some u) none an1 := fun j hj => by rw [han j hj]; simp [anO]
    have hfin := hC.addV (f := (some u)) (s := none) (w := w1) (an := an1) (q0 := q_606) (q1 := q1) (q2 := q2) (q3 := q3) hV (fun p hp => by cases hp; exact hu) (fun p hp => by cases hp) hAn hbH (by omega) (by omega) h12 h23 hF_644.1 (fun q hq g0 g1 => hF_644.2 q hq (fun z => z.elim g0 g1)) ho_639 ho_640 hw_642 hw_643 ho_636 hw_641
    exact r_aR hx hb hr hLB_638 (Nat.le_refl _) (Nat.le_refl _) ⟨q1, q2, q3, w1, an1, hfin.1, hfin.2, hw1, hAn⟩ dX3_addVersion_58 hlocks
  · skip
    exact absurd hV (by omega)
set_option maxHeartbeats 4000000 in
set_option maxRecDepth 100000 in
theorem c_X3_addVersion_full_11 (l : Launch) (D : va_G) (g : Nat → ClassId) (b0 : Nat) (H : Heap) (A : Nat → Nat) (σ : SG) (dw : Nat → Int64) (hC : CR D g b0 A σ dw H) (hV : ¬ sV σ < 400) (u : Nat) (u2 : Nat) (cs : Nat) : Met l yX3_addVersion wsX3_addVersion ({ frames := 0, cells := 0, slots := 0, locals := 0 } : Room) (kPc D g [.ref (A 0), .ref (A (16 + 4 * u)), .ref (A (16 + 4 * u2)), .ref (A cs)] H) (kX .null H) 0 0 kN := by
  refine Met.ofW (cc := cX3_addVersion) (maxL := 5) (ret := (some (.object "VersionMerge$Version"))) (by decide) rfl ?_
  intro p e s m args below meth c s₁ B hml hv
  obtain ⟨rfl, hH, hK⟩ := hv
  have hx := B.exec
  have hb := B.bytes
  have hr := B.returns
  have hts := atoms_spec (ws := wsX3_addVersion) B.pre
  have hown : s.vm.findClass RX3 = some m.cls := findClass_of_methodNamed B.named
  have hlocks := B.notSynchronized
  rw [hH]
  have hl := lv_entry ([.ref (A 0), .ref (A (16 + 4 * u)), .ref (A (16 + 4 * u2)), .ref (A cs)]) (n := 5) (Nat.le_of_ble_eq_true rfl)
  rw [lg_entry_eq]
  generalize (lg_sl ([.ref (A 0), .ref (A (16 + 4 * u)), .ref (A (16 + 4 * u2)), .ref (A cs)]) ++ List.replicate (5 - (lg_sl ([.ref (A 0), .ref (A (16 + 4 * u)), .ref (A (16 + 4 * u2)), .ref (A cs)])).length) Slot.unset).toArray = ls at hl ⊢
  have hl : lv_has ls 5 [(0, .ref (A 0)), (1, .ref (A (16 + 4 * u))), (2, .ref (A (16 + 4 * u2))), (3, .ref (A cs))] := hl
  have hVB := hC.wf
  have hV4 : sV σ ≤ 400 := hVB.2.1
  have hB4 : sB σ ≤ 40 := hVB.2.2.2.1
  refine lv_aload_n hx hb dX3_addVersion_0 rfl (lv_at hl 0 rfl) ?_
  refine k_get (ci := 3) (C := RX3) (T := TX3) (N := 7) (v := .int (nI (sV σ))) hx hb hts (by decide +kernel) hown hK hC.o rfl 2 (by decide) rfl (hts (.fieldLink RX3 146 RX3 "versionCount" "I") (by decide +kernel)) rfl dX3_addVersion_1 ?_
  refine n_if_lt (tgt := 17) hx hb dX3_addVersion_4 (by decide) (by omega) ?_
  refine lv_aload_n hx hb dX3_addVersion_7 rfl (lv_at hl 0 rfl) ?_
  refine k_get (ci := 3) (C := RX3) (T := TX3) (N := 7) (v := .int (nI (sV σ))) hx hb hts (by decide +kernel) hown hK hC.o rfl 2 (by decide) rfl (hts (.fieldLink RX3 146 RX3 "versionCount" "I") (by decide +kernel)) rfl dX3_addVersion_8 ?_
  refine lv_sipush (v := nI 400) hx hb dX3_addVersion_11 (by decide +kernel) ?_
  refine n_icmp_lt (tgt := 19) hx hb dX3_addVersion_14 (by decide) (by omega) (by omega) (fun c_647 => ?_) (fun c_647 => ?_)
  · skip
    exact absurd c_647 hV
  · skip
    refine lv_null hx hb dX3_addVersion_17 ?_
    exact r_aX hx hb hr (Or.inl rfl) dX3_addVersion_18 hlocks
set_option maxHeartbeats 4000000 in
set_option maxRecDepth 100000 in
/-- addVersion: there is room -/
theorem c_X3_addVersion_11 (l : Launch) (D : va_G) (g : Nat → ClassId) (b0 : Nat) (H : Heap) (A : Nat → Nat) (σ : SG) (dw : Nat → Int64) (hC : CR D g b0 A σ dw H) (cs : Nat) (fs : Nat → Int64) (hcs1 : cLive σ cs) (hcs2 : cLive σ (cs + 1)) (hs : HA D H (A cs) (eO 1 [.ref (A (cs + 1))])) (hw : HA D H (A (cs + 1)) (eL (g 2) 64 fs)) (hbH : b0 ≤ H.size) (hV : sV σ < 400) (u : Nat) (hu : u < sV σ) (u2 : Nat) (hu2 : u2 < sV σ) : Met l yX3_addVersion wsX3_addVersion ({ frames := 3, cells := 4, slots := 470, locals := 85 } : Room) (kPc D g [.ref (A 0), .ref (A (16 + 4 * u)), .ref (A (16 + 4 * u2)), .ref (A cs)] H) (kR (PGrow D g b0 H A σ dw (some u) (some u2) fs)) 4 470 (kF b0) := by
  refine Met.ofW (cc := cX3_addVersion) (maxL := 5) (ret := (some (.object "VersionMerge$Version"))) (by decide) rfl ?_
  intro p e s m args below meth c s₁ B hml hv
  obtain ⟨rfl, hH, hK⟩ := hv
  have hx := B.exec
  have hb := B.bytes
  have hr := B.returns
  have hts := atoms_spec (ws := wsX3_addVersion) B.pre
  have hown : s.vm.findClass RX3 = some m.cls := findClass_of_methodNamed B.named
  have hlocks := B.notSynchronized
  rw [hH]
  have hl := lv_entry ([.ref (A 0), .ref (A (16 + 4 * u)), .ref (A (16 + 4 * u2)), .ref (A cs)]) (n := 5) (Nat.le_of_ble_eq_true rfl)
  rw [lg_entry_eq]
  generalize (lg_sl ([.ref (A 0), .ref (A (16 + 4 * u)), .ref (A (16 + 4 * u2)), .ref (A cs)]) ++ List.replicate (5 - (lg_sl ([.ref (A 0), .ref (A (16 + 4 * u)), .ref (A (16 + 4 * u2)), .ref (A cs)])).length) Slot.unset).toArray = ls at hl ⊢
  have hl : lv_has ls 5 [(0, .ref (A 0)), (1, .ref (A (16 + 4 * u))), (2, .ref (A (16 + 4 * u2))), (3, .ref (A cs))] := hl
  have hVB := hC.wf
  have hV4 : sV σ ≤ 400 := hVB.2.1
  have hB4 : sB σ ≤ 40 := hVB.2.2.2.1
  refine lv_aload_n hx hb dX3_addVersion_0 rfl (lv_at hl 0 rfl) ?_
  refine k_get (ci := 3) (C := RX3) (T := TX3) (N := 7) (v := .int (nI (sV σ))) hx hb hts (by decide +kernel) hown hK hC.o rfl 2 (by decide) rfl (hts (.fieldLink RX3 146 RX3 "versionCount" "I") (by decide +kernel)) rfl dX3_addVersion_1 ?_
  refine n_if_lt (tgt := 17) hx hb dX3_addVersion_4 (by decide) (by omega) ?_
  refine lv_aload_n hx hb dX3_addVersion_7 rfl (lv_at hl 0 rfl) ?_
  refine k_get (ci := 3) (C := RX3) (T := TX3) (N := 7) (v := .int (nI (sV σ))) hx hb hts (by decide +kernel) hown hK hC.o rfl 2 (by decide) rfl (hts (.fieldLink RX3 146 RX3 "versionCount" "I") (by decide +kernel)) rfl dX3_addVersion_8 ?_
  refine lv_sipush (v := nI 400) hx hb dX3_addVersion_11 (by decide +kernel) ?_
  refine n_icmp_lt (tgt := 19) hx hb dX3_addVersion_14 (by decide) (by omega) (by omega) (fun c_649 => ?_) (fun c_649 => ?_)
  · skip
    have hlt_650 := hC.o.lt
    have hlt_651 := hs.lt
    have hlt_652 := (hC.ver hu).lt
    have hlt_653 := (hC.ver hu2).lt
    have hlt_654 := hw.lt
    have hlt_655 := hC.vr.lt
    have hlt_656 := (hC.an hu).lt
    have hlt_657 := (hC.an hu2).lt
    have hne01 : A 0 ≠ A 1 := hC.ne (cl0 (by omega)) (cl0 (by omega)) (by omega)
    have hgs := hC.ge hcs2
    have hF0 : Fr (fun x => x = A 0 ∨ x = A 1) H H := Fr.rf
    refine k_new (ci := 2) (C := RX2) (T := TX2) (N := 5) (fs := [.int (0), .null, .null, .null, .null]) hx hb hts (by decide +kernel) tyX2 tyX2_ok hown (hts (.classLink RX3 9 RX2) (by decide +kernel)) (hts (.instantiable RX2 5) (by decide +kernel)) (hts (.initialized RX2) (by decide +kernel)) hK rfl (fun j hj => by rcases (show j = 0 ∨ j = 1 ∨ j = 2 ∨ j = 3 ∨ j = 4 by omega) with rfl | rfl | rfl | rfl | rfl <;> rfl) (Nat.le_of_ble_eq_true rfl) (Nat.le_of_ble_eq_true rfl) dX3_addVersion_19 (fun q_658 H_659 ho_660 hA_661 => ?_)
    refine W.widen (k := 1) (n := 5) (Nat.le_of_ble_eq_true rfl) (Nat.le_of_ble_eq_true rfl) ?_
    have hqe_q_658 := hA_661.1
    have ho_662 := hC.o.add hA_661
    have ho_663 := hs.add hA_661
    have ho_664 := (hC.ver hu).add hA_661
    have ho_665 := (hC.ver hu2).add hA_661
    have hw_666 := hw.add hA_661
    have hw_667 := hC.vr.add hA_661
    have hw_668 := (hC.an hu).add hA_661
    have hw_669 := (hC.an hu2).add hA_661
    have hF_670 := hF0.add hA_661
    have hz_671 := hA_661.2.1
    refine lv_dup hx hb dX3_addVersion_22 rfl ?_
    refine lv_aload_n hx hb dX3_addVersion_23 rfl (lv_at hl 0 rfl) ?_
    refine k_get (ci := 3) (C := RX3) (T := TX3) (N := 7) (v := .int (nI (sV σ))) hx hb hts (by decide +kernel) hown hK ho_662 rfl 2 (by decide) rfl (hts (.fieldLink RX3 146 RX3 "versionCount" "I") (by decide +kernel)) rfl dX3_addVersion_24 ?_
    refine lv_aload_n hx hb dX3_addVersion_27 rfl (lv_at hl 1 rfl) ?_
    refine lv_aload_n hx hb dX3_addVersion_28 rfl (lv_at hl 2 rfl) ?_
    refine lv_aload_n hx hb dX3_addVersion_29 rfl (lv_at hl 3 rfl) ?_
    refine k_callU (va_runIN (As := [.int (nI (sV σ)), .ref (A (16 + 4 * u)), .ref (A (16 + 4 * u2)), .ref (A cs)]) (rest := [.ref q_658]) ⟨hx, hb, hml, hown, hts⟩ (c_X2_init_11 l D g b0 H_659 q_658 ho_660 (by omega) (by omega) (sV σ) hV (A cs) (A (cs + 1)) fs ho_663 hw_666 hgs (by omega) (by omega) (A (16 + 4 * u)) (A (19 + 4 * u)) _ _ _ _ (sA σ u) ho_664 hw_668 (by omega) (by omega) (A (16 + 4 * u2)) (A (19 + 4 * u2)) _ _ _ _ (sA σ u2) ho_665 hw_669 (by omega) (by omega)) ⟨va_cnB 4 hts gX3_addVersion_X2_init_n152 rfl rfl rfl (hK.2.1 _ (List.mem_of_getElem? (i := 1) rfl)) (hts (.initialized RX2) (by decide +kernel)) (by decide +kernel) ⟨Nat.le_of_ble_eq_true rfl, Nat.le_of_ble_eq_true rfl⟩, rfl, hts (.instanceMethod yX2_init) (by decide +kernel)⟩ ⟨kPc_blind, fun U hU hW => kPc_at hK hU hW⟩ rfl rfl hl.1 rfl (lv_room (Nat.le_of_ble_eq_true rfl)) dX3_addVersion_30 ⟨Nat.le_of_ble_eq_true rfl, Nat.le_of_ble_eq_true rfl⟩) LB.nil (fun Hi locsi hLBi hqi => ?_)
    refine W.widen (k := 4) (n := 470) (Nat.le_of_ble_eq_true rfl) (Nat.le_of_ble_eq_true rfl) ?_
    obtain ⟨q1, q2, q3, w1, an1, hq1s, h12, h23, k0, k1, k2, k3, hCi, hw1, han⟩ := hqi
    have ho_672 := ho_662.chg hCi (by omega)
    have hw_673 := hw_667.chg hCi (by omega)
    have hF_674 := hF_670.chg hCi (Or.inr (by omega))
    have hz_675 := hCi.1
    have hl1 := k1.lt
    have hl2 := k2.lt
    have hl3 := k3.lt
    refine lv_astore (lv' := [(4, .ref q_658), (0, .ref (A 0)), (1, .ref (A (16 + 4 * u))), (2, .ref (A (16 + 4 * u2))), (3, .ref (A cs))]) hx hb dX3_addVersion_33 hl (by decide) rfl (fun ls hl => ?_)
    refine lv_aload_n hx hb dX3_addVersion_35 rfl (lv_at hl 1 rfl) ?_
    refine k_get (ci := 3) (C := RX3) (T := TX3) (N := 7) (v := .ref (A 1)) hx hb hts (by decide +kernel) hown hK ho_672 rfl 0 (by decide) rfl (hts (.fieldLink RX3 11 RX3 "versionRow" "[LVersionMerge$Version;") (by decide +kernel)) rfl dX3_addVersion_36 ?_
    refine lv_aload_n hx hb dX3_addVersion_39 rfl (lv_at hl 1 rfl) ?_
    refine k_get (ci := 3) (C := RX3) (T := TX3) (N := 7) (v := .int (nI (sV σ))) hx hb hts (by decide +kernel) hown hK ho_672 rfl 2 (by decide) rfl (hts (.fieldLink RX3 146 RX3 "versionCount" "I") (by decide +kernel)) rfl dX3_addVersion_40 ?_
    refine lv_aload hx hb dX3_addVersion_43 (lv_at hl 0 rfl) ?_
    refine k_aast (r := (RX2, TX2, 5)) hx hb hK 5 rfl hw_673 k0 rfl hLBi (hC.ge (cl0 (by omega))) (sV σ) rfl (by omega) (by omega) dX3_addVersion_45 (fun H_676 locs_677 hw_678 hC_679 hLB_680 => ?_)
    have ho_681 := ho_672.chg hC_679 (by omega)
    have ho_682 := k0.chg hC_679 (by omega)
    have ho_683 := k1.chg hC_679 (by omega)
    have hw_684 := k2.chg hC_679 (by omega)
    have hw_685 := k3.chg hC_679 (by omega)
    have hF_686 := hF_674.chg hC_679 (Or.inl (Or.inr rfl))
    have hz_687 := hC_679.1
    refine lv_aload_n hx hb dX3_addVersion_46 rfl (lv_at hl 1 rfl) ?_
    refine lv_dup hx hb dX3_addVersion_47 rfl ?_
    refine k_get (ci := 3) (C := RX3) (T := TX3) (N := 7) (v := .int (nI (sV σ))) hx hb hts (by decide +kernel) hown hK ho_681 rfl 2 (by decide) rfl (hts (.fieldLink RX3 146 RX3 "versionCount" "I") (by decide +kernel)) rfl dX3_addVersion_48 ?_
    refine lv_iconst (v := nI 1) hx hb dX3_addVersion_51 (by decide +kernel) ?_
    refine lv_iadd hx hb dX3_addVersion_52 ?_
    refine lv_topi (nm_r (show (nI (sV σ)) + (nI 1) = nI (sV σ + 1) from nI_add _ _) ?_)
    refine k_put (ci := 3) (T := TX3) (N := 7) (v := .int (nI (sV σ + 1))) hx hb hts (by decide +kernel) tyX3 tyX3_ok nmX3 hown hK ho_681 hLB_680 (hC.ge (cl0 (by omega))) rfl 2 (by decide) rfl (hts (.fieldLink RX3 146 RX3 "versionCount" "I") (by decide +kernel)) rfl (ty := .int) (by decide +kernel) rfl rfl (Nat.le_of_ble_eq_true rfl) dX3_addVersion_53 (fun H_688 locs_689 ho_690 hC_691 hLB_692 => ?_)
    have ho_690 : HA D H_688 (A 0) (eO 3 [.ref (A 1), .ref (A 2), .int (nI (sV σ + 1)), .int (nI (sB σ)), .ref (A 3), .ref (A 5), .ref (A 7)]) := ho_690
    have ho_693 := ho_682.chg hC_691 (by omega)
    have ho_694 := ho_683.chg hC_691 (by omega)
    have hw_695 := hw_678.chg hC_691 (by omega)
    have hw_696 := hw_684.chg hC_691 (by omega)
    have hw_697 := hw_685.chg hC_691 (by omega)
    have hF_698 := hF_686.chg hC_691 (Or.inl (Or.inl rfl))
    have hz_699 := hC_691.1
    refine lv_aload hx hb dX3_addVersion_56 (lv_at hl 0 rfl) ?_
    have hAn : AnOK σ (sV σ) (some u) (some u2) an1 := fun j hj => by rw [han j hj]; simp [anO]
    have hfin := hC.addV (f := (some u)) (s := (some u2)) (w := w1) (an := an1) (q0 := q_658) (q1 := q1) (q2 := q2) (q3 := q3) hV (fun p hp => by cases hp; exact hu) (fun p hp => by cases hp; exact hu2) hAn hbH (by omega) (by omega) h12 h23 hF_698.1 (fun q hq g0 g1 => hF_698.2 q hq (fun z => z.elim g0 g1)) ho_693 ho_694 hw_696 hw_697 ho_690 hw_695
    exact r_aR hx hb hr hLB_692 (Nat.le_refl _) (Nat.le_refl _) ⟨q1, q2, q3, w1, an1, hfin.1, hfin.2, hw1, hAn⟩ dX3_addVersion_58 hlocks
  · skip
    exact absurd hV (by omega)
set_option maxHeartbeats 4000000 in
set_option maxRecDepth 100000 in
theorem c_X3_addBranch_0 (l : Launch) (D : va_G) (g : Nat → ClassId) (b0 : Nat) (H : Heap) (A : Nat → Nat) (σ : SG) (dw : Nat → Int64) (hC : CR D g b0 A σ dw H) : Met l yX3_addBranch wsX3_addBranch ({ frames := 0, cells := 0, slots := 0, locals := 0 } : Room) (kPc D g [.ref (A 0), .null] H) (kX (.int (-4)) H) 0 0 kN := by
  refine Met.ofW (cc := cX3_addBranch) (maxL := 3) (ret := (some .int)) (by decide) rfl ?_
  intro p e s m args below meth c s₁ B hml hv
  obtain ⟨rfl, hH, hK⟩ := hv
  have hx := B.exec
  have hb := B.bytes
  have hr := B.returns
  have hts := atoms_spec (ws := wsX3_addBranch) B.pre
  have hown : s.vm.findClass RX3 = some m.cls := findClass_of_methodNamed B.named
  have hlocks := B.notSynchronized
  rw [hH]
  have hl := lv_entry ([.ref (A 0), .null]) (n := 3) (Nat.le_of_ble_eq_true rfl)
  rw [lg_entry_eq]
  generalize (lg_sl ([.ref (A 0), .null]) ++ List.replicate (3 - (lg_sl ([.ref (A 0), .null])).length) Slot.unset).toArray = ls at hl ⊢
  have hl : lv_has ls 3 [(0, .ref (A 0)), (1, .null)] := hl
  have hVB := hC.wf
  have hV4 : sV σ ≤ 400 := hVB.2.1
  have hB4 : sB σ ≤ 40 := hVB.2.2.2.1
  refine lv_aload_nN hx hb dX3_addBranch_0 rfl (lv_at hl 1 rfl) ?_
  refine lv_ifnullN (tgt := 20) hx hb dX3_addBranch_1 (by decide) ?_
  refine lv_bipush (v := (-4)) hx hb dX3_addBranch_20 (by decide +kernel) ?_
  exact r_iX hx hb hr (rfl) dX3_addBranch_22 hlocks
set_option maxHeartbeats 4000000 in
set_option maxRecDepth 100000 in
theorem c_X3_addBranch_full (l : Launch) (D : va_G) (g : Nat → ClassId) (b0 : Nat) (H : Heap) (A : Nat → Nat) (σ : SG) (dw : Nat → Int64) (hC : CR D g b0 A σ dw H) (hB : ¬ sB σ < 40) (v : Nat) : Met l yX3_addBranch wsX3_addBranch ({ frames := 0, cells := 0, slots := 0, locals := 0 } : Room) (kPc D g [.ref (A 0), .ref (A (16 + 4 * v))] H) (kX (.int (-4)) H) 0 0 kN := by
  refine Met.ofW (cc := cX3_addBranch) (maxL := 3) (ret := (some .int)) (by decide) rfl ?_
  intro p e s m args below meth c s₁ B hml hv
  obtain ⟨rfl, hH, hK⟩ := hv
  have hx := B.exec
  have hb := B.bytes
  have hr := B.returns
  have hts := atoms_spec (ws := wsX3_addBranch) B.pre
  have hown : s.vm.findClass RX3 = some m.cls := findClass_of_methodNamed B.named
  have hlocks := B.notSynchronized
  rw [hH]
  have hl := lv_entry ([.ref (A 0), .ref (A (16 + 4 * v))]) (n := 3) (Nat.le_of_ble_eq_true rfl)
  rw [lg_entry_eq]
  generalize (lg_sl ([.ref (A 0), .ref (A (16 + 4 * v))]) ++ List.replicate (3 - (lg_sl ([.ref (A 0), .ref (A (16 + 4 * v))])).length) Slot.unset).toArray = ls at hl ⊢
  have hl : lv_has ls 3 [(0, .ref (A 0)), (1, .ref (A (16 + 4 * v)))] := hl
  have hVB := hC.wf
  have hV4 : sV σ ≤ 400 := hVB.2.1
  have hB4 : sB σ ≤ 40 := hVB.2.2.2.1
  refine lv_aload_n hx hb dX3_addBranch_0 rfl (lv_at hl 1 rfl) ?_
  refine lv_ifnull hx hb dX3_addBranch_1 ?_
  refine lv_aload_n hx hb dX3_addBranch_4 rfl (lv_at hl 0 rfl) ?_
  refine k_get (ci := 3) (C := RX3) (T := TX3) (N := 7) (v := .int (nI (sB σ))) hx hb hts (by decide +kernel) hown hK hC.o rfl 3 (by decide) rfl (hts (.fieldLink RX3 46 RX3 "branchCount" "I") (by decide +kernel)) rfl dX3_addBranch_5 ?_
  refine n_if_lt (tgt := 20) hx hb dX3_addBranch_8 (by decide) (by omega) ?_
  refine lv_aload_n hx hb dX3_addBranch_11 rfl (lv_at hl 0 rfl) ?_
  refine k_get (ci := 3) (C := RX3) (T := TX3) (N := 7) (v := .int (nI (sB σ))) hx hb hts (by decide +kernel) hown hK hC.o rfl 3 (by decide) rfl (hts (.fieldLink RX3 46 RX3 "branchCount" "I") (by decide +kernel)) rfl dX3_addBranch_12 ?_
  refine lv_bipush (v := nI 40) hx hb dX3_addBranch_15 (by decide +kernel) ?_
  refine n_icmp_lt (tgt := 23) hx hb dX3_addBranch_17 (by decide) (by omega) (by omega) (fun c_701 => ?_) (fun c_701 => ?_)
  · skip
    exact absurd c_701 hB
  · skip
    refine lv_bipush (v := (-4)) hx hb dX3_addBranch_20 (by decide +kernel) ?_
    exact r_iX hx hb hr (rfl) dX3_addBranch_22 hlocks
set_option maxHeartbeats 4000000 in
set_option maxRecDepth 100000 in
/-- addBranch: there is room -/
theorem c_X3_addBranch (l : Launch) (D : va_G) (g : Nat → ClassId) (b0 : Nat) (H : Heap) (A : Nat → Nat) (σ : SG) (dw : Nat → Int64) (hC : CR D g b0 A σ dw H) (hbH : b0 ≤ H.size) (hB : sB σ < 40) (v : Nat) (hv : v < sV σ) : Met l yX3_addBranch wsX3_addBranch ({ frames := 2, cells := 1, slots := 1, locals := 33 } : Room) (kPc D g [.ref (A 0), .ref (A (16 + 4 * v))] H) (kI (fun r H1 => r = nI (sB σ) ∧ ∃ A1, CR D g b0 A1 (gBr σ v) dw H1 ∧ CFr H A σ H1 A1 (gBr σ v))) 1 1 (kF b0) := by
  refine Met.ofW (cc := cX3_addBranch) (maxL := 3) (ret := (some .int)) (by decide) rfl ?_
  intro p e s m args below meth c s₁ B hml hv
  obtain ⟨rfl, hH, hK⟩ := hv
  have hx := B.exec
  have hb := B.bytes
  have hr := B.returns
  have hts := atoms_spec (ws := wsX3_addBranch) B.pre
  have hown : s.vm.findClass RX3 = some m.cls := findClass_of_methodNamed B.named
  have hlocks := B.notSynchronized
  rw [hH]
  have hl := lv_entry ([.ref (A 0), .ref (A (16 + 4 * v))]) (n := 3) (Nat.le_of_ble_eq_true rfl)
  rw [lg_entry_eq]
  generalize (lg_sl ([.ref (A 0), .ref (A (16 + 4 * v))]) ++ List.replicate (3 - (lg_sl ([.ref (A 0), .ref (A (16 + 4 * v))])).length) Slot.unset).toArray = ls at hl ⊢
  have hl : lv_has ls 3 [(0, .ref (A 0)), (1, .ref (A (16 + 4 * v)))] := hl
  have hVB := hC.wf
  have hV4 : sV σ ≤ 400 := hVB.2.1
  have hB4 : sB σ ≤ 40 := hVB.2.2.2.1
  refine lv_aload_n hx hb dX3_addBranch_0 rfl (lv_at hl 1 rfl) ?_
  refine lv_ifnull hx hb dX3_addBranch_1 ?_
  refine lv_aload_n hx hb dX3_addBranch_4 rfl (lv_at hl 0 rfl) ?_
  refine k_get (ci := 3) (C := RX3) (T := TX3) (N := 7) (v := .int (nI (sB σ))) hx hb hts (by decide +kernel) hown hK hC.o rfl 3 (by decide) rfl (hts (.fieldLink RX3 46 RX3 "branchCount" "I") (by decide +kernel)) rfl dX3_addBranch_5 ?_
  refine n_if_lt (tgt := 20) hx hb dX3_addBranch_8 (by decide) (by omega) ?_
  refine lv_aload_n hx hb dX3_addBranch_11 rfl (lv_at hl 0 rfl) ?_
  refine k_get (ci := 3) (C := RX3) (T := TX3) (N := 7) (v := .int (nI (sB σ))) hx hb hts (by decide +kernel) hown hK hC.o rfl 3 (by decide) rfl (hts (.fieldLink RX3 46 RX3 "branchCount" "I") (by decide +kernel)) rfl dX3_addBranch_12 ?_
  refine lv_bipush (v := nI 40) hx hb dX3_addBranch_15 (by decide +kernel) ?_
  refine n_icmp_lt (tgt := 23) hx hb dX3_addBranch_17 (by decide) (by omega) (by omega) (fun c_703 => ?_) (fun c_703 => ?_)
  · skip
    refine lv_aload_n hx hb dX3_addBranch_23 rfl (lv_at hl 0 rfl) ?_
    refine k_get (ci := 3) (C := RX3) (T := TX3) (N := 7) (v := .int (nI (sB σ))) hx hb hts (by decide +kernel) hown hK hC.o rfl 3 (by decide) rfl (hts (.fieldLink RX3 46 RX3 "branchCount" "I") (by decide +kernel)) rfl dX3_addBranch_24 ?_
    refine lv_istore_n (lv' := [(2, .int (nI (sB σ))), (0, .ref (A 0)), (1, .ref (A (16 + 4 * v)))]) hx hb dX3_addBranch_27 rfl hl (by decide) rfl (fun ls hl => ?_)
    refine lv_aload_n hx hb dX3_addBranch_28 rfl (lv_at hl 1 rfl) ?_
    refine k_get (ci := 3) (C := RX3) (T := TX3) (N := 7) (v := .ref (A 2)) hx hb hts (by decide +kernel) hown hK hC.o rfl 1 (by decide) rfl (hts (.fieldLink RX3 17 RX3 "branchRow" "[LVersionMerge$Branch;") (by decide +kernel)) rfl dX3_addBranch_29 ?_
    refine lv_iload_n hx hb dX3_addBranch_32 rfl (lv_at hl 0 rfl) ?_
    have hlt_704 := hC.o.lt
    have hlt_705 := (hC.ver hv).lt
    have hlt_706 := hC.br.lt
    have hne02 : A 0 ≠ A 2 := hC.ne (cl0 (by omega)) (cl0 (by omega)) (by omega)
    have hF0 : Fr (fun x => x = A 0 ∨ x = A 2) H H := Fr.rf
    refine k_new (ci := 0) (C := RX0) (T := TX0) (N := 1) (fs := [.null]) hx hb hts (by decide +kernel) tyX0 tyX0_ok hown (hts (.classLink RX3 15 RX0) (by decide +kernel)) (hts (.instantiable RX0 1) (by decide +kernel)) (hts (.initialized RX0) (by decide +kernel)) hK rfl (fun j hj => by rw [show j = 0 by omega]; rfl) (Nat.le_of_ble_eq_true rfl) (Nat.le_of_ble_eq_true rfl) dX3_addBranch_33 (fun q_707 H_708 ho_709 hA_710 => ?_)
    refine W.widen (k := 1) (n := 1) (Nat.le_of_ble_eq_true rfl) (Nat.le_of_ble_eq_true rfl) ?_
    have hqe_q_707 := hA_710.1
    have ho_711 := hC.o.add hA_710
    have ho_712 := (hC.ver hv).add hA_710
    have hw_713 := hC.br.add hA_710
    have hF_714 := hF0.add hA_710
    have hz_715 := hA_710.2.1
    refine lv_dup hx hb dX3_addBranch_36 rfl ?_
    refine lv_aload_n hx hb dX3_addBranch_37 rfl (lv_at hl 2 rfl) ?_
    refine k_callU (va_runIN (As := [.ref (A (16 + 4 * v))]) (rest := [.ref q_707, .int (nI (sB σ)), .ref (A 2)]) ⟨hx, hb, hml, hown, hts⟩ (c_X0_init l D g b0 H_708 q_707 ho_709 (by omega) (A (16 + 4 * v))) ⟨va_cnB 1 hts gX3_addBranch_X0_init_n155 rfl rfl rfl (hK.2.1 _ (List.mem_of_getElem? (i := 4) rfl)) (hts (.initialized RX0) (by decide +kernel)) (by decide +kernel) ⟨Nat.le_of_ble_eq_true rfl, Nat.le_of_ble_eq_true rfl⟩, rfl, hts (.instanceMethod yX0_init) (by decide +kernel)⟩ ⟨kPc_blind, fun U hU hW => kPc_at hK hU hW⟩ rfl rfl hl.1 rfl (lv_room (Nat.le_of_ble_eq_true rfl)) dX3_addBranch_38 ⟨Nat.le_of_ble_eq_true rfl, Nat.le_of_ble_eq_true rfl⟩) LB.nil (fun Hi locsi hLBi hqi => ?_)
    obtain ⟨k0, hCi⟩ := hqi
    have ho_716 := ho_711.chg hCi (by omega)
    have hw_717 := hw_713.chg hCi (by omega)
    have hF_718 := hF_714.chg hCi (Or.inr (by omega))
    have hz_719 := hCi.1
    refine k_aast (r := (RX0, TX0, 1)) hx hb hK 4 rfl hw_717 k0 rfl hLBi (hC.ge (cl0 (by omega))) (sB σ) rfl (by omega) (by omega) dX3_addBranch_41 (fun H_720 locs_721 hw_722 hC_723 hLB_724 => ?_)
    have ho_725 := ho_716.chg hC_723 (by omega)
    have ho_726 := k0.chg hC_723 (by omega)
    have hF_727 := hF_718.chg hC_723 (Or.inl (Or.inr rfl))
    have hz_728 := hC_723.1
    refine lv_aload_n hx hb dX3_addBranch_42 rfl (lv_at hl 1 rfl) ?_
    refine lv_dup hx hb dX3_addBranch_43 rfl ?_
    refine k_get (ci := 3) (C := RX3) (T := TX3) (N := 7) (v := .int (nI (sB σ))) hx hb hts (by decide +kernel) hown hK ho_725 rfl 3 (by decide) rfl (hts (.fieldLink RX3 46 RX3 "branchCount" "I") (by decide +kernel)) rfl dX3_addBranch_44 ?_
    refine lv_iconst (v := nI 1) hx hb dX3_addBranch_47 (by decide +kernel) ?_
    refine lv_iadd hx hb dX3_addBranch_48 ?_
    refine lv_topi (nm_r (show (nI (sB σ)) + (nI 1) = nI (sB σ + 1) from nI_add _ _) ?_)
    refine k_put (ci := 3) (T := TX3) (N := 7) (v := .int (nI (sB σ + 1))) hx hb hts (by decide +kernel) tyX3 tyX3_ok nmX3 hown hK ho_725 hLB_724 (hC.ge (cl0 (by omega))) rfl 3 (by decide) rfl (hts (.fieldLink RX3 46 RX3 "branchCount" "I") (by decide +kernel)) rfl (ty := .int) (by decide +kernel) rfl rfl (Nat.le_of_ble_eq_true rfl) dX3_addBranch_49 (fun H_729 locs_730 ho_731 hC_732 hLB_733 => ?_)
    have ho_731 : HA D H_729 (A 0) (eO 3 [.ref (A 1), .ref (A 2), .int (nI (sV σ)), .int (nI (sB σ + 1)), .ref (A 3), .ref (A 5), .ref (A 7)]) := ho_731
    have ho_734 := ho_726.chg hC_732 (by omega)
    have hw_735 := hw_722.chg hC_732 (by omega)
    have hF_736 := hF_727.chg hC_732 (Or.inl (Or.inl rfl))
    have hz_737 := hC_732.1
    refine lv_iload_n hx hb dX3_addBranch_52 rfl (lv_at hl 0 rfl) ?_
    have hfin := hC.addB (v := v) (q := q_707) hB hv hbH (by omega) hF_736.1 (fun q hq g0 g1 => hF_736.2 q hq (fun z => z.elim g0 g1)) ho_734 ho_731 hw_735
    exact r_iI hx hb hr hLB_733 (Nat.le_refl _) (Nat.le_refl _) ⟨rfl, _, hfin.1, hfin.2⟩ dX3_addBranch_53 hlocks
  · skip
    exact absurd hB (by omega)
set_option maxHeartbeats 4000000 in
set_option maxRecDepth 100000 in
theorem c_X3_advance_full_0 (l : Launch) (D : va_G) (g : Nat → ClassId) (b0 : Nat) (H : Heap) (A : Nat → Nat) (σ : SG) (dw : Nat → Int64) (hC : CR D g b0 A σ dw H) (hV : ¬ sV σ < 400) (b : Nat) (hb4 : b < sB σ) (cs : Nat) : Met l yX3_advance wsX3_advance ({ frames := 1, cells := 0, slots := 0, locals := 24 } : Room) (kPc D g [.ref (A 0), .ref (A (2000 + b)), .null, .ref (A cs)] H) (kX (.int (-4)) H) 0 0 kN := by
  refine Met.ofW (cc := cX3_advance) (maxL := 5) (ret := (some .int)) (by decide) rfl ?_
  intro p e s m args below meth c s₁ B hml hv
  obtain ⟨rfl, hH, hK⟩ := hv
  have hx := B.exec
  have hb := B.bytes
  have hr := B.returns
  have hts := atoms_spec (ws := wsX3_advance) B.pre
  have hown : s.vm.findClass RX3 = some m.cls := findClass_of_methodNamed B.named
  have hlocks := B.notSynchronized
  rw [hH]
  have hl := lv_entry ([.ref (A 0), .ref (A (2000 + b)), .null, .ref (A cs)]) (n := 5) (Nat.le_of_ble_eq_true rfl)
  rw [lg_entry_eq]
  generalize (lg_sl ([.ref (A 0), .ref (A (2000 + b)), .null, .ref (A cs)]) ++ List.replicate (5 - (lg_sl ([.ref (A 0), .ref (A (2000 + b)), .null, .ref (A cs)])).length) Slot.unset).toArray = ls at hl ⊢
  have hl : lv_has ls 5 [(0, .ref (A 0)), (1, .ref (A (2000 + b))), (2, .null), (3, .ref (A cs))] := hl
  have hVB := hC.wf
  have hV4 : sV σ ≤ 400 := hVB.2.1
  have hB4 : sB σ ≤ 40 := hVB.2.2.2.1
  refine lv_aload_n hx hb dX3_advance_0 rfl (lv_at hl 0 rfl) ?_
  refine lv_aload_n hx hb dX3_advance_1 rfl (lv_at hl 1 rfl) ?_
  refine k_getN (ci := 0) (C := RX0) (T := TX0) (N := 1) (v := .ref (A (16 + 4 * (sH σ b)))) hx hb hts (by decide +kernel) hown hK (hC.ba hb4) rfl 0 (by decide) rfl (List.mem_of_getElem? (i := 4) rfl) rfl dX3_advance_2 ?_
  refine lv_aload_nN hx hb dX3_advance_5 rfl (lv_at hl 2 rfl) ?_
  refine lv_aload_n hx hb dX3_advance_6 rfl (lv_at hl 3 rfl) ?_
  refine k_callX (va_runV (As := [.ref (A (16 + 4 * (sH σ b))), .null, .ref (A cs)]) (rest := []) ⟨hx, hb, hml, hown, hts⟩ (c_X3_addVersion_full_10 l D g b0 H A σ dw hC hV (sH σ b) cs) (cwV 3 hts gX3_advance_X3_addVersion rfl rfl rfl (by decide +kernel) ⟨Nat.le_of_ble_eq_true rfl, Nat.le_of_ble_eq_true rfl⟩) ⟨kPc_blind, k_recv hK hC.o rfl, fun U hU hW => kPc_at hK hU hW⟩ rfl rfl hl.1 rfl (lv_room (Nat.le_of_ble_eq_true rfl)) dX3_advance_7 ⟨Nat.le_of_ble_eq_true rfl, Nat.le_of_ble_eq_true rfl⟩) ?_
  refine lv_astoreN (lv' := [(4, .null), (0, .ref (A 0)), (1, .ref (A (2000 + b))), (2, .null), (3, .ref (A cs))]) hx hb dX3_advance_10 hl (by decide) rfl (fun ls hl => ?_)
  refine lv_aloadN hx hb dX3_advance_12 (lv_at hl 0 rfl) ?_
  refine lv_ifnonnullN hx hb dX3_advance_14 ?_
  refine lv_bipush (v := (-4)) hx hb dX3_advance_17 (by decide +kernel) ?_
  exact r_iX hx hb hr (rfl) dX3_advance_19 hlocks
set_option maxHeartbeats 4000000 in
set_option maxRecDepth 100000 in
/-- advance: there is room -/
theorem c_X3_advance_0 (l : Launch) (D : va_G) (g : Nat → ClassId) (b0 : Nat) (H : Heap) (A : Nat → Nat) (σ : SG) (dw : Nat → Int64) (hC : CR D g b0 A σ dw H) (cs : Nat) (fs : Nat → Int64) (hcs1 : cLive σ cs) (hcs2 : cLive σ (cs + 1)) (hs : HA D H (A cs) (eO 1 [.ref (A (cs + 1))])) (hw : HA D H (A (cs + 1)) (eL (g 2) 64 fs)) (hbH : b0 ≤ H.size) (hV : sV σ < 400) (b : Nat) (hb4 : b < sB σ) : Met l yX3_advance wsX3_advance ({ frames := 4, cells := 4, slots := 470, locals := 109 } : Room) (kPc D g [.ref (A 0), .ref (A (2000 + b)), .null, .ref (A cs)] H) (kI (fun r H1 => r = nI (sV σ) ∧ PAdv D g b0 H A σ dw b none fs H1)) 4 470 (kF b0) := by
  refine Met.ofW (cc := cX3_advance) (maxL := 5) (ret := (some .int)) (by decide) rfl ?_
  intro p e s m args below meth c s₁ B hml hv
  obtain ⟨rfl, hH, hK⟩ := hv
  have hx := B.exec
  have hb := B.bytes
  have hr := B.returns
  have hts := atoms_spec (ws := wsX3_advance) B.pre
  have hown : s.vm.findClass RX3 = some m.cls := findClass_of_methodNamed B.named
  have hlocks := B.notSynchronized
  rw [hH]
  have hl := lv_entry ([.ref (A 0), .ref (A (2000 + b)), .null, .ref (A cs)]) (n := 5) (Nat.le_of_ble_eq_true rfl)
  rw [lg_entry_eq]
  generalize (lg_sl ([.ref (A 0), .ref (A (2000 + b)), .null, .ref (A cs)]) ++ List.replicate (5 - (lg_sl ([.ref (A 0), .ref (A (2000 + b)), .null, .ref (A cs)])).length) Slot.unset).toArray = ls at hl ⊢
  have hl : lv_has ls 5 [(0, .ref (A 0)), (1, .ref (A (2000 + b))), (2, .null), (3, .ref (A cs))] := hl
  have hVB := hC.wf
  have hV4 : sV σ ≤ 400 := hVB.2.1
  have hB4 : sB σ ≤ 40 := hVB.2.2.2.1
  have hhd := hVB.2.2.2.2.1 b hb4
  refine lv_aload_n hx hb dX3_advance_0 rfl (lv_at hl 0 rfl) ?_
  refine lv_aload_n hx hb dX3_advance_1 rfl (lv_at hl 1 rfl) ?_
  refine k_getN (ci := 0) (C := RX0) (T := TX0) (N := 1) (v := .ref (A (16 + 4 * (sH σ b)))) hx hb hts (by decide +kernel) hown hK (hC.ba hb4) rfl 0 (by decide) rfl (List.mem_of_getElem? (i := 4) rfl) rfl dX3_advance_2 ?_
  refine lv_aload_nN hx hb dX3_advance_5 rfl (lv_at hl 2 rfl) ?_
  refine lv_aload_n hx hb dX3_advance_6 rfl (lv_at hl 3 rfl) ?_
  refine k_callR (va_runV (As := [.ref (A (16 + 4 * (sH σ b))), .null, .ref (A cs)]) (rest := []) ⟨hx, hb, hml, hown, hts⟩ (c_X3_addVersion_10 l D g b0 H A σ dw hC cs fs hcs1 hcs2 hs hw hbH hV (sH σ b) hhd) (cwV 3 hts gX3_advance_X3_addVersion rfl rfl rfl (by decide +kernel) ⟨Nat.le_of_ble_eq_true rfl, Nat.le_of_ble_eq_true rfl⟩) ⟨kPc_blind, k_recv hK hC.o rfl, fun U hU hW => kPc_at hK hU hW⟩ rfl rfl hl.1 rfl (lv_room (Nat.le_of_ble_eq_true rfl)) dX3_advance_7 ⟨Nat.le_of_ble_eq_true rfl, Nat.le_of_ble_eq_true rfl⟩) LB.nil (fun a H1 locs1 hLB1 hq1 => ?_)
  refine W.widen (k := 4) (n := 470) (Nat.le_of_ble_eq_true rfl) (Nat.le_of_ble_eq_true rfl) ?_
  obtain ⟨q1, q2, q3, w1, an1, hC1, hF1, hw1, han⟩ := hq1
  have hba := hC1.ba (b := b) hb4
  have eb : AV A (sV σ) a q1 q2 q3 (2000 + b) = A (2000 + b) := AVo A (sV σ) a q1 q2 q3 (Or.inr (by omega))
  rw [eb] at hba
  refine lv_astore (lv' := [(4, .ref a), (0, .ref (A 0)), (1, .ref (A (2000 + b))), (2, .null), (3, .ref (A cs))]) hx hb dX3_advance_10 hl (by decide) rfl (fun ls hl => ?_)
  refine lv_aload hx hb dX3_advance_12 (lv_at hl 0 rfl) ?_
  refine lv_ifnonnull (tgt := 20) hx hb dX3_advance_14 (by decide) ?_
  refine lv_aload_n hx hb dX3_advance_20 rfl (lv_at hl 2 rfl) ?_
  refine lv_aload hx hb dX3_advance_21 (lv_at hl 0 rfl) ?_
  refine k_putN (ci := 0) (C := RX0) (T := TX0) (N := 1) (v := .ref a) hx hb hts (by decide +kernel) tyX0 tyX0_ok nmX0 hown hK hba hLB1 (hC.ge (clB hb4)) rfl 0 (by decide) rfl (List.mem_of_getElem? (i := 4) rfl) rfl (ty := .object "VersionMerge$Version") (by decide +kernel) rfl rfl (Nat.le_of_ble_eq_true rfl) dX3_advance_23 (fun H_738 locs_739 ho_740 hC_741 hLB_742 => ?_)
  have hC2 := hC1.head (b := b) (v := sV σ) hb4 (Nat.lt_succ_self _) (by rw [eb, AV0]; exact ho_740) (by rw [eb]; exact hC_741)
  have hF2 := hF1.tr (CFr.chg (σ1 := gStep σ b none w1 an1) (clB (σ := gGrow σ (some (sH σ b)) none w1 an1) (b := b) hb4) (by rw [eb]; exact hC_741) (fun c hc => hc))
  have hvn := hC2.ver (k := sV σ) (Nat.lt_succ_self _)
  rw [AV0] at hvn
  refine lv_aload hx hb dX3_advance_26 (lv_at hl 0 rfl) ?_
  refine k_getN (ci := 2) (C := RX2) (T := TX2) (N := 5) (v := .int (nI (sV σ))) hx hb hts (by decide +kernel) hown hK hvn rfl 0 (by decide) rfl (List.mem_of_getElem? (i := 0) rfl) rfl dX3_advance_28 ?_
  exact r_iI hx hb hr hLB_742 (Nat.le_refl _) (Nat.le_refl _) ⟨rfl, _, w1, an1, hC2, hF2, hw1, han⟩ dX3_advance_31 hlocks
set_option maxHeartbeats 4000000 in
set_option maxRecDepth 100000 in
theorem c_X3_advance_full_1 (l : Launch) (D : va_G) (g : Nat → ClassId) (b0 : Nat) (H : Heap) (A : Nat → Nat) (σ : SG) (dw : Nat → Int64) (hC : CR D g b0 A σ dw H) (hV : ¬ sV σ < 400) (b : Nat) (hb4 : b < sB σ) (u2 : Nat) (cs : Nat) : Met l yX3_advance wsX3_advance ({ frames := 1, cells := 0, slots := 0, locals := 24 } : Room) (kPc D g [.ref (A 0), .ref (A (2000 + b)), .ref (A (16 + 4 * u2)), .ref (A cs)] H) (kX (.int (-4)) H) 0 0 kN := by
  refine Met.ofW (cc := cX3_advance) (maxL := 5) (ret := (some .int)) (by decide) rfl ?_
  intro p e s m args below meth c s₁ B hml hv
  obtain ⟨rfl, hH, hK⟩ := hv
  have hx := B.exec
  have hb := B.bytes
  have hr := B.returns
  have hts := atoms_spec (ws := wsX3_advance) B.pre
  have hown : s.vm.findClass RX3 = some m.cls := findClass_of_methodNamed B.named
  have hlocks := B.notSynchronized
  rw [hH]
  have hl := lv_entry ([.ref (A 0), .ref (A (2000 + b)), .ref (A (16 + 4 * u2)), .ref (A cs)]) (n := 5) (Nat.le_of_ble_eq_true rfl)
  rw [lg_entry_eq]
  generalize (lg_sl ([.ref (A 0), .ref (A (2000 + b)), .ref (A (16 + 4 * u2)), .ref (A cs)]) ++ List.replicate (5 - (lg_sl ([.ref (A 0), .ref (A (2000 + b)), .ref (A (16 + 4 * u2)), .ref (A cs)])).length) Slot.unset).toArray = ls at hl ⊢
  have hl : lv_has ls 5 [(0, .ref (A 0)), (1, .ref (A (2000 + b))), (2, .ref (A (16 + 4 * u2))), (3, .ref (A cs))] := hl
  have hVB := hC.wf
  have hV4 : sV σ ≤ 400 := hVB.2.1
  have hB4 : sB σ ≤ 40 := hVB.2.2.2.1
  refine lv_aload_n hx hb dX3_advance_0 rfl (lv_at hl 0 rfl) ?_
  refine lv_aload_n hx hb dX3_advance_1 rfl (lv_at hl 1 rfl) ?_
  refine k_getN (ci := 0) (C := RX0) (T := TX0) (N := 1) (v := .ref (A (16 + 4 * (sH σ b)))) hx hb hts (by decide +kernel) hown hK (hC.ba hb4) rfl 0 (by decide) rfl (List.mem_of_getElem? (i := 4) rfl) rfl dX3_advance_2 ?_
  refine lv_aload_n hx hb dX3_advance_5 rfl (lv_at hl 2 rfl) ?_
  refine lv_aload_n hx hb dX3_advance_6 rfl (lv_at hl 3 rfl) ?_
  refine k_callX (va_runV (As := [.ref (A (16 + 4 * (sH σ b))), .ref (A (16 + 4 * u2)), .ref (A cs)]) (rest := []) ⟨hx, hb, hml, hown, hts⟩ (c_X3_addVersion_full_11 l D g b0 H A σ dw hC hV (sH σ b) u2 cs) (cwV 3 hts gX3_advance_X3_addVersion rfl rfl rfl (by decide +kernel) ⟨Nat.le_of_ble_eq_true rfl, Nat.le_of_ble_eq_true rfl⟩) ⟨kPc_blind, k_recv hK hC.o rfl, fun U hU hW => kPc_at hK hU hW⟩ rfl rfl hl.1 rfl (lv_room (Nat.le_of_ble_eq_true rfl)) dX3_advance_7 ⟨Nat.le_of_ble_eq_true rfl, Nat.le_of_ble_eq_true rfl⟩) ?_
  refine lv_astoreN (lv' := [(4, .null), (0, .ref (A 0)), (1, .ref (A (2000 + b))), (2, .ref (A (16 + 4 * u2))), (3, .ref (A cs))]) hx hb dX3_advance_10 hl (by decide) rfl (fun ls hl => ?_)
  refine lv_aloadN hx hb dX3_advance_12 (lv_at hl 0 rfl) ?_
  refine lv_ifnonnullN hx hb dX3_advance_14 ?_
  refine lv_bipush (v := (-4)) hx hb dX3_advance_17 (by decide +kernel) ?_
  exact r_iX hx hb hr (rfl) dX3_advance_19 hlocks
set_option maxHeartbeats 4000000 in
set_option maxRecDepth 100000 in
/-- advance: there is room -/
theorem c_X3_advance_1 (l : Launch) (D : va_G) (g : Nat → ClassId) (b0 : Nat) (H : Heap) (A : Nat → Nat) (σ : SG) (dw : Nat → Int64) (hC : CR D g b0 A σ dw H) (cs : Nat) (fs : Nat → Int64) (hcs1 : cLive σ cs) (hcs2 : cLive σ (cs + 1)) (hs : HA D H (A cs) (eO 1 [.ref (A (cs + 1))])) (hw : HA D H (A (cs + 1)) (eL (g 2) 64 fs)) (hbH : b0 ≤ H.size) (hV : sV σ < 400) (b : Nat) (hb4 : b < sB σ) (u2 : Nat) (hu2 : u2 < sV σ) : Met l yX3_advance wsX3_advance ({ frames := 4, cells := 4, slots := 470, locals := 109 } : Room) (kPc D g [.ref (A 0), .ref (A (2000 + b)), .ref (A (16 + 4 * u2)), .ref (A cs)] H) (kI (fun r H1 => r = nI (sV σ) ∧ PAdv D g b0 H A σ dw b (some u2) fs H1)) 4 470 (kF b0) := by
  refine Met.ofW (cc := cX3_advance) (maxL := 5) (ret := (some .int)) (by decide) rfl ?_
  intro p e s m args below meth c s₁ B hml hv
  obtain ⟨rfl, hH, hK⟩ := hv
  have hx := B.exec
  have hb := B.bytes
  have hr := B.returns
  have hts := atoms_spec (ws := wsX3_advance) B.pre
  have hown : s.vm.findClass RX3 = some m.cls := findClass_of_methodNamed B.named
  have hlocks := B.notSynchronized
  rw [hH]
  have hl := lv_entry ([.ref (A 0), .ref (A (2000 + b)), .ref (A (16 + 4 * u2)), .ref (A cs)]) (n := 5) (Nat.le_of_ble_eq_true rfl)
  rw [lg_entry_eq]
  generalize (lg_sl ([.ref (A 0), .ref (A (2000 + b)), .ref (A (16 + 4 * u2)), .ref (A cs)]) ++ List.replicate (5 - (lg_sl ([.ref (A 0), .ref (A (2000 + b)), .ref (A (16 + 4 * u2)), .ref (A cs)])).length) Slot.unset).toArray = ls at hl ⊢
  have hl : lv_has ls 5 [(0, .ref (A 0)), (1, .ref (A (2000 + b))), (2, .ref (A (16 + 4 * u2))), (3, .ref (A cs))] := hl
  have hVB := hC.wf
  have hV4 : sV σ ≤ 400 := hVB.2.1
  have hB4 : sB σ ≤ 40 := hVB.2.2.2.1
  have hhd := hVB.2.2.2.2.1 b hb4
  refine lv_aload_n hx hb dX3_advance_0 rfl (lv_at hl 0 rfl) ?_
  refine lv_aload_n hx hb dX3_advance_1 rfl (lv_at hl 1 rfl) ?_
  refine k_getN (ci := 0) (C := RX0) (T := TX0) (N := 1) (v := .ref (A (16 + 4 * (sH σ b)))) hx hb hts (by decide +kernel) hown hK (hC.ba hb4) rfl 0 (by decide) rfl (List.mem_of_getElem? (i := 4) rfl) rfl dX3_advance_2 ?_
  refine lv_aload_n hx hb dX3_advance_5 rfl (lv_at hl 2 rfl) ?_
  refine lv_aload_n hx hb dX3_advance_6 rfl (lv_at hl 3 rfl) ?_
  refine k_callR (va_runV (As := [.ref (A (16 + 4 * (sH σ b))), .ref (A (16 + 4 * u2)), .ref (A cs)]) (rest := []) ⟨hx, hb, hml, hown, hts⟩ (c_X3_addVersion_11 l D g b0 H A σ dw hC cs fs hcs1 hcs2 hs hw hbH hV (sH σ b) hhd u2 hu2) (cwV 3 hts gX3_advance_X3_addVersion rfl rfl rfl (by decide +kernel) ⟨Nat.le_of_ble_eq_true rfl, Nat.le_of_ble_eq_true rfl⟩) ⟨kPc_blind, k_recv hK hC.o rfl, fun U hU hW => kPc_at hK hU hW⟩ rfl rfl hl.1 rfl (lv_room (Nat.le_of_ble_eq_true rfl)) dX3_advance_7 ⟨Nat.le_of_ble_eq_true rfl, Nat.le_of_ble_eq_true rfl⟩) LB.nil (fun a H1 locs1 hLB1 hq1 => ?_)
  refine W.widen (k := 4) (n := 470) (Nat.le_of_ble_eq_true rfl) (Nat.le_of_ble_eq_true rfl) ?_
  obtain ⟨q1, q2, q3, w1, an1, hC1, hF1, hw1, han⟩ := hq1
  have hba := hC1.ba (b := b) hb4
  have eb : AV A (sV σ) a q1 q2 q3 (2000 + b) = A (2000 + b) := AVo A (sV σ) a q1 q2 q3 (Or.inr (by omega))
  rw [eb] at hba
  refine lv_astore (lv' := [(4, .ref a), (0, .ref (A 0)), (1, .ref (A (2000 + b))), (2, .ref (A (16 + 4 * u2))), (3, .ref (A cs))]) hx hb dX3_advance_10 hl (by decide) rfl (fun ls hl => ?_)
  refine lv_aload hx hb dX3_advance_12 (lv_at hl 0 rfl) ?_
  refine lv_ifnonnull (tgt := 20) hx hb dX3_advance_14 (by decide) ?_
  refine lv_aload_n hx hb dX3_advance_20 rfl (lv_at hl 2 rfl) ?_
  refine lv_aload hx hb dX3_advance_21 (lv_at hl 0 rfl) ?_
  refine k_putN (ci := 0) (C := RX0) (T := TX0) (N := 1) (v := .ref a) hx hb hts (by decide +kernel) tyX0 tyX0_ok nmX0 hown hK hba hLB1 (hC.ge (clB hb4)) rfl 0 (by decide) rfl (List.mem_of_getElem? (i := 4) rfl) rfl (ty := .object "VersionMerge$Version") (by decide +kernel) rfl rfl (Nat.le_of_ble_eq_true rfl) dX3_advance_23 (fun H_743 locs_744 ho_745 hC_746 hLB_747 => ?_)
  have hC2 := hC1.head (b := b) (v := sV σ) hb4 (Nat.lt_succ_self _) (by rw [eb, AV0]; exact ho_745) (by rw [eb]; exact hC_746)
  have hF2 := hF1.tr (CFr.chg (σ1 := gStep σ b (some u2) w1 an1) (clB (σ := gGrow σ (some (sH σ b)) (some u2) w1 an1) (b := b) hb4) (by rw [eb]; exact hC_746) (fun c hc => hc))
  have hvn := hC2.ver (k := sV σ) (Nat.lt_succ_self _)
  rw [AV0] at hvn
  refine lv_aload hx hb dX3_advance_26 (lv_at hl 0 rfl) ?_
  refine k_getN (ci := 2) (C := RX2) (T := TX2) (N := 5) (v := .int (nI (sV σ))) hx hb hts (by decide +kernel) hown hK hvn rfl 0 (by decide) rfl (List.mem_of_getElem? (i := 0) rfl) rfl dX3_advance_28 ?_
  exact r_iI hx hb hr hLB_747 (Nat.le_refl _) (Nat.le_refl _) ⟨rfl, _, w1, an1, hC2, hF2, hw1, han⟩ dX3_advance_31 hlocks
end
section
/-! 13: the calls that change a state: what each does (the walks are laid by wip/gen/cls13.py) -/
def BrN (σ : SG) (i : Int32) : Prop := ∀ b, b < sB σ → ¬ i = nI b
def VeN (σ : SG) (i : Int32) : Prop := ∀ b, b < sV σ → ¬ i = nI b
def PaN (σ : SG) (i : Int32) : Prop := VeN σ i ∧ ∀ k, k < sV σ → ¬ i = (-1) - nI k
def Zer (m : Nat → Int64) : Prop := ∀ j, j < 64 → m j = 0
def SpBranch (σ : SG) (i r : Int32) (σ' : SG) : Prop :=
  (BrN σ i ∧ ¬ i = -1 ∧ r = -1 ∧ σ' = σ) ∨
  (sB σ = 40 ∧ (i = -1 ∨ ∃ b, b < sB σ ∧ i = nI b) ∧ r = -4 ∧ σ' = σ) ∨
  (∃ b, b < sB σ ∧ i = nI b ∧ sB σ < 40 ∧ r = nI (sB σ) ∧ σ' = gBr σ (sH σ b)) ∨
  (i = -1 ∧ sB σ < 40 ∧ sV σ = 400 ∧ r = -4 ∧ σ' = σ) ∨
  (i = -1 ∧ sB σ < 40 ∧ sV σ < 400 ∧ r = nI (sB σ) ∧ ∃ w an, σ' = gBr (gGrow σ none none w an) (sV σ) ∧ Zer w ∧ AnOK σ (sV σ) none none an)
def SpPut (σ : SG) (bi ti : Int32) (ad : Bool) (r : Int32) (σ' : SG) : Prop :=
  (BrN σ bi ∧ r = -1 ∧ σ' = σ) ∨ ∃ b, b < sB σ ∧ bi = nI b ∧
  ((isTb ti = false ∧ r = -2 ∧ σ' = σ) ∨ ∃ t, t < 4096 ∧ ti = nI t ∧
  ((bt (sW σ (sH σ b)) t = ad ∧ r = -3 ∧ σ' = σ) ∨ (¬ bt (sW σ (sH σ b)) t = ad ∧
  ((sV σ = 400 ∧ r = -4 ∧ σ' = σ) ∨ (sV σ < 400 ∧ r = nI (sV σ) ∧ ∃ w an, σ' = gStep σ b none w an ∧ AnOK σ (sV σ) (some (sH σ b)) none an ∧ ∀ u, u < 4096 → bt w u = if u = t then ad else bt (sW σ (sH σ b)) u)))))
def Ment (f : Nat → Int64) (q : Nat) : Prop := ∃ t, t < 4096 ∧ bt f t = true ∧ pointIn t q
def SpBlank (σ : SG) (bi pi oi r : Int32) (σ' : SG) : Prop :=
  (BrN σ bi ∧ r = -1 ∧ σ' = σ) ∨ ∃ b, b < sB σ ∧ bi = nI b ∧
  (((isBb pi = false ∨ isBb oi = false) ∧ r = -2 ∧ σ' = σ) ∨ ∃ q o, q < 8 ∧ o < 8 ∧ pi = nI q ∧ oi = nI o ∧
  (((q = o ∨ ¬ Ment (sW σ (sH σ b)) q ∨ Ment (sW σ (sH σ b)) o) ∧ r = -3 ∧ σ' = σ) ∨ (¬ q = o ∧ Ment (sW σ (sH σ b)) q ∧ ¬ Ment (sW σ (sH σ b)) o ∧
  ((sV σ = 400 ∧ r = -4 ∧ σ' = σ) ∨ (sV σ < 400 ∧ r = nI (sV σ) ∧ ∃ w an, σ' = gStep σ b none w an ∧ AnOK σ (sV σ) (some (sH σ b)) none an ∧ ∀ u, u < 4096 → (bt w u = true ↔ ∃ t, t < 4096 ∧ bt (sW σ (sH σ b)) t = true ∧ rnT t q o = u))))))
def GCW (σ : SG) (u v : Nat) (f : Nat → Int64) : Prop := (GC0 σ u v ∧ f = fun _ => 0) ∨ ∃ c, GC1 σ u v c ∧ f = sW σ c
def mrg (x y z : Int64) : Int64 := ((x ||| y) &&& (z ^^^ (-1))) ||| (x &&& y)
def SpJoin (σ : SG) (a w : Nat) (r : Int32) (σ' : SG) : Prop :=
  (sV σ = 400 ∧ r = -4 ∧ σ' = σ) ∨ (sV σ < 400 ∧ ∃ (fb m : Nat → Int64), GCW σ (sH σ a) w fb ∧ (∀ j, j < 64 → m j = mrg (sW σ (sH σ a) j) (sW σ w j) (fb j)) ∧ r = nI (cnt (crowd (bt m)) 256) ∧
  ((¬ cnt (crowd (bt m)) 256 = 0 ∧ σ' = gM σ m) ∨ (cnt (crowd (bt m)) 256 = 0 ∧ ∃ w1 an, σ' = gStep (gM σ m) a (some w) w1 an ∧ AnOK σ (sV σ) (some (sH σ a)) (some w) an ∧ ∀ j, j < 64 → w1 j = m j)))
def SpMerge (σ : SG) (ai bi r : Int32) (σ' : SG) : Prop :=
  ((BrN σ ai ∨ BrN σ bi) ∧ r = -1 ∧ σ' = σ) ∨ ∃ a b, a < sB σ ∧ b < sB σ ∧ ai = nI a ∧ bi = nI b ∧
  ((sA σ (sH σ a) (sH σ b) = true ∧ r = 0 ∧ ∃ m, Zer m ∧ σ' = gM σ m) ∨
   (sA σ (sH σ a) (sH σ b) = false ∧ sA σ (sH σ b) (sH σ a) = true ∧ r = 0 ∧ ∃ m, Zer m ∧ σ' = gHead (gM σ m) a (sH σ b)) ∨
   (sA σ (sH σ a) (sH σ b) = false ∧ sA σ (sH σ b) (sH σ a) = false ∧ SpJoin σ a (sH σ b) r σ'))
def lRem (x y : Int64) : Int64 := x &&& (y ^^^ (-1))
def lLay (h x y : Int64) : Int64 := (h &&& ((x &&& (y ^^^ (-1))) ^^^ (-1))) ||| (y &&& (x ^^^ (-1)))
def SpLay (σ : SG) (b : Nat) (ff ft : Nat → Int64) (r : Int32) (σ' : SG) : Prop :=
  (¬ (∀ j, j < 64 → (lRem (ff j) (ft j)) &&& ((sW σ (sH σ b) j) ^^^ (-1)) = 0) ∧ r = 0 ∧ σ' = σ) ∨
  ((∀ j, j < 64 → (lRem (ff j) (ft j)) &&& ((sW σ (sH σ b) j) ^^^ (-1)) = 0) ∧
  ((sV σ = 400 ∧ r = -4 ∧ σ' = σ) ∨ (sV σ < 400 ∧ (∀ j, j < 64 → lLay (sW σ (sH σ b) j) (ff j) (ft j) = sW σ (sH σ b) j) ∧ r = 0 ∧ σ' = σ) ∨
  (sV σ < 400 ∧ ¬ (∀ j, j < 64 → lLay (sW σ (sH σ b) j) (ff j) (ft j) = sW σ (sH σ b) j) ∧ r = 1 ∧ ∃ w1 an, σ' = gStep σ b none w1 an ∧ AnOK σ (sV σ) (some (sH σ b)) none an ∧ ∀ j, j < 64 → w1 j = lLay (sW σ (sH σ b) j) (ff j) (ft j))))
def SpApply (σ : SG) (bi pi r : Int32) (σ' : SG) : Prop :=
  ((BrN σ bi ∨ PaN σ pi) ∧ r = -1 ∧ σ' = σ) ∨ ∃ b n, b < sB σ ∧ n < sV σ ∧ bi = nI b ∧
  ((pi = nI n ∧ SpLay σ b (befW σ n) (sW σ n) r σ') ∨ (pi = (-1) - nI n ∧ SpLay σ b (sW σ n) (befW σ n) r σ'))
def SpRevert (σ : SG) (bi ni r : Int32) (σ' : SG) : Prop :=
  ((BrN σ bi ∨ VeN σ ni) ∧ r = -1 ∧ σ' = σ) ∨ ∃ b n, b < sB σ ∧ n < sV σ ∧ bi = nI b ∧ ni = nI n ∧
  (((sA σ (sH σ b) n = false ∨ ¬ sS σ n = none) ∧ r = -3 ∧ σ' = σ) ∨ (sA σ (sH σ b) n = true ∧ sS σ n = none ∧ SpLay σ b (sW σ n) (befW σ n) r σ'))
/-- behind a call of the class: a state again, what it did -/
def PubQ (D : va_G) (g : Nat → ClassId) (b0 : Nat) (H : Heap) (A : Nat → Nat) (σ : SG) (Sp : Int32 → SG → Prop) : Int32 → Heap → Prop := fun r H1 => ∃ (A1 : Nat → Nat) (σ1 : SG) (dw1 : Nat → Int64), CR D g b0 A1 σ1 dw1 H1 ∧ CFr H A σ H1 A1 σ1 ∧ Sp r σ1
theorem Zer_bt {m : Nat → Int64} (h : Zer m) {u : Nat} (hu : u < 4096) : bt m u = false := by
  unfold bt
  rw [h _ (by omega), w_0]
theorem bt_eq {f g : Nat → Int64} (h : ∀ j, j < 64 → f j = g j) {u : Nat} (hu : u < 4096) : bt f u = bt g u := by
  unfold bt
  rw [h _ (by omega)]
theorem br_dec (σ : SG) (i : Int32) : BrN σ i ∨ ∃ b, b < sB σ ∧ i = nI b := by
  by_cases h : ∃ b, b < sB σ ∧ i = nI b
  · exact Or.inr h
  · exact Or.inl (fun b hb e => h ⟨b, hb, e⟩)
theorem ve_dec (σ : SG) (i : Int32) : VeN σ i ∨ ∃ b, b < sV σ ∧ i = nI b := by
  by_cases h : ∃ b, b < sV σ ∧ i = nI b
  · exact Or.inr h
  · exact Or.inl (fun b hb e => h ⟨b, hb, e⟩)
theorem pa_dec (σ : SG) (i : Int32) : PaN σ i ∨ ∃ b, b < sV σ ∧ (i = nI b ∨ i = (-1) - nI b) := by
  by_cases h : ∃ b, b < sV σ ∧ (i = nI b ∨ i = (-1) - nI b)
  · exact Or.inr h
  · exact Or.inl ⟨fun b hb e => h ⟨b, hb, Or.inl e⟩, fun b hb e => h ⟨b, hb, Or.inr e⟩⟩
theorem gc_dec (σ : SG) (u v : Nat) : GC0 σ u v ∨ ∃ c, GC1 σ u v c := by
  by_cases h : GC0 σ u v
  · exact Or.inl h
  · right
    have : ∀ n, (∀ z, n ≤ z → z < 400 → ¬ (sA σ u z = true ∧ sA σ v z = true)) ∨ ∃ c, n ≤ c ∧ GC1 σ u v c := by
      intro n
      by_cases hn : 400 ≤ n
      · exact Or.inl (fun z h1 h2 => by omega)
      · obtain ⟨k, hk⟩ : ∃ k, n + k = 400 := ⟨400 - n, by omega⟩
        clear hn
        induction k generalizing n with
        | zero => exact Or.inl (fun z h1 h2 => by omega)
        | succ k ih =>
          rcases ih (n + 1) (by omega) with q | ⟨c, q1, q2⟩
          · by_cases hb : sA σ u n = true ∧ sA σ v n = true
            · exact Or.inr ⟨n, Nat.le_refl _, by omega, hb.1, hb.2, fun z h1 h2 => q z h1 h2⟩
            · refine Or.inl (fun z h1 h2 => ?_)
              rcases Nat.lt_or_ge n z with y | y
              · exact q z y h2
              · rw [show z = n by omega]; exact hb
          · exact Or.inr ⟨c, by omega, q2⟩
    rcases this 0 with q | ⟨c, -, q⟩
    · exact absurd (fun z hz => q z (Nat.zero_le _) hz) h
    · exact ⟨c, q⟩
set_option maxHeartbeats 4000000 in
set_option maxRecDepth 100000 in
/-- lay -/
theorem c_X3_lay (l : Launch) (D : va_G) (g : Nat → ClassId) (b0 : Nat) (H : Heap) (A : Nat → Nat) (σ : SG) (dw : Nat → Int64) (hC : CR D g b0 A σ dw H) (hbH : b0 ≤ H.size) (b : Nat) (hb4 : b < sB σ) (cf ct : Nat) (ff ft : Nat → Int64) (hf1 : cLive σ cf) (hf2 : cLive σ (cf + 1)) (hf3 : ¬ cf = 8) (hf4 : ¬ cf + 1 = 8) (hff : HA D H (A cf) (eO 1 [.ref (A (cf + 1))])) (hfw : HA D H (A (cf + 1)) (eL (g 2) 64 ff)) (ht1 : cLive σ ct) (ht2 : cLive σ (ct + 1)) (ht3 : ¬ ct = 8) (ht4 : ¬ ct + 1 = 8) (htf : HA D H (A ct) (eO 1 [.ref (A (ct + 1))])) (htw : HA D H (A (ct + 1)) (eL (g 2) 64 ft)) : Met l yX3_lay wsX3_lay ({ frames := 5, cells := 4, slots := 470, locals := 133 } : Room) (kPc D g [.ref (A 0), .ref (A (2000 + b)), .ref (A cf), .ref (A ct)] H) (kI (PubQ D g b0 H A σ (SpLay σ b ff ft))) 4 470 (kF b0) := by
  refine Met.ofW (cc := cX3_lay) (maxL := 5) (ret := (some .int)) (by decide) rfl ?_
  intro p e s m args below meth c s₁ B hml hv
  obtain ⟨rfl, hH, hK⟩ := hv
  have hx := B.exec
  have hb := B.bytes
  have hr := B.returns
  have hts := atoms_spec (ws := wsX3_lay) B.pre
  have hown : s.vm.findClass RX3 = some m.cls := findClass_of_methodNamed B.named
  have hlocks := B.notSynchronized
  rw [hH]
  have hl := lv_entry ([.ref (A 0), .ref (A (2000 + b)), .ref (A cf), .ref (A ct)]) (n := 5) (Nat.le_of_ble_eq_true rfl)
  rw [lg_entry_eq]
  generalize (lg_sl ([.ref (A 0), .ref (A (2000 + b)), .ref (A cf), .ref (A ct)]) ++ List.replicate (5 - (lg_sl ([.ref (A 0), .ref (A (2000 + b)), .ref (A cf), .ref (A ct)])).length) Slot.unset).toArray = ls at hl ⊢
  have hl : lv_has ls 5 [(0, .ref (A 0)), (1, .ref (A (2000 + b))), (2, .ref (A cf)), (3, .ref (A ct))] := hl
  have hVB := hC.wf
  have hV4 : sV σ ≤ 400 := hVB.2.1
  have hB4 : sB σ ≤ 40 := hVB.2.2.2.1
  have hhd := hVB.2.2.2.2.1 b hb4
  obtain ⟨b1, hb1⟩ : ∃ b1 : Bool, b1 = true ↔ ∀ j, j < 64 → (lRem (ff j) (ft j)) &&& ((sW σ (sH σ b) j) ^^^ (-1)) = 0 := by
    by_cases z : ∀ j, j < 64 → (lRem (ff j) (ft j)) &&& ((sW σ (sH σ b) j) ^^^ (-1)) = 0
    · exact ⟨true, ⟨fun _ => z, fun _ => rfl⟩⟩
    · exact ⟨false, ⟨fun q => (by cases q), fun q => absurd q z⟩⟩
  refine lv_aload_n hx hb dX3_lay_0 rfl (lv_at hl 1 rfl) ?_
  refine k_getN (ci := 0) (C := RX0) (T := TX0) (N := 1) (v := .ref (A (16 + 4 * (sH σ b)))) hx hb hts (by decide +kernel) hown hK (hC.ba hb4) rfl 0 (by decide) rfl (List.mem_of_getElem? (i := 4) rfl) rfl dX3_lay_1 ?_
  refine k_getN (ci := 2) (C := RX2) (T := TX2) (N := 5) (v := .ref (A (17 + 4 * (sH σ b)))) hx hb hts (by decide +kernel) hown hK (hC.ver hhd) rfl 3 (by decide) rfl (List.mem_of_getElem? (i := 3) rfl) rfl dX3_lay_4 ?_
  refine lv_astore (lv' := [(4, .ref (A (17 + 4 * (sH σ b)))), (0, .ref (A 0)), (1, .ref (A (2000 + b))), (2, .ref (A cf)), (3, .ref (A ct))]) hx hb dX3_lay_7 hl (by decide) rfl (fun ls hl => ?_)
  refine lv_aload hx hb dX3_lay_9 (lv_at hl 0 rfl) ?_
  refine lv_aload_n hx hb dX3_lay_11 rfl (lv_at hl 3 rfl) ?_
  refine lv_aload_n hx hb dX3_lay_12 rfl (lv_at hl 4 rfl) ?_
  refine k_callX (va_runVN (As := [.ref (A cf), .ref (A ct)]) (rest := []) ⟨hx, hb, hml, hown, hts⟩ (c_X1_hasAllRemoved l D g H (A (17 + 4 * (sH σ b))) (A (18 + 4 * (sH σ b))) (sW σ (sH σ b)) (hC.ts hhd) (hC.tw hhd) (A cf) (A (cf + 1)) ff hff hfw (A ct) (A (ct + 1)) ft htf htw b1 hb1) ⟨va_cnB 2 hts gX3_lay_X1_hasAllRemoved_n172 rfl rfl rfl (hK.2.1 _ (List.mem_of_getElem? (i := 19) rfl)) (hts (.initialized RX1) (by decide +kernel)) (by decide +kernel) ⟨Nat.le_of_ble_eq_true rfl, Nat.le_of_ble_eq_true rfl⟩, hts (.instanceMethod yX1_hasAllRemoved) (by decide +kernel), hts (.selects RX1 yX1_hasAllRemoved yX1_hasAllRemoved) (by decide +kernel)⟩ ⟨kPc_blind, k_recv hK (hC.ts hhd) rfl, fun U hU hW => kPc_at hK hU hW⟩ rfl rfl hl.1 rfl (lv_room (Nat.le_of_ble_eq_true rfl)) dX3_lay_13 ⟨Nat.le_of_ble_eq_true rfl, Nat.le_of_ble_eq_true rfl⟩) ?_
  refine z_if_ne (tgt := 21) hx hb dX3_lay_16 (by decide) (fun c_748 => ?_) (fun c_748 => ?_)
  · skip
    refine lv_aload_n hx hb dX3_lay_21 rfl (lv_at hl 1 rfl) ?_
    refine k_callX (va_runV (As := []) (rest := []) ⟨hx, hb, hml, hown, hts⟩ (c_X3_isFull l D g b0 H A σ dw hC) (cwV 0 hts gX3_lay_X3_isFull rfl rfl rfl (by decide +kernel) ⟨Nat.le_of_ble_eq_true rfl, Nat.le_of_ble_eq_true rfl⟩) ⟨kPc_blind, k_recv hK hC.o rfl, fun U hU hW => kPc_at hK hU hW⟩ rfl rfl hl.1 rfl (lv_room (Nat.le_of_ble_eq_true rfl)) dX3_lay_22 ⟨Nat.le_of_ble_eq_true rfl, Nat.le_of_ble_eq_true rfl⟩) ?_
    refine z_if_eq (tgt := 31) hx hb dX3_lay_25 (by decide) (fun c_749 => ?_) (fun c_749 => ?_)
    · skip
      refine lv_aload_n hx hb dX3_lay_31 rfl (lv_at hl 1 rfl) ?_
      refine k_get (ci := 3) (C := RX3) (T := TX3) (N := 7) (v := .ref (A 7)) hx hb hts (by decide +kernel) hown hK hC.o rfl 6 (by decide) rfl (hts (.fieldLink RX3 31 RX3 "draft" "LVersionMerge$TripleSet;") (by decide +kernel)) rfl dX3_lay_32 ?_
      refine lv_aload hx hb dX3_lay_35 (lv_at hl 0 rfl) ?_
      refine lv_aload_n hx hb dX3_lay_37 rfl (lv_at hl 3 rfl) ?_
      refine lv_aload_n hx hb dX3_lay_38 rfl (lv_at hl 4 rfl) ?_
      have hV : sV σ < 400 := by have := of_decide_eq_false c_749; omega
      refine k_callU (va_runVN (As := [.ref (A (17 + 4 * (sH σ b))), .ref (A cf), .ref (A ct)]) (rest := []) ⟨hx, hb, hml, hown, hts⟩ (c_X1_becomeLaid l D g b0 H (A 7) (A 8) dw hC.dr hC.drw (hC.ge (cl0 (by omega))) (hC.ne (cl0 (by omega)) (cl0 (by omega)) (by omega)) (A (17 + 4 * (sH σ b))) (A (18 + 4 * (sH σ b))) (sW σ (sH σ b)) (hC.ts hhd) (hC.tw hhd) (hC.ne (clV (sH σ b) hhd (by omega) (by omega)) (cl0 (by omega)) (by omega)) (hC.ne (clV (sH σ b) hhd (by omega) (by omega)) (cl0 (by omega)) (by omega)) (A cf) (A (cf + 1)) ff hff hfw (hC.ne hf1 (cl0 (by omega)) hf3) (hC.ne hf2 (cl0 (by omega)) hf4) (A ct) (A (ct + 1)) ft htf htw (hC.ne ht1 (cl0 (by omega)) ht3) (hC.ne ht2 (cl0 (by omega)) ht4)) ⟨va_cnB 3 hts gX3_lay_X1_becomeLaid_n176 rfl rfl rfl (hK.2.1 _ (List.mem_of_getElem? (i := 20) rfl)) (hts (.initialized RX1) (by decide +kernel)) (by decide +kernel) ⟨Nat.le_of_ble_eq_true rfl, Nat.le_of_ble_eq_true rfl⟩, hts (.instanceMethod yX1_becomeLaid) (by decide +kernel), hts (.selects RX1 yX1_becomeLaid yX1_becomeLaid) (by decide +kernel)⟩ ⟨kPc_blind, k_recv hK hC.dr rfl, fun U hU hW => kPc_at hK hU hW⟩ rfl rfl hl.1 rfl (lv_room (Nat.le_of_ble_eq_true rfl)) dX3_lay_39 ⟨Nat.le_of_ble_eq_true rfl, Nat.le_of_ble_eq_true rfl⟩) LB.nil (fun H1 locs1 hLB1 hq1 => ?_)
      obtain ⟨f1, hw1, hCh, hf1v⟩ := hq1
      have hC1 := hC.draft hw1 hCh
      have hbH1 : b0 ≤ H1.size := Nat.le_trans hbH hCh.1
      have hF1 : CFr H A σ H1 A σ := CFr.chg (cl0 (by omega)) hCh (fun c hc => hc)
      refine lv_aload_n hx hb dX3_lay_42 rfl (lv_at hl 1 rfl) ?_
      refine k_get (ci := 3) (C := RX3) (T := TX3) (N := 7) (v := .ref (A 7)) hx hb hts (by decide +kernel) hown hK hC1.o rfl 6 (by decide) rfl (hts (.fieldLink RX3 31 RX3 "draft" "LVersionMerge$TripleSet;") (by decide +kernel)) rfl dX3_lay_43 ?_
      refine lv_aload hx hb dX3_lay_46 (lv_at hl 0 rfl) ?_
      obtain ⟨b2, hb2⟩ : ∃ b2 : Bool, b2 = true ↔ ∀ j, j < 64 → f1 j = sW σ (sH σ b) j := by
        by_cases z : ∀ j, j < 64 → f1 j = sW σ (sH σ b) j
        · exact ⟨true, ⟨fun _ => z, fun _ => rfl⟩⟩
        · exact ⟨false, ⟨fun q => (by cases q), fun q => absurd q z⟩⟩
      refine k_callX (va_runVN (As := [.ref (A (17 + 4 * (sH σ b)))]) (rest := []) ⟨hx, hb, hml, hown, hts⟩ (c_X1_isSameAs l D g H1 (A 7) (A 8) f1 hC1.dr hC1.drw (A (17 + 4 * (sH σ b))) (A (18 + 4 * (sH σ b))) (sW σ (sH σ b)) (hC1.ts hhd) (hC1.tw hhd) b2 hb2) ⟨va_cnB 1 hts gX3_lay_X1_isSameAs_n179 rfl rfl rfl (hK.2.1 _ (List.mem_of_getElem? (i := 21) rfl)) (hts (.initialized RX1) (by decide +kernel)) (by decide +kernel) ⟨Nat.le_of_ble_eq_true rfl, Nat.le_of_ble_eq_true rfl⟩, hts (.instanceMethod yX1_isSameAs) (by decide +kernel), hts (.selects RX1 yX1_isSameAs yX1_isSameAs) (by decide +kernel)⟩ ⟨kPc_blind, k_recv hK hC1.dr rfl, fun U hU hW => kPc_at hK hU hW⟩ rfl rfl hl.1 rfl (lv_room (Nat.le_of_ble_eq_true rfl)) dX3_lay_48 ⟨Nat.le_of_ble_eq_true rfl, Nat.le_of_ble_eq_true rfl⟩) ?_
      refine z_if_eq (tgt := 56) hx hb dX3_lay_51 (by decide) (fun c_750 => ?_) (fun c_750 => ?_)
      · skip
        refine lv_aload_n hx hb dX3_lay_56 rfl (lv_at hl 1 rfl) ?_
        refine lv_aload_n hx hb dX3_lay_57 rfl (lv_at hl 2 rfl) ?_
        refine lv_null hx hb dX3_lay_58 ?_
        refine lv_aload_n hx hb dX3_lay_59 rfl (lv_at hl 1 rfl) ?_
        refine k_get (ci := 3) (C := RX3) (T := TX3) (N := 7) (v := .ref (A 7)) hx hb hts (by decide +kernel) hown hK hC1.o rfl 6 (by decide) rfl (hts (.fieldLink RX3 31 RX3 "draft" "LVersionMerge$TripleSet;") (by decide +kernel)) rfl dX3_lay_60 ?_
        refine k_callI (va_runV (As := [.ref (A (2000 + b)), .null, .ref (A 7)]) (rest := []) ⟨hx, hb, hml, hown, hts⟩ (c_X3_advance_0 l D g b0 H1 A σ f1 hC1 7 f1 (cl0 (by omega)) (cl0 (by omega)) hC1.dr hC1.drw hbH1 hV b hb4) (cwV 3 hts gX3_lay_X3_advance rfl rfl rfl (by decide +kernel) ⟨Nat.le_of_ble_eq_true rfl, Nat.le_of_ble_eq_true rfl⟩) ⟨kPc_blind, k_recv hK hC1.o rfl, fun U hU hW => kPc_at hK hU hW⟩ rfl rfl hl.1 rfl (lv_room (Nat.le_of_ble_eq_true rfl)) dX3_lay_63 ⟨Nat.le_of_ble_eq_true rfl, Nat.le_of_ble_eq_true rfl⟩) hLB1 (fun ra H2 locs2 hLB2 hq2 => ?_)
        refine W.widen (k := 4) (n := 470) (Nat.le_of_ble_eq_true rfl) (Nat.le_of_ble_eq_true rfl) ?_
        obtain ⟨hra, A2, w2, an2, hC2, hF2, hw2, han2⟩ := hq2
        refine lv_pop hx hb dX3_lay_66 rfl ?_
        refine lv_iconst (v := nI 1) hx hb dX3_lay_67 (by decide +kernel) ?_
        exact r_iI hx hb hr hLB2 (Nat.le_refl _) (Nat.le_refl _) ⟨A2, _, f1, hC2, hF1.tr hF2, Or.inr ⟨(hb1.mp c_748), Or.inr (Or.inr ⟨hV, fun q => (by rw [hb2.mpr (fun j hj => (hf1v j hj).trans (q j hj))] at c_750; cases c_750), by decide +kernel, w2, an2, rfl, han2, fun j hj => (hw2 j hj).trans (hf1v j hj)⟩)⟩⟩ dX3_lay_68 hlocks
      · skip
        refine lv_iconst (v := nI 0) hx hb dX3_lay_54 (by decide +kernel) ?_
        exact r_iI hx hb hr hLB1 (Nat.zero_le _) (Nat.zero_le _) ⟨A, σ, f1, hC1, hF1, Or.inr ⟨(hb1.mp c_748), Or.inr (Or.inl ⟨hV, fun j hj => (hf1v j hj).symm.trans (hb2.mp c_750 j hj), by decide +kernel, rfl⟩)⟩⟩ dX3_lay_55 hlocks
    · skip
      refine lv_bipush (v := (-4)) hx hb dX3_lay_28 (by decide +kernel) ?_
      have hVf : sV σ = 400 := by have := of_decide_eq_true c_749; omega
      exact r_iI hx hb hr LB.nil (Nat.zero_le _) (Nat.zero_le _) ⟨A, σ, dw, hC, CFr.rf, Or.inr ⟨(hb1.mp c_748), Or.inl ⟨hVf, rfl, rfl⟩⟩⟩ dX3_lay_30 hlocks
  · skip
    refine lv_iconst (v := nI 0) hx hb dX3_lay_19 (by decide +kernel) ?_
    exact r_iI hx hb hr LB.nil (Nat.zero_le _) (Nat.zero_le _) ⟨A, σ, dw, hC, CFr.rf, Or.inl ⟨fun q => (by rw [hb1.mpr q] at c_748; cases c_748), by decide +kernel, rfl⟩⟩ dX3_lay_20 hlocks
set_option maxHeartbeats 4000000 in
set_option maxRecDepth 100000 in
/-- join -/
theorem c_X3_join_0 (l : Launch) (D : va_G) (g : Nat → ClassId) (b0 : Nat) (H : Heap) (A : Nat → Nat) (σ : SG) (dw : Nat → Int64) (hC : CR D g b0 A σ dw H) (hbH : b0 ≤ H.size) (a : Nat) (ha4 : a < sB σ) (v : Nat) (hv : v < sV σ) (hgc : GC0 σ (sH σ a) v) : Met l yX3_join wsX3_join ({ frames := 5, cells := 4, slots := 470, locals := 133 } : Room) (kPc D g [.ref (A 0), .ref (A (2000 + a)), .ref (A (16 + 4 * v))] H) (kI (PubQ D g b0 H A σ (SpJoin σ a v))) 4 470 (kF b0) := by
  refine Met.ofW (cc := cX3_join) (maxL := 6) (ret := (some .int)) (by decide) rfl ?_
  intro p e s m args below meth c s₁ B hml hv
  obtain ⟨rfl, hH, hK⟩ := hv
  have hx := B.exec
  have hb := B.bytes
  have hr := B.returns
  have hts := atoms_spec (ws := wsX3_join) B.pre
  have hown : s.vm.findClass RX3 = some m.cls := findClass_of_methodNamed B.named
  have hlocks := B.notSynchronized
  rw [hH]
  have hl := lv_entry ([.ref (A 0), .ref (A (2000 + a)), .ref (A (16 + 4 * v))]) (n := 6) (Nat.le_of_ble_eq_true rfl)
  rw [lg_entry_eq]
  generalize (lg_sl ([.ref (A 0), .ref (A (2000 + a)), .ref (A (16 + 4 * v))]) ++ List.replicate (6 - (lg_sl ([.ref (A 0), .ref (A (2000 + a)), .ref (A (16 + 4 * v))])).length) Slot.unset).toArray = ls at hl ⊢
  have hl : lv_has ls 6 [(0, .ref (A 0)), (1, .ref (A (2000 + a))), (2, .ref (A (16 + 4 * v)))] := hl
  have hVB := hC.wf
  have hV4 : sV σ ≤ 400 := hVB.2.1
  have hB4 : sB σ ≤ 40 := hVB.2.2.2.1
  have hhd := hVB.2.2.2.2.1 a ha4
  refine lv_aload_n hx hb dX3_join_0 rfl (lv_at hl 0 rfl) ?_
  refine k_callX (va_runV (As := []) (rest := []) ⟨hx, hb, hml, hown, hts⟩ (c_X3_isFull l D g b0 H A σ dw hC) (cwV 0 hts gX3_join_X3_isFull rfl rfl rfl (by decide +kernel) ⟨Nat.le_of_ble_eq_true rfl, Nat.le_of_ble_eq_true rfl⟩) ⟨kPc_blind, k_recv hK hC.o rfl, fun U hU hW => kPc_at hK hU hW⟩ rfl rfl hl.1 rfl (lv_room (Nat.le_of_ble_eq_true rfl)) dX3_join_1 ⟨Nat.le_of_ble_eq_true rfl, Nat.le_of_ble_eq_true rfl⟩) ?_
  refine z_if_eq (tgt := 10) hx hb dX3_join_4 (by decide) (fun c_751 => ?_) (fun c_751 => ?_)
  · skip
    refine lv_aload_n hx hb dX3_join_10 rfl (lv_at hl 0 rfl) ?_
    refine lv_aload_n hx hb dX3_join_11 rfl (lv_at hl 1 rfl) ?_
    refine k_getN (ci := 0) (C := RX0) (T := TX0) (N := 1) (v := .ref (A (16 + 4 * (sH σ a)))) hx hb hts (by decide +kernel) hown hK (hC.ba ha4) rfl 0 (by decide) rfl (List.mem_of_getElem? (i := 4) rfl) rfl dX3_join_12 ?_
    refine lv_aload_n hx hb dX3_join_15 rfl (lv_at hl 2 rfl) ?_
    have hV : sV σ < 400 := by have := of_decide_eq_false c_751; omega
    refine k_callX (va_runV (As := [.ref (A (16 + 4 * (sH σ a))), .ref (A (16 + 4 * v))]) (rest := []) ⟨hx, hb, hml, hown, hts⟩ (c_X3_greatestCommon_0 l D g b0 H A σ dw hC (sH σ a) v hhd hv hgc) (cwV 2 hts gX3_join_X3_greatestCommon rfl rfl rfl (by decide +kernel) ⟨Nat.le_of_ble_eq_true rfl, Nat.le_of_ble_eq_true rfl⟩) ⟨kPc_blind, k_recv hK hC.o rfl, fun U hU hW => kPc_at hK hU hW⟩ rfl rfl hl.1 rfl (lv_room (Nat.le_of_ble_eq_true rfl)) dX3_join_16 ⟨Nat.le_of_ble_eq_true rfl, Nat.le_of_ble_eq_true rfl⟩) ?_
    refine lv_astore_nN (lv' := [(3, .null), (0, .ref (A 0)), (1, .ref (A (2000 + a))), (2, .ref (A (16 + 4 * v)))]) hx hb dX3_join_19 rfl hl (by decide) rfl (fun ls hl => ?_)
    refine lv_aload_nN hx hb dX3_join_20 rfl (lv_at hl 0 rfl) ?_
    refine lv_ifnonnullN hx hb dX3_join_21 ?_
    refine lv_aload_n hx hb dX3_join_24 rfl (lv_at hl 1 rfl) ?_
    refine k_get (ci := 3) (C := RX3) (T := TX3) (N := 7) (v := .ref (A 3)) hx hb hts (by decide +kernel) hown hK hC.o rfl 4 (by decide) rfl (hts (.fieldLink RX3 24 RX3 "nothing" "LVersionMerge$TripleSet;") (by decide +kernel)) rfl dX3_join_25 ?_
    refine lv_goto (tgt := 35) hx hb dX3_join_28 (by decide) ?_
    refine lv_astore (lv' := [(4, .ref (A 3)), (3, .null), (0, .ref (A 0)), (1, .ref (A (2000 + a))), (2, .ref (A (16 + 4 * v)))]) hx hb dX3_join_35 hl (by decide) rfl (fun ls hl => ?_)
    refine lv_aload_n hx hb dX3_join_37 rfl (lv_at hl 2 rfl) ?_
    refine k_get (ci := 3) (C := RX3) (T := TX3) (N := 7) (v := .ref (A 5)) hx hb hts (by decide +kernel) hown hK hC.o rfl 5 (by decide) rfl (hts (.fieldLink RX3 28 RX3 "merged" "LVersionMerge$TripleSet;") (by decide +kernel)) rfl dX3_join_38 ?_
    refine lv_aload_n hx hb dX3_join_41 rfl (lv_at hl 3 rfl) ?_
    refine k_getN (ci := 0) (C := RX0) (T := TX0) (N := 1) (v := .ref (A (16 + 4 * (sH σ a)))) hx hb hts (by decide +kernel) hown hK (hC.ba ha4) rfl 0 (by decide) rfl (List.mem_of_getElem? (i := 4) rfl) rfl dX3_join_42 ?_
    refine k_getN (ci := 2) (C := RX2) (T := TX2) (N := 5) (v := .ref (A (17 + 4 * (sH σ a)))) hx hb hts (by decide +kernel) hown hK (hC.ver hhd) rfl 3 (by decide) rfl (List.mem_of_getElem? (i := 3) rfl) rfl dX3_join_45 ?_
    refine lv_aload_n hx hb dX3_join_48 rfl (lv_at hl 4 rfl) ?_
    refine k_getN (ci := 2) (C := RX2) (T := TX2) (N := 5) (v := .ref (A (17 + 4 * v))) hx hb hts (by decide +kernel) hown hK (hC.ver hv) rfl 3 (by decide) rfl (List.mem_of_getElem? (i := 3) rfl) rfl dX3_join_49 ?_
    refine lv_aload hx hb dX3_join_52 (lv_at hl 0 rfl) ?_
    refine k_callU (va_runVN (As := [.ref (A (17 + 4 * (sH σ a))), .ref (A (17 + 4 * v)), .ref (A 3)]) (rest := []) ⟨hx, hb, hml, hown, hts⟩ (c_X1_becomeMerged l D g b0 H (A 5) (A 6) (sM σ) hC.mg hC.mw (hC.ge (cl0 (by omega))) (hC.ne (cl0 (by omega)) (cl0 (by omega)) (by omega)) (A (17 + 4 * (sH σ a))) (A (18 + 4 * (sH σ a))) (sW σ (sH σ a)) (hC.ts hhd) (hC.tw hhd) (hC.ne (clV (sH σ a) hhd (by omega) (by omega)) (cl0 (by omega)) (by omega)) (hC.ne (clV (sH σ a) hhd (by omega) (by omega)) (cl0 (by omega)) (by omega)) (A (17 + 4 * v)) (A (18 + 4 * v)) (sW σ v) (hC.ts hv) (hC.tw hv) (hC.ne (clV v hv (by omega) (by omega)) (cl0 (by omega)) (by omega)) (hC.ne (clV v hv (by omega) (by omega)) (cl0 (by omega)) (by omega)) (A 3) (A 4) (fun _ => 0) hC.nt hC.nw (hC.ne (cl0 (by omega)) (cl0 (by omega)) (by omega)) (hC.ne (cl0 (by omega)) (cl0 (by omega)) (by omega))) ⟨va_cnB 3 hts gX3_join_X1_becomeMerged_n168 rfl rfl rfl (hK.2.1 _ (List.mem_of_getElem? (i := 12) rfl)) (hts (.initialized RX1) (by decide +kernel)) (by decide +kernel) ⟨Nat.le_of_ble_eq_true rfl, Nat.le_of_ble_eq_true rfl⟩, hts (.instanceMethod yX1_becomeMerged) (by decide +kernel), hts (.selects RX1 yX1_becomeMerged yX1_becomeMerged) (by decide +kernel)⟩ ⟨kPc_blind, k_recv hK hC.mg rfl, fun U hU hW => kPc_at hK hU hW⟩ rfl rfl hl.1 rfl (lv_room (Nat.le_of_ble_eq_true rfl)) dX3_join_54 ⟨Nat.le_of_ble_eq_true rfl, Nat.le_of_ble_eq_true rfl⟩) LB.nil (fun H1 locs1 hLB1 hq1 => ?_)
    obtain ⟨f1, hw1, hCh, hf1v⟩ := hq1
    have hC1 := hC.merged hw1 hCh
    have hbH1 : b0 ≤ H1.size := Nat.le_trans hbH hCh.1
    have hF1 : CFr H A σ H1 A (gM σ f1) := CFr.chg (cl0 (by omega)) hCh (fun c hc => hc)
    refine lv_aload_n hx hb dX3_join_57 rfl (lv_at hl 2 rfl) ?_
    refine k_get (ci := 3) (C := RX3) (T := TX3) (N := 7) (v := .ref (A 5)) hx hb hts (by decide +kernel) hown hK hC1.o rfl 5 (by decide) rfl (hts (.fieldLink RX3 28 RX3 "merged" "LVersionMerge$TripleSet;") (by decide +kernel)) rfl dX3_join_58 ?_
    refine k_callX (va_runVN (As := []) (rest := []) ⟨hx, hb, hml, hown, hts⟩ (c_X1_crowdedKeys l D g H1 (A 5) (A 6) f1 hC1.mg hC1.mw) ⟨va_cnB 0 hts gX3_join_X1_crowdedKeys_n142 rfl rfl rfl (hK.2.1 _ (List.mem_of_getElem? (i := 13) rfl)) (hts (.initialized RX1) (by decide +kernel)) (by decide +kernel) ⟨Nat.le_of_ble_eq_true rfl, Nat.le_of_ble_eq_true rfl⟩, hts (.instanceMethod yX1_crowdedKeys) (by decide +kernel), hts (.selects RX1 yX1_crowdedKeys yX1_crowdedKeys) (by decide +kernel)⟩ ⟨kPc_blind, k_recv hK hC1.mg rfl, fun U hU hW => kPc_at hK hU hW⟩ rfl rfl hl.1 rfl (lv_room (Nat.le_of_ble_eq_true rfl)) dX3_join_61 ⟨Nat.le_of_ble_eq_true rfl, Nat.le_of_ble_eq_true rfl⟩) ?_
    have hcl := cnt_le (crowd (bt f1)) 256
    refine lv_istore (lv' := [(5, .int (nI (cnt (crowd (bt f1)) 256))), (4, .ref (A 3)), (3, .null), (0, .ref (A 0)), (1, .ref (A (2000 + a))), (2, .ref (A (16 + 4 * v)))]) hx hb dX3_join_64 hl (by decide) rfl (fun ls hl => ?_)
    refine lv_iload hx hb dX3_join_66 (lv_at hl 0 rfl) ?_
    refine n_if_ne (tgt := 82) hx hb dX3_join_68 (by decide) (by omega) (fun c_752 => ?_) (fun c_752 => ?_)
    · skip
      refine lv_iload hx hb dX3_join_82 (lv_at hl 0 rfl) ?_
      exact r_iI hx hb hr hLB1 (Nat.zero_le _) (Nat.zero_le _) ⟨A, gM σ f1, dw, hC1, hF1, Or.inr ⟨hV, _, f1, (Or.inl ⟨hgc, rfl⟩), hf1v, rfl, Or.inl ⟨c_752, rfl⟩⟩⟩ dX3_join_84 hlocks
    · skip
      refine lv_aload_n hx hb dX3_join_71 rfl (lv_at hl 3 rfl) ?_
      refine lv_aload_n hx hb dX3_join_72 rfl (lv_at hl 4 rfl) ?_
      refine lv_aload_n hx hb dX3_join_73 rfl (lv_at hl 5 rfl) ?_
      refine lv_aload_n hx hb dX3_join_74 rfl (lv_at hl 3 rfl) ?_
      refine k_get (ci := 3) (C := RX3) (T := TX3) (N := 7) (v := .ref (A 5)) hx hb hts (by decide +kernel) hown hK hC1.o rfl 5 (by decide) rfl (hts (.fieldLink RX3 28 RX3 "merged" "LVersionMerge$TripleSet;") (by decide +kernel)) rfl dX3_join_75 ?_
      refine k_callI (va_runV (As := [.ref (A (2000 + a)), .ref (A (16 + 4 * v)), .ref (A 5)]) (rest := []) ⟨hx, hb, hml, hown, hts⟩ (c_X3_advance_1 l D g b0 H1 A (gM σ f1) dw hC1 5 f1 (cl0 (by omega)) (cl0 (by omega)) hC1.mg hC1.mw hbH1 hV a ha4 v hv) (cwV 3 hts gX3_join_X3_advance rfl rfl rfl (by decide +kernel) ⟨Nat.le_of_ble_eq_true rfl, Nat.le_of_ble_eq_true rfl⟩) ⟨kPc_blind, k_recv hK hC1.o rfl, fun U hU hW => kPc_at hK hU hW⟩ rfl rfl hl.1 rfl (lv_room (Nat.le_of_ble_eq_true rfl)) dX3_join_78 ⟨Nat.le_of_ble_eq_true rfl, Nat.le_of_ble_eq_true rfl⟩) hLB1 (fun ra H2 locs2 hLB2 hq2 => ?_)
      refine W.widen (k := 4) (n := 470) (Nat.le_of_ble_eq_true rfl) (Nat.le_of_ble_eq_true rfl) ?_
      obtain ⟨hra, A2, w2, an2, hC2, hF2, hw2, han2⟩ := hq2
      refine lv_pop hx hb dX3_join_81 rfl ?_
      refine lv_iload hx hb dX3_join_82 (lv_at hl 0 rfl) ?_
      exact r_iI hx hb hr hLB2 (Nat.le_refl _) (Nat.le_refl _) ⟨A2, _, dw, hC2, hF1.tr hF2, Or.inr ⟨hV, _, f1, (Or.inl ⟨hgc, rfl⟩), hf1v, rfl, Or.inr ⟨c_752, w2, an2, rfl, han2, hw2⟩⟩⟩ dX3_join_84 hlocks
  · skip
    refine lv_bipush (v := (-4)) hx hb dX3_join_7 (by decide +kernel) ?_
    have hVf : sV σ = 400 := by have := of_decide_eq_true c_751; omega
    exact r_iI hx hb hr LB.nil (Nat.zero_le _) (Nat.zero_le _) ⟨A, σ, dw, hC, CFr.rf, Or.inl ⟨hVf, rfl, rfl⟩⟩ dX3_join_9 hlocks
set_option maxHeartbeats 4000000 in
set_option maxRecDepth 100000 in
/-- join -/
theorem c_X3_join_1 (l : Launch) (D : va_G) (g : Nat → ClassId) (b0 : Nat) (H : Heap) (A : Nat → Nat) (σ : SG) (dw : Nat → Int64) (hC : CR D g b0 A σ dw H) (hbH : b0 ≤ H.size) (a : Nat) (ha4 : a < sB σ) (v : Nat) (hv : v < sV σ) (c0 : Nat) (hgc : GC1 σ (sH σ a) v c0) : Met l yX3_join wsX3_join ({ frames := 5, cells := 4, slots := 470, locals := 133 } : Room) (kPc D g [.ref (A 0), .ref (A (2000 + a)), .ref (A (16 + 4 * v))] H) (kI (PubQ D g b0 H A σ (SpJoin σ a v))) 4 470 (kF b0) := by
  refine Met.ofW (cc := cX3_join) (maxL := 6) (ret := (some .int)) (by decide) rfl ?_
  intro p e s m args below meth c s₁ B hml hv
  obtain ⟨rfl, hH, hK⟩ := hv
  have hx := B.exec
  have hb := B.bytes
  have hr := B.returns
  have hts := atoms_spec (ws := wsX3_join) B.pre
  have hown : s.vm.findClass RX3 = some m.cls := findClass_of_methodNamed B.named
  have hlocks := B.notSynchronized
  rw [hH]
  have hl := lv_entry ([.ref (A 0), .ref (A (2000 + a)), .ref (A (16 + 4 * v))]) (n := 6) (Nat.le_of_ble_eq_true rfl)
  rw [lg_entry_eq]
  generalize (lg_sl ([.ref (A 0), .ref (A (2000 + a)), .ref (A (16 + 4 * v))]) ++ List.replicate (6 - (lg_sl ([.ref (A 0), .ref (A (2000 + a)), .ref (A (16 + 4 * v))])).length) Slot.unset).toArray = ls at hl ⊢
  have hl : lv_has ls 6 [(0, .ref (A 0)), (1, .ref (A (2000 + a))), (2, .ref (A (16 + 4 * v)))] := hl
  have hVB := hC.wf
  have hV4 : sV σ ≤ 400 := hVB.2.1
  have hB4 : sB σ ≤ 40 := hVB.2.2.2.1
  have hhd := hVB.2.2.2.2.1 a ha4
  have hcu := hVB.gc1 hhd hgc
  refine lv_aload_n hx hb dX3_join_0 rfl (lv_at hl 0 rfl) ?_
  refine k_callX (va_runV (As := []) (rest := []) ⟨hx, hb, hml, hown, hts⟩ (c_X3_isFull l D g b0 H A σ dw hC) (cwV 0 hts gX3_join_X3_isFull rfl rfl rfl (by decide +kernel) ⟨Nat.le_of_ble_eq_true rfl, Nat.le_of_ble_eq_true rfl⟩) ⟨kPc_blind, k_recv hK hC.o rfl, fun U hU hW => kPc_at hK hU hW⟩ rfl rfl hl.1 rfl (lv_room (Nat.le_of_ble_eq_true rfl)) dX3_join_1 ⟨Nat.le_of_ble_eq_true rfl, Nat.le_of_ble_eq_true rfl⟩) ?_
  refine z_if_eq (tgt := 10) hx hb dX3_join_4 (by decide) (fun c_753 => ?_) (fun c_753 => ?_)
  · skip
    refine lv_aload_n hx hb dX3_join_10 rfl (lv_at hl 0 rfl) ?_
    refine lv_aload_n hx hb dX3_join_11 rfl (lv_at hl 1 rfl) ?_
    refine k_getN (ci := 0) (C := RX0) (T := TX0) (N := 1) (v := .ref (A (16 + 4 * (sH σ a)))) hx hb hts (by decide +kernel) hown hK (hC.ba ha4) rfl 0 (by decide) rfl (List.mem_of_getElem? (i := 4) rfl) rfl dX3_join_12 ?_
    refine lv_aload_n hx hb dX3_join_15 rfl (lv_at hl 2 rfl) ?_
    have hV : sV σ < 400 := by have := of_decide_eq_false c_753; omega
    refine k_callX (va_runV (As := [.ref (A (16 + 4 * (sH σ a))), .ref (A (16 + 4 * v))]) (rest := []) ⟨hx, hb, hml, hown, hts⟩ (c_X3_greatestCommon_1 l D g b0 H A σ dw hC (sH σ a) v hhd hv c0 hgc) (cwV 2 hts gX3_join_X3_greatestCommon rfl rfl rfl (by decide +kernel) ⟨Nat.le_of_ble_eq_true rfl, Nat.le_of_ble_eq_true rfl⟩) ⟨kPc_blind, k_recv hK hC.o rfl, fun U hU hW => kPc_at hK hU hW⟩ rfl rfl hl.1 rfl (lv_room (Nat.le_of_ble_eq_true rfl)) dX3_join_16 ⟨Nat.le_of_ble_eq_true rfl, Nat.le_of_ble_eq_true rfl⟩) ?_
    refine lv_astore_n (lv' := [(3, .ref (A (16 + 4 * c0))), (0, .ref (A 0)), (1, .ref (A (2000 + a))), (2, .ref (A (16 + 4 * v)))]) hx hb dX3_join_19 rfl hl (by decide) rfl (fun ls hl => ?_)
    refine lv_aload_n hx hb dX3_join_20 rfl (lv_at hl 0 rfl) ?_
    refine lv_ifnonnull (tgt := 31) hx hb dX3_join_21 (by decide) ?_
    refine lv_aload_n hx hb dX3_join_31 rfl (lv_at hl 0 rfl) ?_
    refine k_getN (ci := 2) (C := RX2) (T := TX2) (N := 5) (v := .ref (A (17 + 4 * c0))) hx hb hts (by decide +kernel) hown hK (hC.ver (show c0 < sV σ by omega)) rfl 3 (by decide) rfl (List.mem_of_getElem? (i := 3) rfl) rfl dX3_join_32 ?_
    refine lv_astore (lv' := [(4, .ref (A (17 + 4 * c0))), (3, .ref (A (16 + 4 * c0))), (0, .ref (A 0)), (1, .ref (A (2000 + a))), (2, .ref (A (16 + 4 * v)))]) hx hb dX3_join_35 hl (by decide) rfl (fun ls hl => ?_)
    refine lv_aload_n hx hb dX3_join_37 rfl (lv_at hl 2 rfl) ?_
    refine k_get (ci := 3) (C := RX3) (T := TX3) (N := 7) (v := .ref (A 5)) hx hb hts (by decide +kernel) hown hK hC.o rfl 5 (by decide) rfl (hts (.fieldLink RX3 28 RX3 "merged" "LVersionMerge$TripleSet;") (by decide +kernel)) rfl dX3_join_38 ?_
    refine lv_aload_n hx hb dX3_join_41 rfl (lv_at hl 3 rfl) ?_
    refine k_getN (ci := 0) (C := RX0) (T := TX0) (N := 1) (v := .ref (A (16 + 4 * (sH σ a)))) hx hb hts (by decide +kernel) hown hK (hC.ba ha4) rfl 0 (by decide) rfl (List.mem_of_getElem? (i := 4) rfl) rfl dX3_join_42 ?_
    refine k_getN (ci := 2) (C := RX2) (T := TX2) (N := 5) (v := .ref (A (17 + 4 * (sH σ a)))) hx hb hts (by decide +kernel) hown hK (hC.ver hhd) rfl 3 (by decide) rfl (List.mem_of_getElem? (i := 3) rfl) rfl dX3_join_45 ?_
    refine lv_aload_n hx hb dX3_join_48 rfl (lv_at hl 4 rfl) ?_
    refine k_getN (ci := 2) (C := RX2) (T := TX2) (N := 5) (v := .ref (A (17 + 4 * v))) hx hb hts (by decide +kernel) hown hK (hC.ver hv) rfl 3 (by decide) rfl (List.mem_of_getElem? (i := 3) rfl) rfl dX3_join_49 ?_
    refine lv_aload hx hb dX3_join_52 (lv_at hl 0 rfl) ?_
    refine k_callU (va_runVN (As := [.ref (A (17 + 4 * (sH σ a))), .ref (A (17 + 4 * v)), .ref (A (17 + 4 * c0))]) (rest := []) ⟨hx, hb, hml, hown, hts⟩ (c_X1_becomeMerged l D g b0 H (A 5) (A 6) (sM σ) hC.mg hC.mw (hC.ge (cl0 (by omega))) (hC.ne (cl0 (by omega)) (cl0 (by omega)) (by omega)) (A (17 + 4 * (sH σ a))) (A (18 + 4 * (sH σ a))) (sW σ (sH σ a)) (hC.ts hhd) (hC.tw hhd) (hC.ne (clV (sH σ a) hhd (by omega) (by omega)) (cl0 (by omega)) (by omega)) (hC.ne (clV (sH σ a) hhd (by omega) (by omega)) (cl0 (by omega)) (by omega)) (A (17 + 4 * v)) (A (18 + 4 * v)) (sW σ v) (hC.ts hv) (hC.tw hv) (hC.ne (clV v hv (by omega) (by omega)) (cl0 (by omega)) (by omega)) (hC.ne (clV v hv (by omega) (by omega)) (cl0 (by omega)) (by omega)) (A (17 + 4 * c0)) (A (18 + 4 * c0)) (sW σ c0) (hC.ts (show c0 < sV σ by omega)) (hC.tw (show c0 < sV σ by omega)) (hC.ne (clV c0 (by omega) (by omega) (by omega)) (cl0 (by omega)) (by omega)) (hC.ne (clV c0 (by omega) (by omega) (by omega)) (cl0 (by omega)) (by omega))) ⟨va_cnB 3 hts gX3_join_X1_becomeMerged_n168 rfl rfl rfl (hK.2.1 _ (List.mem_of_getElem? (i := 12) rfl)) (hts (.initialized RX1) (by decide +kernel)) (by decide +kernel) ⟨Nat.le_of_ble_eq_true rfl, Nat.le_of_ble_eq_true rfl⟩, hts (.instanceMethod yX1_becomeMerged) (by decide +kernel), hts (.selects RX1 yX1_becomeMerged yX1_becomeMerged) (by decide +kernel)⟩ ⟨kPc_blind, k_recv hK hC.mg rfl, fun U hU hW => kPc_at hK hU hW⟩ rfl rfl hl.1 rfl (lv_room (Nat.le_of_ble_eq_true rfl)) dX3_join_54 ⟨Nat.le_of_ble_eq_true rfl, Nat.le_of_ble_eq_true rfl⟩) LB.nil (fun H1 locs1 hLB1 hq1 => ?_)
    obtain ⟨f1, hw1, hCh, hf1v⟩ := hq1
    have hC1 := hC.merged hw1 hCh
    have hbH1 : b0 ≤ H1.size := Nat.le_trans hbH hCh.1
    have hF1 : CFr H A σ H1 A (gM σ f1) := CFr.chg (cl0 (by omega)) hCh (fun c hc => hc)
    refine lv_aload_n hx hb dX3_join_57 rfl (lv_at hl 2 rfl) ?_
    refine k_get (ci := 3) (C := RX3) (T := TX3) (N := 7) (v := .ref (A 5)) hx hb hts (by decide +kernel) hown hK hC1.o rfl 5 (by decide) rfl (hts (.fieldLink RX3 28 RX3 "merged" "LVersionMerge$TripleSet;") (by decide +kernel)) rfl dX3_join_58 ?_
    refine k_callX (va_runVN (As := []) (rest := []) ⟨hx, hb, hml, hown, hts⟩ (c_X1_crowdedKeys l D g H1 (A 5) (A 6) f1 hC1.mg hC1.mw) ⟨va_cnB 0 hts gX3_join_X1_crowdedKeys_n142 rfl rfl rfl (hK.2.1 _ (List.mem_of_getElem? (i := 13) rfl)) (hts (.initialized RX1) (by decide +kernel)) (by decide +kernel) ⟨Nat.le_of_ble_eq_true rfl, Nat.le_of_ble_eq_true rfl⟩, hts (.instanceMethod yX1_crowdedKeys) (by decide +kernel), hts (.selects RX1 yX1_crowdedKeys yX1_crowdedKeys) (by decide +kernel)⟩ ⟨kPc_blind, k_recv hK hC1.mg rfl, fun U hU hW => kPc_at hK hU hW⟩ rfl rfl hl.1 rfl (lv_room (Nat.le_of_ble_eq_true rfl)) dX3_join_61 ⟨Nat.le_of_ble_eq_true rfl, Nat.le_of_ble_eq_true rfl⟩) ?_
    have hcl := cnt_le (crowd (bt f1)) 256
    refine lv_istore (lv' := [(5, .int (nI (cnt (crowd (bt f1)) 256))), (4, .ref (A (17 + 4 * c0))), (3, .ref (A (16 + 4 * c0))), (0, .ref (A 0)), (1, .ref (A (2000 + a))), (2, .ref (A (16 + 4 * v)))]) hx hb dX3_join_64 hl (by decide) rfl (fun ls hl => ?_)
    refine lv_iload hx hb dX3_join_66 (lv_at hl 0 rfl) ?_
    refine n_if_ne (tgt := 82) hx hb dX3_join_68 (by decide) (by omega) (fun c_754 => ?_) (fun c_754 => ?_)
    · skip
      refine lv_iload hx hb dX3_join_82 (lv_at hl 0 rfl) ?_
      exact r_iI hx hb hr hLB1 (Nat.zero_le _) (Nat.zero_le _) ⟨A, gM σ f1, dw, hC1, hF1, Or.inr ⟨hV, _, f1, (Or.inr ⟨c0, hgc, rfl⟩), hf1v, rfl, Or.inl ⟨c_754, rfl⟩⟩⟩ dX3_join_84 hlocks
    · skip
      refine lv_aload_n hx hb dX3_join_71 rfl (lv_at hl 3 rfl) ?_
      refine lv_aload_n hx hb dX3_join_72 rfl (lv_at hl 4 rfl) ?_
      refine lv_aload_n hx hb dX3_join_73 rfl (lv_at hl 5 rfl) ?_
      refine lv_aload_n hx hb dX3_join_74 rfl (lv_at hl 3 rfl) ?_
      refine k_get (ci := 3) (C := RX3) (T := TX3) (N := 7) (v := .ref (A 5)) hx hb hts (by decide +kernel) hown hK hC1.o rfl 5 (by decide) rfl (hts (.fieldLink RX3 28 RX3 "merged" "LVersionMerge$TripleSet;") (by decide +kernel)) rfl dX3_join_75 ?_
      refine k_callI (va_runV (As := [.ref (A (2000 + a)), .ref (A (16 + 4 * v)), .ref (A 5)]) (rest := []) ⟨hx, hb, hml, hown, hts⟩ (c_X3_advance_1 l D g b0 H1 A (gM σ f1) dw hC1 5 f1 (cl0 (by omega)) (cl0 (by omega)) hC1.mg hC1.mw hbH1 hV a ha4 v hv) (cwV 3 hts gX3_join_X3_advance rfl rfl rfl (by decide +kernel) ⟨Nat.le_of_ble_eq_true rfl, Nat.le_of_ble_eq_true rfl⟩) ⟨kPc_blind, k_recv hK hC1.o rfl, fun U hU hW => kPc_at hK hU hW⟩ rfl rfl hl.1 rfl (lv_room (Nat.le_of_ble_eq_true rfl)) dX3_join_78 ⟨Nat.le_of_ble_eq_true rfl, Nat.le_of_ble_eq_true rfl⟩) hLB1 (fun ra H2 locs2 hLB2 hq2 => ?_)
      refine W.widen (k := 4) (n := 470) (Nat.le_of_ble_eq_true rfl) (Nat.le_of_ble_eq_true rfl) ?_
      obtain ⟨hra, A2, w2, an2, hC2, hF2, hw2, han2⟩ := hq2
      refine lv_pop hx hb dX3_join_81 rfl ?_
      refine lv_iload hx hb dX3_join_82 (lv_at hl 0 rfl) ?_
      exact r_iI hx hb hr hLB2 (Nat.le_refl _) (Nat.le_refl _) ⟨A2, _, dw, hC2, hF1.tr hF2, Or.inr ⟨hV, _, f1, (Or.inr ⟨c0, hgc, rfl⟩), hf1v, rfl, Or.inr ⟨c_754, w2, an2, rfl, han2, hw2⟩⟩⟩ dX3_join_84 hlocks
  · skip
    refine lv_bipush (v := (-4)) hx hb dX3_join_7 (by decide +kernel) ?_
    have hVf : sV σ = 400 := by have := of_decide_eq_true c_753; omega
    exact r_iI hx hb hr LB.nil (Nat.zero_le _) (Nat.zero_le _) ⟨A, σ, dw, hC, CFr.rf, Or.inl ⟨hVf, rfl, rfl⟩⟩ dX3_join_9 hlocks
end
section
/-! 14: put, blank, merge (laid by wip/gen/cls14.py) -/
set_option maxHeartbeats 4000000 in
set_option maxRecDepth 100000 in
/-- put_n -/
theorem c_X3_put_n (l : Launch) (D : va_G) (g : Nat → ClassId) (b0 : Nat) (H : Heap) (A : Nat → Nat) (σ : SG) (dw : Nat → Int64) (hC : CR D g b0 A σ dw H) (hbH : b0 ≤ H.size) (bi ti : Int32) (ad : Bool) (hN : BrN σ bi) : Met l yX3_put wsX3_put ({ frames := 5, cells := 4, slots := 470, locals := 133 } : Room) (kPc D g [.ref (A 0), .int (bi), .int (ti), .int (b2i ad)] H) (kI (PubQ D g b0 H A σ (SpPut σ bi ti ad))) 4 470 (kF b0) := by
  refine Met.ofW (cc := cX3_put) (maxL := 5) (ret := (some .int)) (by decide) rfl ?_
  intro p e s m args below meth c s₁ B hml hv
  obtain ⟨rfl, hH, hK⟩ := hv
  have hx := B.exec
  have hb := B.bytes
  have hr := B.returns
  have hts := atoms_spec (ws := wsX3_put) B.pre
  have hown : s.vm.findClass RX3 = some m.cls := findClass_of_methodNamed B.named
  have hlocks := B.notSynchronized
  rw [hH]
  have hl := lv_entry ([.ref (A 0), .int (bi), .int (ti), .int (b2i ad)]) (n := 5) (Nat.le_of_ble_eq_true rfl)
  rw [lg_entry_eq]
  generalize (lg_sl ([.ref (A 0), .int (bi), .int (ti), .int (b2i ad)]) ++ List.replicate (5 - (lg_sl ([.ref (A 0), .int (bi), .int (ti), .int (b2i ad)])).length) Slot.unset).toArray = ls at hl ⊢
  have hl : lv_has ls 5 [(0, .ref (A 0)), (1, .int (bi)), (2, .int (ti)), (3, .int (b2i ad))] := hl
  have hVB := hC.wf
  have hV4 : sV σ ≤ 400 := hVB.2.1
  have hB4 : sB σ ≤ 40 := hVB.2.2.2.1
  refine lv_aload_n hx hb dX3_put_0 rfl (lv_at hl 0 rfl) ?_
  refine lv_iload_n hx hb dX3_put_1 rfl (lv_at hl 1 rfl) ?_
  refine k_callX (va_runV (As := [.int (bi)]) (rest := []) ⟨hx, hb, hml, hown, hts⟩ (c_X3_branchAt_n l D g b0 H A σ dw hC bi hN) (cwV 1 hts gX3_put_X3_branchAt rfl rfl rfl (by decide +kernel) ⟨Nat.le_of_ble_eq_true rfl, Nat.le_of_ble_eq_true rfl⟩) ⟨kPc_blind, k_recv hK hC.o rfl, fun U hU hW => kPc_at hK hU hW⟩ rfl rfl hl.1 rfl (lv_room (Nat.le_of_ble_eq_true rfl)) dX3_put_2 ⟨Nat.le_of_ble_eq_true rfl, Nat.le_of_ble_eq_true rfl⟩) ?_
  refine lv_astoreN (lv' := [(4, .null), (0, .ref (A 0)), (1, .int (bi)), (2, .int (ti)), (3, .int (b2i ad))]) hx hb dX3_put_5 hl (by decide) rfl (fun ls hl => ?_)
  refine lv_aloadN hx hb dX3_put_7 (lv_at hl 0 rfl) ?_
  refine lv_ifnonnullN hx hb dX3_put_9 ?_
  refine lv_iconst (v := (-1)) hx hb dX3_put_12 (by decide +kernel) ?_
  exact r_iI hx hb hr LB.nil (Nat.le_of_ble_eq_true rfl) (Nat.le_of_ble_eq_true rfl) ⟨A, σ, dw, hC, CFr.rf, Or.inl ⟨hN, rfl, rfl⟩⟩ dX3_put_13 hlocks
set_option maxHeartbeats 4000000 in
set_option maxRecDepth 100000 in
/-- put_y -/
theorem c_X3_put_y (l : Launch) (D : va_G) (g : Nat → ClassId) (b0 : Nat) (H : Heap) (A : Nat → Nat) (σ : SG) (dw : Nat → Int64) (hC : CR D g b0 A σ dw H) (hbH : b0 ≤ H.size) (b : Nat) (hb4 : b < sB σ) (ti : Int32) (ad : Bool) : Met l yX3_put wsX3_put ({ frames := 5, cells := 4, slots := 470, locals := 133 } : Room) (kPc D g [.ref (A 0), .int (nI b), .int (ti), .int (b2i ad)] H) (kI (PubQ D g b0 H A σ (SpPut σ (nI b) ti ad))) 4 470 (kF b0) := by
  refine Met.ofW (cc := cX3_put) (maxL := 5) (ret := (some .int)) (by decide) rfl ?_
  intro p e s m args below meth c s₁ B hml hv
  obtain ⟨rfl, hH, hK⟩ := hv
  have hx := B.exec
  have hb := B.bytes
  have hr := B.returns
  have hts := atoms_spec (ws := wsX3_put) B.pre
  have hown : s.vm.findClass RX3 = some m.cls := findClass_of_methodNamed B.named
  have hlocks := B.notSynchronized
  rw [hH]
  have hl := lv_entry ([.ref (A 0), .int (nI b), .int (ti), .int (b2i ad)]) (n := 5) (Nat.le_of_ble_eq_true rfl)
  rw [lg_entry_eq]
  generalize (lg_sl ([.ref (A 0), .int (nI b), .int (ti), .int (b2i ad)]) ++ List.replicate (5 - (lg_sl ([.ref (A 0), .int (nI b), .int (ti), .int (b2i ad)])).length) Slot.unset).toArray = ls at hl ⊢
  have hl : lv_has ls 5 [(0, .ref (A 0)), (1, .int (nI b)), (2, .int (ti)), (3, .int (b2i ad))] := hl
  have hVB := hC.wf
  have hV4 : sV σ ≤ 400 := hVB.2.1
  have hB4 : sB σ ≤ 40 := hVB.2.2.2.1
  have hhd := hVB.2.2.2.2.1 b hb4
  refine lv_aload_n hx hb dX3_put_0 rfl (lv_at hl 0 rfl) ?_
  refine lv_iload_n hx hb dX3_put_1 rfl (lv_at hl 1 rfl) ?_
  refine k_callX (va_runV (As := [.int (nI b)]) (rest := []) ⟨hx, hb, hml, hown, hts⟩ (c_X3_branchAt_y l D g b0 H A σ dw hC b hb4) (cwV 1 hts gX3_put_X3_branchAt rfl rfl rfl (by decide +kernel) ⟨Nat.le_of_ble_eq_true rfl, Nat.le_of_ble_eq_true rfl⟩) ⟨kPc_blind, k_recv hK hC.o rfl, fun U hU hW => kPc_at hK hU hW⟩ rfl rfl hl.1 rfl (lv_room (Nat.le_of_ble_eq_true rfl)) dX3_put_2 ⟨Nat.le_of_ble_eq_true rfl, Nat.le_of_ble_eq_true rfl⟩) ?_
  refine lv_astore (lv' := [(4, .ref (A (2000 + b))), (0, .ref (A 0)), (1, .int (nI b)), (2, .int (ti)), (3, .int (b2i ad))]) hx hb dX3_put_5 hl (by decide) rfl (fun ls hl => ?_)
  refine lv_aload hx hb dX3_put_7 (lv_at hl 0 rfl) ?_
  refine lv_ifnonnull (tgt := 14) hx hb dX3_put_9 (by decide) ?_
  refine lv_iload_n hx hb dX3_put_14 rfl (lv_at hl 3 rfl) ?_
  refine k_callX (va_runS (As := [.int (ti)]) (rest := []) ⟨hx, hb, hml, hown, hts⟩ (c_X3_isTriple l D g H ti) (va_cwS 1 hts gX3_put_X3_isTriple rfl rfl rfl (by decide +kernel) ⟨Nat.le_of_ble_eq_true rfl, Nat.le_of_ble_eq_true rfl⟩) ⟨kPc_blind, fun U hU hW => kPc_at hK hU hW⟩ rfl rfl hl.1 rfl (lv_room (Nat.le_of_ble_eq_true rfl)) dX3_put_15 ⟨Nat.le_of_ble_eq_true rfl, Nat.le_of_ble_eq_true rfl⟩) ?_
  refine z_if_ne (tgt := 24) hx hb dX3_put_18 (by decide) (fun c_755 => ?_) (fun c_755 => ?_)
  · skip
    obtain ⟨t, ht, rfl⟩ := isTb_ex c_755
    refine lv_aload hx hb dX3_put_24 (lv_at hl 0 rfl) ?_
    refine k_getN (ci := 0) (C := RX0) (T := TX0) (N := 1) (v := .ref (A (16 + 4 * (sH σ b)))) hx hb hts (by decide +kernel) hown hK (hC.ba hb4) rfl 0 (by decide) rfl (List.mem_of_getElem? (i := 4) rfl) rfl dX3_put_26 ?_
    refine k_getN (ci := 2) (C := RX2) (T := TX2) (N := 5) (v := .ref (A (17 + 4 * (sH σ b)))) hx hb hts (by decide +kernel) hown hK (hC.ver hhd) rfl 3 (by decide) rfl (List.mem_of_getElem? (i := 3) rfl) rfl dX3_put_29 ?_
    refine lv_iload_n hx hb dX3_put_32 rfl (lv_at hl 3 rfl) ?_
    refine k_callX (va_runVN (As := [.int (nI t)]) (rest := []) ⟨hx, hb, hml, hown, hts⟩ (c_X1_has l D g H (A (17 + 4 * (sH σ b))) (A (18 + 4 * (sH σ b))) (sW σ (sH σ b)) (hC.ts hhd) (hC.tw hhd) t ht) ⟨va_cnB 1 hts gX3_put_X1_has_n61 rfl rfl rfl (hK.2.1 _ (List.mem_of_getElem? (i := 5) rfl)) (hts (.initialized RX1) (by decide +kernel)) (by decide +kernel) ⟨Nat.le_of_ble_eq_true rfl, Nat.le_of_ble_eq_true rfl⟩, hts (.instanceMethod yX1_has) (by decide +kernel), hts (.selects RX1 yX1_has yX1_has) (by decide +kernel)⟩ ⟨kPc_blind, k_recv hK (hC.ts hhd) rfl, fun U hU hW => kPc_at hK hU hW⟩ rfl rfl hl.1 rfl (lv_room (Nat.le_of_ble_eq_true rfl)) dX3_put_33 ⟨Nat.le_of_ble_eq_true rfl, Nat.le_of_ble_eq_true rfl⟩) ?_
    refine lv_iload_n hx hb dX3_put_36 rfl (lv_at hl 4 rfl) ?_
    refine z_icmp_ne (tgt := 43) hx hb dX3_put_37 (by decide) (fun c_756 => ?_) (fun c_756 => ?_)
    · skip
      refine lv_aload_n hx hb dX3_put_43 rfl (lv_at hl 1 rfl) ?_
      refine k_get (ci := 3) (C := RX3) (T := TX3) (N := 7) (v := .ref (A 7)) hx hb hts (by decide +kernel) hown hK hC.o rfl 6 (by decide) rfl (hts (.fieldLink RX3 31 RX3 "draft" "LVersionMerge$TripleSet;") (by decide +kernel)) rfl dX3_put_44 ?_
      refine lv_aload hx hb dX3_put_47 (lv_at hl 0 rfl) ?_
      refine k_getN (ci := 0) (C := RX0) (T := TX0) (N := 1) (v := .ref (A (16 + 4 * (sH σ b)))) hx hb hts (by decide +kernel) hown hK (hC.ba hb4) rfl 0 (by decide) rfl (List.mem_of_getElem? (i := 4) rfl) rfl dX3_put_49 ?_
      refine k_getN (ci := 2) (C := RX2) (T := TX2) (N := 5) (v := .ref (A (17 + 4 * (sH σ b)))) hx hb hts (by decide +kernel) hown hK (hC.ver hhd) rfl 3 (by decide) rfl (List.mem_of_getElem? (i := 3) rfl) rfl dX3_put_52 ?_
      refine k_callU (va_runVN (As := [.ref (A (17 + 4 * (sH σ b)))]) (rest := []) ⟨hx, hb, hml, hown, hts⟩ (c_X1_becomeCopy l D g b0 H (A 7) (A 8) dw hC.dr hC.drw (hC.ge (cl0 (by omega))) (A (17 + 4 * (sH σ b))) (A (18 + 4 * (sH σ b))) (sW σ (sH σ b)) (hC.ts hhd) (hC.tw hhd) (hC.ge (clV (sH σ b) hhd (by omega) (by omega))) (hC.ne (clV (sH σ b) hhd (by omega) (by omega)) (cl0 (by omega)) (by omega))) ⟨va_cnB 1 hts gX3_put_X1_becomeCopy_n64 rfl rfl rfl (hK.2.1 _ (List.mem_of_getElem? (i := 7) rfl)) (hts (.initialized RX1) (by decide +kernel)) (by decide +kernel) ⟨Nat.le_of_ble_eq_true rfl, Nat.le_of_ble_eq_true rfl⟩, hts (.instanceMethod yX1_becomeCopy) (by decide +kernel), hts (.selects RX1 yX1_becomeCopy yX1_becomeCopy) (by decide +kernel)⟩ ⟨kPc_blind, k_recv hK hC.dr rfl, fun U hU hW => kPc_at hK hU hW⟩ rfl rfl hl.1 rfl (lv_room (Nat.le_of_ble_eq_true rfl)) dX3_put_55 ⟨Nat.le_of_ble_eq_true rfl, Nat.le_of_ble_eq_true rfl⟩) LB.nil (fun H1 locs1 hLB1 hq1 => ?_)
      obtain ⟨f1, hw1, hCh1, hf1v⟩ := hq1
      have hC1 := hC.draft hw1 hCh1
      have hbH1 : b0 ≤ H1.size := Nat.le_trans hbH hCh1.1
      have hF1 : CFr H A σ H1 A σ := CFr.chg (cl0 (by omega)) hCh1 (fun c hc => hc)
      refine lv_aload_n hx hb dX3_put_58 rfl (lv_at hl 1 rfl) ?_
      refine k_get (ci := 3) (C := RX3) (T := TX3) (N := 7) (v := .ref (A 7)) hx hb hts (by decide +kernel) hown hK hC1.o rfl 6 (by decide) rfl (hts (.fieldLink RX3 31 RX3 "draft" "LVersionMerge$TripleSet;") (by decide +kernel)) rfl dX3_put_59 ?_
      refine lv_iload_n hx hb dX3_put_62 rfl (lv_at hl 3 rfl) ?_
      refine lv_iload_n hx hb dX3_put_63 rfl (lv_at hl 4 rfl) ?_
      refine k_callU (va_runVN (As := [.int (nI t), .int (b2i ad)]) (rest := []) ⟨hx, hb, hml, hown, hts⟩ (c_X1_change l D g b0 H1 (A 7) (A 8) f1 hC1.dr hC1.drw (hC1.ge (cl0 (by omega))) t ht ad) ⟨va_cnB 2 hts gX3_put_X1_change_n68 rfl rfl rfl (hK.2.1 _ (List.mem_of_getElem? (i := 8) rfl)) (hts (.initialized RX1) (by decide +kernel)) (by decide +kernel) ⟨Nat.le_of_ble_eq_true rfl, Nat.le_of_ble_eq_true rfl⟩, hts (.instanceMethod yX1_change) (by decide +kernel), hts (.selects RX1 yX1_change yX1_change) (by decide +kernel)⟩ ⟨kPc_blind, k_recv hK hC1.dr rfl, fun U hU hW => kPc_at hK hU hW⟩ rfl rfl hl.1 rfl (lv_room (Nat.le_of_ble_eq_true rfl)) dX3_put_64 ⟨Nat.le_of_ble_eq_true rfl, Nat.le_of_ble_eq_true rfl⟩) hLB1 (fun H2 locs2 hLB2 hq2 => ?_)
      obtain ⟨f2, hw2, hCh2, hf2v⟩ := hq2
      have hC2 := hC1.draft hw2 hCh2
      have hbH2 : b0 ≤ H2.size := Nat.le_trans hbH1 hCh2.1
      have hF2 : CFr H A σ H2 A σ := hF1.tr (CFr.chg (cl0 (by omega)) hCh2 (fun c hc => hc))
      refine lv_aload_n hx hb dX3_put_67 rfl (lv_at hl 1 rfl) ?_
      refine lv_aload hx hb dX3_put_68 (lv_at hl 0 rfl) ?_
      refine lv_null hx hb dX3_put_70 ?_
      refine lv_aload_n hx hb dX3_put_71 rfl (lv_at hl 1 rfl) ?_
      refine k_get (ci := 3) (C := RX3) (T := TX3) (N := 7) (v := .ref (A 7)) hx hb hts (by decide +kernel) hown hK hC2.o rfl 6 (by decide) rfl (hts (.fieldLink RX3 31 RX3 "draft" "LVersionMerge$TripleSet;") (by decide +kernel)) rfl dX3_put_72 ?_
      by_cases hV : sV σ < 400
      · skip
        refine k_callI (va_runV (As := [.ref (A (2000 + b)), .null, .ref (A 7)]) (rest := []) ⟨hx, hb, hml, hown, hts⟩ (c_X3_advance_0 l D g b0 H2 A σ f2 hC2 7 f2 (cl0 (by omega)) (cl0 (by omega)) hC2.dr hC2.drw hbH2 hV b hb4) (cwV 3 hts gX3_put_X3_advance rfl rfl rfl (by decide +kernel) ⟨Nat.le_of_ble_eq_true rfl, Nat.le_of_ble_eq_true rfl⟩) ⟨kPc_blind, k_recv hK hC2.o rfl, fun U hU hW => kPc_at hK hU hW⟩ rfl rfl hl.1 rfl (lv_room (Nat.le_of_ble_eq_true rfl)) dX3_put_75 ⟨Nat.le_of_ble_eq_true rfl, Nat.le_of_ble_eq_true rfl⟩) hLB2 (fun ra Hz locsz hLBz hqz => ?_)
        refine W.widen (k := 4) (n := 470) (Nat.le_of_ble_eq_true rfl) (Nat.le_of_ble_eq_true rfl) ?_
        obtain ⟨hra, Az, wz, anz, hCz, hFz, hwz, hanz⟩ := hqz
        exact r_iI hx hb hr hLBz (Nat.le_of_ble_eq_true rfl) (Nat.le_of_ble_eq_true rfl) ⟨Az, _, f2, hCz, (hF2.tr hFz), Or.inr ⟨b, hb4, rfl, Or.inr ⟨t, ht, rfl, Or.inr ⟨c_756, Or.inr ⟨hV, hra, wz, anz, rfl, hanz, fun u hu => by rw [bt_eq hwz hu, hf2v u, bt_eq hf1v hu]⟩⟩⟩⟩⟩ dX3_put_78 hlocks
      · skip
        refine k_callX (va_runV (As := [.ref (A (2000 + b)), .null, .ref (A 7)]) (rest := []) ⟨hx, hb, hml, hown, hts⟩ (c_X3_advance_full_0 l D g b0 H2 A σ f2 hC2 hV b hb4 7) (cwV 3 hts gX3_put_X3_advance rfl rfl rfl (by decide +kernel) ⟨Nat.le_of_ble_eq_true rfl, Nat.le_of_ble_eq_true rfl⟩) ⟨kPc_blind, k_recv hK hC2.o rfl, fun U hU hW => kPc_at hK hU hW⟩ rfl rfl hl.1 rfl (lv_room (Nat.le_of_ble_eq_true rfl)) dX3_put_75 ⟨Nat.le_of_ble_eq_true rfl, Nat.le_of_ble_eq_true rfl⟩) ?_
        have hVf : sV σ = 400 := by omega
        exact r_iI hx hb hr hLB2 (Nat.le_of_ble_eq_true rfl) (Nat.le_of_ble_eq_true rfl) ⟨A, σ, f2, hC2, hF2, Or.inr ⟨b, hb4, rfl, Or.inr ⟨t, ht, rfl, Or.inr ⟨c_756, Or.inl ⟨hVf, rfl, rfl⟩⟩⟩⟩⟩ dX3_put_78 hlocks
    · skip
      refine lv_bipush (v := (-3)) hx hb dX3_put_40 (by decide +kernel) ?_
      exact r_iI hx hb hr LB.nil (Nat.le_of_ble_eq_true rfl) (Nat.le_of_ble_eq_true rfl) ⟨A, σ, dw, hC, CFr.rf, Or.inr ⟨b, hb4, rfl, Or.inr ⟨t, ht, rfl, Or.inl ⟨c_756, by decide +kernel, rfl⟩⟩⟩⟩ dX3_put_42 hlocks
  · skip
    refine lv_bipush (v := (-2)) hx hb dX3_put_21 (by decide +kernel) ?_
    exact r_iI hx hb hr LB.nil (Nat.le_of_ble_eq_true rfl) (Nat.le_of_ble_eq_true rfl) ⟨A, σ, dw, hC, CFr.rf, Or.inr ⟨b, hb4, rfl, Or.inl ⟨c_755, by decide +kernel, rfl⟩⟩⟩ dX3_put_23 hlocks
theorem c_X3_put (l : Launch) (D : va_G) (g : Nat → ClassId) (b0 : Nat) (H : Heap) (A : Nat → Nat) (σ : SG) (dw : Nat → Int64) (hC : CR D g b0 A σ dw H) (hbH : b0 ≤ H.size) (bi ti : Int32) (ad : Bool) : Met l yX3_put wsX3_put ({ frames := 5, cells := 4, slots := 470, locals := 133 } : Room) (kPc D g [.ref (A 0), .int bi, .int ti, .int (b2i ad)] H) (kI (PubQ D g b0 H A σ (SpPut σ bi ti ad))) 4 470 (kF b0) := by
  rcases br_dec σ bi with h | ⟨b, hb4, rfl⟩
  · exact c_X3_put_n l D g b0 H A σ dw hC hbH bi ti ad h
  · exact c_X3_put_y l D g b0 H A σ dw hC hbH b hb4 ti ad
set_option maxHeartbeats 4000000 in
set_option maxRecDepth 100000 in
/-- blank_n -/
theorem c_X3_blank_n (l : Launch) (D : va_G) (g : Nat → ClassId) (b0 : Nat) (H : Heap) (A : Nat → Nat) (σ : SG) (dw : Nat → Int64) (hC : CR D g b0 A σ dw H) (hbH : b0 ≤ H.size) (bi pi oi : Int32) (hN : BrN σ bi) : Met l yX3_blank wsX3_blank ({ frames := 5, cells := 4, slots := 470, locals := 133 } : Room) (kPc D g [.ref (A 0), .int (bi), .int (pi), .int (oi)] H) (kI (PubQ D g b0 H A σ (SpBlank σ bi pi oi))) 4 470 (kF b0) := by
  refine Met.ofW (cc := cX3_blank) (maxL := 6) (ret := (some .int)) (by decide) rfl ?_
  intro p e s m args below meth c s₁ B hml hv
  obtain ⟨rfl, hH, hK⟩ := hv
  have hx := B.exec
  have hb := B.bytes
  have hr := B.returns
  have hts := atoms_spec (ws := wsX3_blank) B.pre
  have hown : s.vm.findClass RX3 = some m.cls := findClass_of_methodNamed B.named
  have hlocks := B.notSynchronized
  rw [hH]
  have hl := lv_entry ([.ref (A 0), .int (bi), .int (pi), .int (oi)]) (n := 6) (Nat.le_of_ble_eq_true rfl)
  rw [lg_entry_eq]
  generalize (lg_sl ([.ref (A 0), .int (bi), .int (pi), .int (oi)]) ++ List.replicate (6 - (lg_sl ([.ref (A 0), .int (bi), .int (pi), .int (oi)])).length) Slot.unset).toArray = ls at hl ⊢
  have hl : lv_has ls 6 [(0, .ref (A 0)), (1, .int (bi)), (2, .int (pi)), (3, .int (oi))] := hl
  have hVB := hC.wf
  have hV4 : sV σ ≤ 400 := hVB.2.1
  have hB4 : sB σ ≤ 40 := hVB.2.2.2.1
  refine lv_aload_n hx hb dX3_blank_0 rfl (lv_at hl 0 rfl) ?_
  refine lv_iload_n hx hb dX3_blank_1 rfl (lv_at hl 1 rfl) ?_
  refine k_callX (va_runV (As := [.int (bi)]) (rest := []) ⟨hx, hb, hml, hown, hts⟩ (c_X3_branchAt_n l D g b0 H A σ dw hC bi hN) (cwV 1 hts gX3_blank_X3_branchAt rfl rfl rfl (by decide +kernel) ⟨Nat.le_of_ble_eq_true rfl, Nat.le_of_ble_eq_true rfl⟩) ⟨kPc_blind, k_recv hK hC.o rfl, fun U hU hW => kPc_at hK hU hW⟩ rfl rfl hl.1 rfl (lv_room (Nat.le_of_ble_eq_true rfl)) dX3_blank_2 ⟨Nat.le_of_ble_eq_true rfl, Nat.le_of_ble_eq_true rfl⟩) ?_
  refine lv_astoreN (lv' := [(4, .null), (0, .ref (A 0)), (1, .int (bi)), (2, .int (pi)), (3, .int (oi))]) hx hb dX3_blank_5 hl (by decide) rfl (fun ls hl => ?_)
  refine lv_aloadN hx hb dX3_blank_7 (lv_at hl 0 rfl) ?_
  refine lv_ifnonnullN hx hb dX3_blank_9 ?_
  refine lv_iconst (v := (-1)) hx hb dX3_blank_12 (by decide +kernel) ?_
  exact r_iI hx hb hr LB.nil (Nat.le_of_ble_eq_true rfl) (Nat.le_of_ble_eq_true rfl) ⟨A, σ, dw, hC, CFr.rf, Or.inl ⟨hN, rfl, rfl⟩⟩ dX3_blank_13 hlocks
set_option maxHeartbeats 4000000 in
set_option maxRecDepth 100000 in
/-- blank_y -/
theorem c_X3_blank_y (l : Launch) (D : va_G) (g : Nat → ClassId) (b0 : Nat) (H : Heap) (A : Nat → Nat) (σ : SG) (dw : Nat → Int64) (hC : CR D g b0 A σ dw H) (hbH : b0 ≤ H.size) (b : Nat) (hb4 : b < sB σ) (pi oi : Int32) : Met l yX3_blank wsX3_blank ({ frames := 5, cells := 4, slots := 470, locals := 133 } : Room) (kPc D g [.ref (A 0), .int (nI b), .int (pi), .int (oi)] H) (kI (PubQ D g b0 H A σ (SpBlank σ (nI b) pi oi))) 4 470 (kF b0) := by
  refine Met.ofW (cc := cX3_blank) (maxL := 6) (ret := (some .int)) (by decide) rfl ?_
  intro p e s m args below meth c s₁ B hml hv
  obtain ⟨rfl, hH, hK⟩ := hv
  have hx := B.exec
  have hb := B.bytes
  have hr := B.returns
  have hts := atoms_spec (ws := wsX3_blank) B.pre
  have hown : s.vm.findClass RX3 = some m.cls := findClass_of_methodNamed B.named
  have hlocks := B.notSynchronized
  rw [hH]
  have hl := lv_entry ([.ref (A 0), .int (nI b), .int (pi), .int (oi)]) (n := 6) (Nat.le_of_ble_eq_true rfl)
  rw [lg_entry_eq]
  generalize (lg_sl ([.ref (A 0), .int (nI b), .int (pi), .int (oi)]) ++ List.replicate (6 - (lg_sl ([.ref (A 0), .int (nI b), .int (pi), .int (oi)])).length) Slot.unset).toArray = ls at hl ⊢
  have hl : lv_has ls 6 [(0, .ref (A 0)), (1, .int (nI b)), (2, .int (pi)), (3, .int (oi))] := hl
  have hVB := hC.wf
  have hV4 : sV σ ≤ 400 := hVB.2.1
  have hB4 : sB σ ≤ 40 := hVB.2.2.2.1
  have hhd := hVB.2.2.2.2.1 b hb4
  have mdec : ∀ q : Nat, ∃ bb : Bool, bb = true ↔ Ment (sW σ (sH σ b)) q := fun q => by
    by_cases z : Ment (sW σ (sH σ b)) q
    · exact ⟨true, ⟨fun _ => z, fun _ => rfl⟩⟩
    · exact ⟨false, ⟨fun y => (by cases y), fun y => absurd y z⟩⟩
  refine lv_aload_n hx hb dX3_blank_0 rfl (lv_at hl 0 rfl) ?_
  refine lv_iload_n hx hb dX3_blank_1 rfl (lv_at hl 1 rfl) ?_
  refine k_callX (va_runV (As := [.int (nI b)]) (rest := []) ⟨hx, hb, hml, hown, hts⟩ (c_X3_branchAt_y l D g b0 H A σ dw hC b hb4) (cwV 1 hts gX3_blank_X3_branchAt rfl rfl rfl (by decide +kernel) ⟨Nat.le_of_ble_eq_true rfl, Nat.le_of_ble_eq_true rfl⟩) ⟨kPc_blind, k_recv hK hC.o rfl, fun U hU hW => kPc_at hK hU hW⟩ rfl rfl hl.1 rfl (lv_room (Nat.le_of_ble_eq_true rfl)) dX3_blank_2 ⟨Nat.le_of_ble_eq_true rfl, Nat.le_of_ble_eq_true rfl⟩) ?_
  refine lv_astore (lv' := [(4, .ref (A (2000 + b))), (0, .ref (A 0)), (1, .int (nI b)), (2, .int (pi)), (3, .int (oi))]) hx hb dX3_blank_5 hl (by decide) rfl (fun ls hl => ?_)
  refine lv_aload hx hb dX3_blank_7 (lv_at hl 0 rfl) ?_
  refine lv_ifnonnull (tgt := 14) hx hb dX3_blank_9 (by decide) ?_
  refine lv_iload_n hx hb dX3_blank_14 rfl (lv_at hl 3 rfl) ?_
  refine k_callX (va_runS (As := [.int (pi)]) (rest := []) ⟨hx, hb, hml, hown, hts⟩ (c_X3_isBlank l D g H pi) (va_cwS 1 hts gX3_blank_X3_isBlank rfl rfl rfl (by decide +kernel) ⟨Nat.le_of_ble_eq_true rfl, Nat.le_of_ble_eq_true rfl⟩) ⟨kPc_blind, fun U hU hW => kPc_at hK hU hW⟩ rfl rfl hl.1 rfl (lv_room (Nat.le_of_ble_eq_true rfl)) dX3_blank_15 ⟨Nat.le_of_ble_eq_true rfl, Nat.le_of_ble_eq_true rfl⟩) ?_
  refine z_if_eq (tgt := 28) hx hb dX3_blank_18 (by decide) (fun c_757 => ?_) (fun c_757 => ?_)
  · skip
    refine lv_bipush (v := (-2)) hx hb dX3_blank_28 (by decide +kernel) ?_
    exact r_iI hx hb hr LB.nil (Nat.le_of_ble_eq_true rfl) (Nat.le_of_ble_eq_true rfl) ⟨A, σ, dw, hC, CFr.rf, Or.inr ⟨b, hb4, rfl, Or.inl ⟨Or.inl c_757, by decide +kernel, rfl⟩⟩⟩ dX3_blank_30 hlocks
  · skip
    refine lv_iload_n hx hb dX3_blank_21 rfl (lv_at hl 4 rfl) ?_
    refine k_callX (va_runS (As := [.int (oi)]) (rest := []) ⟨hx, hb, hml, hown, hts⟩ (c_X3_isBlank l D g H oi) (va_cwS 1 hts gX3_blank_X3_isBlank rfl rfl rfl (by decide +kernel) ⟨Nat.le_of_ble_eq_true rfl, Nat.le_of_ble_eq_true rfl⟩) ⟨kPc_blind, fun U hU hW => kPc_at hK hU hW⟩ rfl rfl hl.1 rfl (lv_room (Nat.le_of_ble_eq_true rfl)) dX3_blank_22 ⟨Nat.le_of_ble_eq_true rfl, Nat.le_of_ble_eq_true rfl⟩) ?_
    refine z_if_ne (tgt := 31) hx hb dX3_blank_25 (by decide) (fun c_758 => ?_) (fun c_758 => ?_)
    · skip
      obtain ⟨q, hq, rfl⟩ := isBb_ex c_757
      obtain ⟨o, ho, rfl⟩ := isBb_ex c_758
      obtain ⟨m1, hm1⟩ := mdec q
      obtain ⟨m2, hm2⟩ := mdec o
      refine lv_aload hx hb dX3_blank_31 (lv_at hl 0 rfl) ?_
      refine k_getN (ci := 0) (C := RX0) (T := TX0) (N := 1) (v := .ref (A (16 + 4 * (sH σ b)))) hx hb hts (by decide +kernel) hown hK (hC.ba hb4) rfl 0 (by decide) rfl (List.mem_of_getElem? (i := 4) rfl) rfl dX3_blank_33 ?_
      refine k_getN (ci := 2) (C := RX2) (T := TX2) (N := 5) (v := .ref (A (17 + 4 * (sH σ b)))) hx hb hts (by decide +kernel) hown hK (hC.ver hhd) rfl 3 (by decide) rfl (List.mem_of_getElem? (i := 3) rfl) rfl dX3_blank_36 ?_
      refine lv_astore (lv' := [(5, .ref (A (17 + 4 * (sH σ b)))), (4, .ref (A (2000 + b))), (0, .ref (A 0)), (1, .int (nI b)), (2, .int (nI q)), (3, .int (nI o))]) hx hb dX3_blank_39 hl (by decide) rfl (fun ls hl => ?_)
      refine lv_iload_n hx hb dX3_blank_41 rfl (lv_at hl 4 rfl) ?_
      refine lv_iload_n hx hb dX3_blank_42 rfl (lv_at hl 5 rfl) ?_
      refine n_icmp_eq (tgt := 64) hx hb dX3_blank_43 (by decide) (by omega) (by omega) (fun c_759 => ?_) (fun c_759 => ?_)
      · skip
        refine lv_bipush (v := (-3)) hx hb dX3_blank_64 (by decide +kernel) ?_
        exact r_iI hx hb hr LB.nil (Nat.le_of_ble_eq_true rfl) (Nat.le_of_ble_eq_true rfl) ⟨A, σ, dw, hC, CFr.rf, Or.inr ⟨b, hb4, rfl, Or.inr ⟨q, o, hq, ho, rfl, rfl, Or.inl ⟨Or.inl c_759, by decide +kernel, rfl⟩⟩⟩⟩ dX3_blank_66 hlocks
      · skip
        refine lv_aload hx hb dX3_blank_46 (lv_at hl 0 rfl) ?_
        refine lv_iload_n hx hb dX3_blank_48 rfl (lv_at hl 4 rfl) ?_
        refine k_callX (va_runVN (As := [.int (nI q)]) (rest := []) ⟨hx, hb, hml, hown, hts⟩ (c_X1_mentions l D g H (A (17 + 4 * (sH σ b))) (A (18 + 4 * (sH σ b))) (sW σ (sH σ b)) (hC.ts hhd) (hC.tw hhd) q (by omega) m1 hm1) ⟨va_cnB 1 hts gX3_blank_X1_mentions_n79 rfl rfl rfl (hK.2.1 _ (List.mem_of_getElem? (i := 9) rfl)) (hts (.initialized RX1) (by decide +kernel)) (by decide +kernel) ⟨Nat.le_of_ble_eq_true rfl, Nat.le_of_ble_eq_true rfl⟩, hts (.instanceMethod yX1_mentions) (by decide +kernel), hts (.selects RX1 yX1_mentions yX1_mentions) (by decide +kernel)⟩ ⟨kPc_blind, k_recv hK (hC.ts hhd) rfl, fun U hU hW => kPc_at hK hU hW⟩ rfl rfl hl.1 rfl (lv_room (Nat.le_of_ble_eq_true rfl)) dX3_blank_49 ⟨Nat.le_of_ble_eq_true rfl, Nat.le_of_ble_eq_true rfl⟩) ?_
        refine z_if_eq (tgt := 64) hx hb dX3_blank_52 (by decide) (fun c_760 => ?_) (fun c_760 => ?_)
        · skip
          refine lv_bipush (v := (-3)) hx hb dX3_blank_64 (by decide +kernel) ?_
          exact r_iI hx hb hr LB.nil (Nat.le_of_ble_eq_true rfl) (Nat.le_of_ble_eq_true rfl) ⟨A, σ, dw, hC, CFr.rf, Or.inr ⟨b, hb4, rfl, Or.inr ⟨q, o, hq, ho, rfl, rfl, Or.inl ⟨Or.inr (Or.inl (fun z => by rw [hm1.mpr z] at c_760; cases c_760)), by decide +kernel, rfl⟩⟩⟩⟩ dX3_blank_66 hlocks
        · skip
          refine lv_aload hx hb dX3_blank_55 (lv_at hl 0 rfl) ?_
          refine lv_iload_n hx hb dX3_blank_57 rfl (lv_at hl 5 rfl) ?_
          refine k_callX (va_runVN (As := [.int (nI o)]) (rest := []) ⟨hx, hb, hml, hown, hts⟩ (c_X1_mentions l D g H (A (17 + 4 * (sH σ b))) (A (18 + 4 * (sH σ b))) (sW σ (sH σ b)) (hC.ts hhd) (hC.tw hhd) o (by omega) m2 hm2) ⟨va_cnB 1 hts gX3_blank_X1_mentions_n79 rfl rfl rfl (hK.2.1 _ (List.mem_of_getElem? (i := 9) rfl)) (hts (.initialized RX1) (by decide +kernel)) (by decide +kernel) ⟨Nat.le_of_ble_eq_true rfl, Nat.le_of_ble_eq_true rfl⟩, hts (.instanceMethod yX1_mentions) (by decide +kernel), hts (.selects RX1 yX1_mentions yX1_mentions) (by decide +kernel)⟩ ⟨kPc_blind, k_recv hK (hC.ts hhd) rfl, fun U hU hW => kPc_at hK hU hW⟩ rfl rfl hl.1 rfl (lv_room (Nat.le_of_ble_eq_true rfl)) dX3_blank_58 ⟨Nat.le_of_ble_eq_true rfl, Nat.le_of_ble_eq_true rfl⟩) ?_
          refine z_if_eq (tgt := 67) hx hb dX3_blank_61 (by decide) (fun c_761 => ?_) (fun c_761 => ?_)
          · skip
            refine lv_aload_n hx hb dX3_blank_67 rfl (lv_at hl 2 rfl) ?_
            refine k_get (ci := 3) (C := RX3) (T := TX3) (N := 7) (v := .ref (A 7)) hx hb hts (by decide +kernel) hown hK hC.o rfl 6 (by decide) rfl (hts (.fieldLink RX3 31 RX3 "draft" "LVersionMerge$TripleSet;") (by decide +kernel)) rfl dX3_blank_68 ?_
            refine lv_aload hx hb dX3_blank_71 (lv_at hl 0 rfl) ?_
            refine lv_iload_n hx hb dX3_blank_73 rfl (lv_at hl 4 rfl) ?_
            refine lv_iload_n hx hb dX3_blank_74 rfl (lv_at hl 5 rfl) ?_
            refine k_callU (va_runVN (As := [.ref (A (17 + 4 * (sH σ b))), .int (nI q), .int (nI o)]) (rest := []) ⟨hx, hb, hml, hown, hts⟩ (c_X1_becomeRenamed l D g b0 H (A 7) (A 8) dw hC.dr hC.drw (hC.ge (cl0 (by omega))) (hC.ne (cl0 (by omega)) (cl0 (by omega)) (by omega)) (A (17 + 4 * (sH σ b))) (A (18 + 4 * (sH σ b))) (sW σ (sH σ b)) (hC.ts hhd) (hC.tw hhd) (hC.ne (clV (sH σ b) hhd (by omega) (by omega)) (cl0 (by omega)) (by omega)) (hC.ne (clV (sH σ b) hhd (by omega) (by omega)) (cl0 (by omega)) (by omega)) q o (by omega) (by omega)) ⟨va_cnB 3 hts gX3_blank_X1_becomeRenamed_n82 rfl rfl rfl (hK.2.1 _ (List.mem_of_getElem? (i := 10) rfl)) (hts (.initialized RX1) (by decide +kernel)) (by decide +kernel) ⟨Nat.le_of_ble_eq_true rfl, Nat.le_of_ble_eq_true rfl⟩, hts (.instanceMethod yX1_becomeRenamed) (by decide +kernel), hts (.selects RX1 yX1_becomeRenamed yX1_becomeRenamed) (by decide +kernel)⟩ ⟨kPc_blind, k_recv hK hC.dr rfl, fun U hU hW => kPc_at hK hU hW⟩ rfl rfl hl.1 rfl (lv_room (Nat.le_of_ble_eq_true rfl)) dX3_blank_75 ⟨Nat.le_of_ble_eq_true rfl, Nat.le_of_ble_eq_true rfl⟩) LB.nil (fun H1 locs1 hLB1 hq1 => ?_)
            obtain ⟨f1, hw1, hCh1, hf1v⟩ := hq1
            have hC1 := hC.draft hw1 hCh1
            have hbH1 : b0 ≤ H1.size := Nat.le_trans hbH hCh1.1
            have hF1 : CFr H A σ H1 A σ := CFr.chg (cl0 (by omega)) hCh1 (fun c hc => hc)
            refine lv_aload_n hx hb dX3_blank_78 rfl (lv_at hl 2 rfl) ?_
            refine lv_aload hx hb dX3_blank_79 (lv_at hl 1 rfl) ?_
            refine lv_null hx hb dX3_blank_81 ?_
            refine lv_aload_n hx hb dX3_blank_82 rfl (lv_at hl 2 rfl) ?_
            refine k_get (ci := 3) (C := RX3) (T := TX3) (N := 7) (v := .ref (A 7)) hx hb hts (by decide +kernel) hown hK hC1.o rfl 6 (by decide) rfl (hts (.fieldLink RX3 31 RX3 "draft" "LVersionMerge$TripleSet;") (by decide +kernel)) rfl dX3_blank_83 ?_
            by_cases hV : sV σ < 400
            · skip
              refine k_callI (va_runV (As := [.ref (A (2000 + b)), .null, .ref (A 7)]) (rest := []) ⟨hx, hb, hml, hown, hts⟩ (c_X3_advance_0 l D g b0 H1 A σ f1 hC1 7 f1 (cl0 (by omega)) (cl0 (by omega)) hC1.dr hC1.drw hbH1 hV b hb4) (cwV 3 hts gX3_blank_X3_advance rfl rfl rfl (by decide +kernel) ⟨Nat.le_of_ble_eq_true rfl, Nat.le_of_ble_eq_true rfl⟩) ⟨kPc_blind, k_recv hK hC1.o rfl, fun U hU hW => kPc_at hK hU hW⟩ rfl rfl hl.1 rfl (lv_room (Nat.le_of_ble_eq_true rfl)) dX3_blank_86 ⟨Nat.le_of_ble_eq_true rfl, Nat.le_of_ble_eq_true rfl⟩) hLB1 (fun ra Hz locsz hLBz hqz => ?_)
              refine W.widen (k := 4) (n := 470) (Nat.le_of_ble_eq_true rfl) (Nat.le_of_ble_eq_true rfl) ?_
              obtain ⟨hra, Az, wz, anz, hCz, hFz, hwz, hanz⟩ := hqz
              exact r_iI hx hb hr hLBz (Nat.le_of_ble_eq_true rfl) (Nat.le_of_ble_eq_true rfl) ⟨Az, _, f1, hCz, (hF1.tr hFz), Or.inr ⟨b, hb4, rfl, Or.inr ⟨q, o, hq, ho, rfl, rfl, Or.inr ⟨c_759, hm1.mp c_760, fun z => (by rw [hm2.mpr z] at c_761; cases c_761), Or.inr ⟨hV, hra, wz, anz, rfl, hanz, fun u hu => by rw [bt_eq hwz hu]; exact hf1v u hu⟩⟩⟩⟩⟩ dX3_blank_89 hlocks
            · skip
              refine k_callX (va_runV (As := [.ref (A (2000 + b)), .null, .ref (A 7)]) (rest := []) ⟨hx, hb, hml, hown, hts⟩ (c_X3_advance_full_0 l D g b0 H1 A σ f1 hC1 hV b hb4 7) (cwV 3 hts gX3_blank_X3_advance rfl rfl rfl (by decide +kernel) ⟨Nat.le_of_ble_eq_true rfl, Nat.le_of_ble_eq_true rfl⟩) ⟨kPc_blind, k_recv hK hC1.o rfl, fun U hU hW => kPc_at hK hU hW⟩ rfl rfl hl.1 rfl (lv_room (Nat.le_of_ble_eq_true rfl)) dX3_blank_86 ⟨Nat.le_of_ble_eq_true rfl, Nat.le_of_ble_eq_true rfl⟩) ?_
              have hVf : sV σ = 400 := by omega
              exact r_iI hx hb hr hLB1 (Nat.le_of_ble_eq_true rfl) (Nat.le_of_ble_eq_true rfl) ⟨A, σ, f1, hC1, hF1, Or.inr ⟨b, hb4, rfl, Or.inr ⟨q, o, hq, ho, rfl, rfl, Or.inr ⟨c_759, hm1.mp c_760, fun z => (by rw [hm2.mpr z] at c_761; cases c_761), Or.inl ⟨hVf, rfl, rfl⟩⟩⟩⟩⟩ dX3_blank_89 hlocks
          · skip
            refine lv_bipush (v := (-3)) hx hb dX3_blank_64 (by decide +kernel) ?_
            exact r_iI hx hb hr LB.nil (Nat.le_of_ble_eq_true rfl) (Nat.le_of_ble_eq_true rfl) ⟨A, σ, dw, hC, CFr.rf, Or.inr ⟨b, hb4, rfl, Or.inr ⟨q, o, hq, ho, rfl, rfl, Or.inl ⟨Or.inr (Or.inr (hm2.mp c_761)), by decide +kernel, rfl⟩⟩⟩⟩ dX3_blank_66 hlocks
    · skip
      refine lv_bipush (v := (-2)) hx hb dX3_blank_28 (by decide +kernel) ?_
      exact r_iI hx hb hr LB.nil (Nat.le_of_ble_eq_true rfl) (Nat.le_of_ble_eq_true rfl) ⟨A, σ, dw, hC, CFr.rf, Or.inr ⟨b, hb4, rfl, Or.inl ⟨Or.inr c_758, by decide +kernel, rfl⟩⟩⟩ dX3_blank_30 hlocks
theorem c_X3_blank (l : Launch) (D : va_G) (g : Nat → ClassId) (b0 : Nat) (H : Heap) (A : Nat → Nat) (σ : SG) (dw : Nat → Int64) (hC : CR D g b0 A σ dw H) (hbH : b0 ≤ H.size) (bi pi oi : Int32) : Met l yX3_blank wsX3_blank ({ frames := 5, cells := 4, slots := 470, locals := 133 } : Room) (kPc D g [.ref (A 0), .int bi, .int pi, .int oi] H) (kI (PubQ D g b0 H A σ (SpBlank σ bi pi oi))) 4 470 (kF b0) := by
  rcases br_dec σ bi with h | ⟨b, hb4, rfl⟩
  · exact c_X3_blank_n l D g b0 H A σ dw hC hbH bi pi oi h
  · exact c_X3_blank_y l D g b0 H A σ dw hC hbH b hb4 pi oi
set_option maxHeartbeats 4000000 in
set_option maxRecDepth 100000 in
/-- merge_n1 -/
theorem c_X3_merge_n1 (l : Launch) (D : va_G) (g : Nat → ClassId) (b0 : Nat) (H : Heap) (A : Nat → Nat) (σ : SG) (dw : Nat → Int64) (hC : CR D g b0 A σ dw H) (hbH : b0 ≤ H.size) (ai bi : Int32) (hN : BrN σ ai) : Met l yX3_merge wsX3_merge ({ frames := 6, cells := 4, slots := 470, locals := 158 } : Room) (kPc D g [.ref (A 0), .int (ai), .int (bi)] H) (kI (PubQ D g b0 H A σ (SpMerge σ ai bi))) 4 470 (kF b0) := by
  refine Met.ofW (cc := cX3_merge) (maxL := 7) (ret := (some .int)) (by decide) rfl ?_
  intro p e s m args below meth c s₁ B hml hv
  obtain ⟨rfl, hH, hK⟩ := hv
  have hx := B.exec
  have hb := B.bytes
  have hr := B.returns
  have hts := atoms_spec (ws := wsX3_merge) B.pre
  have hown : s.vm.findClass RX3 = some m.cls := findClass_of_methodNamed B.named
  have hlocks := B.notSynchronized
  rw [hH]
  have hl := lv_entry ([.ref (A 0), .int (ai), .int (bi)]) (n := 7) (Nat.le_of_ble_eq_true rfl)
  rw [lg_entry_eq]
  generalize (lg_sl ([.ref (A 0), .int (ai), .int (bi)]) ++ List.replicate (7 - (lg_sl ([.ref (A 0), .int (ai), .int (bi)])).length) Slot.unset).toArray = ls at hl ⊢
  have hl : lv_has ls 7 [(0, .ref (A 0)), (1, .int (ai)), (2, .int (bi))] := hl
  have hVB := hC.wf
  have hV4 : sV σ ≤ 400 := hVB.2.1
  have hB4 : sB σ ≤ 40 := hVB.2.2.2.1
  refine lv_aload_n hx hb dX3_merge_0 rfl (lv_at hl 0 rfl) ?_
  refine lv_iload_n hx hb dX3_merge_1 rfl (lv_at hl 1 rfl) ?_
  refine k_callX (va_runV (As := [.int (ai)]) (rest := []) ⟨hx, hb, hml, hown, hts⟩ (c_X3_branchAt_n l D g b0 H A σ dw hC ai hN) (cwV 1 hts gX3_merge_X3_branchAt rfl rfl rfl (by decide +kernel) ⟨Nat.le_of_ble_eq_true rfl, Nat.le_of_ble_eq_true rfl⟩) ⟨kPc_blind, k_recv hK hC.o rfl, fun U hU hW => kPc_at hK hU hW⟩ rfl rfl hl.1 rfl (lv_room (Nat.le_of_ble_eq_true rfl)) dX3_merge_2 ⟨Nat.le_of_ble_eq_true rfl, Nat.le_of_ble_eq_true rfl⟩) ?_
  refine lv_astore_nN (lv' := [(3, .null), (0, .ref (A 0)), (1, .int (ai)), (2, .int (bi))]) hx hb dX3_merge_5 rfl hl (by decide) rfl (fun ls hl => ?_)
  refine lv_aload_n hx hb dX3_merge_6 rfl (lv_at hl 1 rfl) ?_
  refine lv_iload_n hx hb dX3_merge_7 rfl (lv_at hl 3 rfl) ?_
  rcases br_dec σ bi with hM | ⟨b, hb5, rfl⟩
  · skip
    refine k_callX (va_runV (As := [.int (bi)]) (rest := []) ⟨hx, hb, hml, hown, hts⟩ (c_X3_branchAt_n l D g b0 H A σ dw hC bi hM) (cwV 1 hts gX3_merge_X3_branchAt rfl rfl rfl (by decide +kernel) ⟨Nat.le_of_ble_eq_true rfl, Nat.le_of_ble_eq_true rfl⟩) ⟨kPc_blind, k_recv hK hC.o rfl, fun U hU hW => kPc_at hK hU hW⟩ rfl rfl hl.1 rfl (lv_room (Nat.le_of_ble_eq_true rfl)) dX3_merge_8 ⟨Nat.le_of_ble_eq_true rfl, Nat.le_of_ble_eq_true rfl⟩) ?_
    refine lv_astoreN (lv' := [(4, .null), (3, .null), (0, .ref (A 0)), (1, .int (ai)), (2, .int (bi))]) hx hb dX3_merge_11 hl (by decide) rfl (fun ls hl => ?_)
    refine lv_aload_nN hx hb dX3_merge_13 rfl (lv_at hl 1 rfl) ?_
    refine lv_ifnullN (tgt := 22) hx hb dX3_merge_14 (by decide) ?_
    refine lv_iconst (v := (-1)) hx hb dX3_merge_22 (by decide +kernel) ?_
    exact r_iI hx hb hr LB.nil (Nat.le_of_ble_eq_true rfl) (Nat.le_of_ble_eq_true rfl) ⟨A, σ, dw, hC, CFr.rf, Or.inl ⟨Or.inl hN, rfl, rfl⟩⟩ dX3_merge_23 hlocks
  · skip
    skip
    refine k_callX (va_runV (As := [.int (nI b)]) (rest := []) ⟨hx, hb, hml, hown, hts⟩ (c_X3_branchAt_y l D g b0 H A σ dw hC b hb5) (cwV 1 hts gX3_merge_X3_branchAt rfl rfl rfl (by decide +kernel) ⟨Nat.le_of_ble_eq_true rfl, Nat.le_of_ble_eq_true rfl⟩) ⟨kPc_blind, k_recv hK hC.o rfl, fun U hU hW => kPc_at hK hU hW⟩ rfl rfl hl.1 rfl (lv_room (Nat.le_of_ble_eq_true rfl)) dX3_merge_8 ⟨Nat.le_of_ble_eq_true rfl, Nat.le_of_ble_eq_true rfl⟩) ?_
    refine lv_astore (lv' := [(4, .ref (A (2000 + b))), (3, .null), (0, .ref (A 0)), (1, .int (ai)), (2, .int (nI b))]) hx hb dX3_merge_11 hl (by decide) rfl (fun ls hl => ?_)
    refine lv_aload_nN hx hb dX3_merge_13 rfl (lv_at hl 1 rfl) ?_
    refine lv_ifnullN (tgt := 22) hx hb dX3_merge_14 (by decide) ?_
    refine lv_iconst (v := (-1)) hx hb dX3_merge_22 (by decide +kernel) ?_
    exact r_iI hx hb hr LB.nil (Nat.le_of_ble_eq_true rfl) (Nat.le_of_ble_eq_true rfl) ⟨A, σ, dw, hC, CFr.rf, Or.inl ⟨Or.inl hN, rfl, rfl⟩⟩ dX3_merge_23 hlocks
set_option maxHeartbeats 4000000 in
set_option maxRecDepth 100000 in
/-- merge_n2 -/
theorem c_X3_merge_n2 (l : Launch) (D : va_G) (g : Nat → ClassId) (b0 : Nat) (H : Heap) (A : Nat → Nat) (σ : SG) (dw : Nat → Int64) (hC : CR D g b0 A σ dw H) (hbH : b0 ≤ H.size) (a : Nat) (ha4 : a < sB σ) (bi : Int32) (hN : BrN σ bi) : Met l yX3_merge wsX3_merge ({ frames := 6, cells := 4, slots := 470, locals := 158 } : Room) (kPc D g [.ref (A 0), .int (nI a), .int (bi)] H) (kI (PubQ D g b0 H A σ (SpMerge σ (nI a) bi))) 4 470 (kF b0) := by
  refine Met.ofW (cc := cX3_merge) (maxL := 7) (ret := (some .int)) (by decide) rfl ?_
  intro p e s m args below meth c s₁ B hml hv
  obtain ⟨rfl, hH, hK⟩ := hv
  have hx := B.exec
  have hb := B.bytes
  have hr := B.returns
  have hts := atoms_spec (ws := wsX3_merge) B.pre
  have hown : s.vm.findClass RX3 = some m.cls := findClass_of_methodNamed B.named
  have hlocks := B.notSynchronized
  rw [hH]
  have hl := lv_entry ([.ref (A 0), .int (nI a), .int (bi)]) (n := 7) (Nat.le_of_ble_eq_true rfl)
  rw [lg_entry_eq]
  generalize (lg_sl ([.ref (A 0), .int (nI a), .int (bi)]) ++ List.replicate (7 - (lg_sl ([.ref (A 0), .int (nI a), .int (bi)])).length) Slot.unset).toArray = ls at hl ⊢
  have hl : lv_has ls 7 [(0, .ref (A 0)), (1, .int (nI a)), (2, .int (bi))] := hl
  have hVB := hC.wf
  have hV4 : sV σ ≤ 400 := hVB.2.1
  have hB4 : sB σ ≤ 40 := hVB.2.2.2.1
  refine lv_aload_n hx hb dX3_merge_0 rfl (lv_at hl 0 rfl) ?_
  refine lv_iload_n hx hb dX3_merge_1 rfl (lv_at hl 1 rfl) ?_
  refine k_callX (va_runV (As := [.int (nI a)]) (rest := []) ⟨hx, hb, hml, hown, hts⟩ (c_X3_branchAt_y l D g b0 H A σ dw hC a ha4) (cwV 1 hts gX3_merge_X3_branchAt rfl rfl rfl (by decide +kernel) ⟨Nat.le_of_ble_eq_true rfl, Nat.le_of_ble_eq_true rfl⟩) ⟨kPc_blind, k_recv hK hC.o rfl, fun U hU hW => kPc_at hK hU hW⟩ rfl rfl hl.1 rfl (lv_room (Nat.le_of_ble_eq_true rfl)) dX3_merge_2 ⟨Nat.le_of_ble_eq_true rfl, Nat.le_of_ble_eq_true rfl⟩) ?_
  refine lv_astore_n (lv' := [(3, .ref (A (2000 + a))), (0, .ref (A 0)), (1, .int (nI a)), (2, .int (bi))]) hx hb dX3_merge_5 rfl hl (by decide) rfl (fun ls hl => ?_)
  refine lv_aload_n hx hb dX3_merge_6 rfl (lv_at hl 1 rfl) ?_
  refine lv_iload_n hx hb dX3_merge_7 rfl (lv_at hl 3 rfl) ?_
  refine k_callX (va_runV (As := [.int (bi)]) (rest := []) ⟨hx, hb, hml, hown, hts⟩ (c_X3_branchAt_n l D g b0 H A σ dw hC bi hN) (cwV 1 hts gX3_merge_X3_branchAt rfl rfl rfl (by decide +kernel) ⟨Nat.le_of_ble_eq_true rfl, Nat.le_of_ble_eq_true rfl⟩) ⟨kPc_blind, k_recv hK hC.o rfl, fun U hU hW => kPc_at hK hU hW⟩ rfl rfl hl.1 rfl (lv_room (Nat.le_of_ble_eq_true rfl)) dX3_merge_8 ⟨Nat.le_of_ble_eq_true rfl, Nat.le_of_ble_eq_true rfl⟩) ?_
  refine lv_astoreN (lv' := [(4, .null), (3, .ref (A (2000 + a))), (0, .ref (A 0)), (1, .int (nI a)), (2, .int (bi))]) hx hb dX3_merge_11 hl (by decide) rfl (fun ls hl => ?_)
  refine lv_aload_n hx hb dX3_merge_13 rfl (lv_at hl 1 rfl) ?_
  refine lv_ifnull hx hb dX3_merge_14 ?_
  refine lv_aloadN hx hb dX3_merge_17 (lv_at hl 0 rfl) ?_
  refine lv_ifnonnullN hx hb dX3_merge_19 ?_
  refine lv_iconst (v := (-1)) hx hb dX3_merge_22 (by decide +kernel) ?_
  exact r_iI hx hb hr LB.nil (Nat.le_of_ble_eq_true rfl) (Nat.le_of_ble_eq_true rfl) ⟨A, σ, dw, hC, CFr.rf, Or.inl ⟨Or.inr hN, rfl, rfl⟩⟩ dX3_merge_23 hlocks
set_option maxHeartbeats 4000000 in
set_option maxRecDepth 100000 in
/-- merge_y -/
theorem c_X3_merge_y (l : Launch) (D : va_G) (g : Nat → ClassId) (b0 : Nat) (H : Heap) (A : Nat → Nat) (σ : SG) (dw : Nat → Int64) (hC : CR D g b0 A σ dw H) (hbH : b0 ≤ H.size) (a b : Nat) (ha4 : a < sB σ) (hb4 : b < sB σ) : Met l yX3_merge wsX3_merge ({ frames := 6, cells := 4, slots := 470, locals := 158 } : Room) (kPc D g [.ref (A 0), .int (nI a), .int (nI b)] H) (kI (PubQ D g b0 H A σ (SpMerge σ (nI a) (nI b)))) 4 470 (kF b0) := by
  refine Met.ofW (cc := cX3_merge) (maxL := 7) (ret := (some .int)) (by decide) rfl ?_
  intro p e s m args below meth c s₁ B hml hv
  obtain ⟨rfl, hH, hK⟩ := hv
  have hx := B.exec
  have hb := B.bytes
  have hr := B.returns
  have hts := atoms_spec (ws := wsX3_merge) B.pre
  have hown : s.vm.findClass RX3 = some m.cls := findClass_of_methodNamed B.named
  have hlocks := B.notSynchronized
  rw [hH]
  have hl := lv_entry ([.ref (A 0), .int (nI a), .int (nI b)]) (n := 7) (Nat.le_of_ble_eq_true rfl)
  rw [lg_entry_eq]
  generalize (lg_sl ([.ref (A 0), .int (nI a), .int (nI b)]) ++ List.replicate (7 - (lg_sl ([.ref (A 0), .int (nI a), .int (nI b)])).length) Slot.unset).toArray = ls at hl ⊢
  have hl : lv_has ls 7 [(0, .ref (A 0)), (1, .int (nI a)), (2, .int (nI b))] := hl
  have hVB := hC.wf
  have hV4 : sV σ ≤ 400 := hVB.2.1
  have hB4 : sB σ ≤ 40 := hVB.2.2.2.1
  have hhda := hVB.2.2.2.2.1 a ha4
  have hhd := hVB.2.2.2.2.1 b hb4
  refine lv_aload_n hx hb dX3_merge_0 rfl (lv_at hl 0 rfl) ?_
  refine lv_iload_n hx hb dX3_merge_1 rfl (lv_at hl 1 rfl) ?_
  refine k_callX (va_runV (As := [.int (nI a)]) (rest := []) ⟨hx, hb, hml, hown, hts⟩ (c_X3_branchAt_y l D g b0 H A σ dw hC a ha4) (cwV 1 hts gX3_merge_X3_branchAt rfl rfl rfl (by decide +kernel) ⟨Nat.le_of_ble_eq_true rfl, Nat.le_of_ble_eq_true rfl⟩) ⟨kPc_blind, k_recv hK hC.o rfl, fun U hU hW => kPc_at hK hU hW⟩ rfl rfl hl.1 rfl (lv_room (Nat.le_of_ble_eq_true rfl)) dX3_merge_2 ⟨Nat.le_of_ble_eq_true rfl, Nat.le_of_ble_eq_true rfl⟩) ?_
  refine lv_astore_n (lv' := [(3, .ref (A (2000 + a))), (0, .ref (A 0)), (1, .int (nI a)), (2, .int (nI b))]) hx hb dX3_merge_5 rfl hl (by decide) rfl (fun ls hl => ?_)
  refine lv_aload_n hx hb dX3_merge_6 rfl (lv_at hl 1 rfl) ?_
  refine lv_iload_n hx hb dX3_merge_7 rfl (lv_at hl 3 rfl) ?_
  refine k_callX (va_runV (As := [.int (nI b)]) (rest := []) ⟨hx, hb, hml, hown, hts⟩ (c_X3_branchAt_y l D g b0 H A σ dw hC b hb4) (cwV 1 hts gX3_merge_X3_branchAt rfl rfl rfl (by decide +kernel) ⟨Nat.le_of_ble_eq_true rfl, Nat.le_of_ble_eq_true rfl⟩) ⟨kPc_blind, k_recv hK hC.o rfl, fun U hU hW => kPc_at hK hU hW⟩ rfl rfl hl.1 rfl (lv_room (Nat.le_of_ble_eq_true rfl)) dX3_merge_8 ⟨Nat.le_of_ble_eq_true rfl, Nat.le_of_ble_eq_true rfl⟩) ?_
  refine lv_astore (lv' := [(4, .ref (A (2000 + b))), (3, .ref (A (2000 + a))), (0, .ref (A 0)), (1, .int (nI a)), (2, .int (nI b))]) hx hb dX3_merge_11 hl (by decide) rfl (fun ls hl => ?_)
  refine lv_aload_n hx hb dX3_merge_13 rfl (lv_at hl 1 rfl) ?_
  refine lv_ifnull hx hb dX3_merge_14 ?_
  refine lv_aload hx hb dX3_merge_17 (lv_at hl 0 rfl) ?_
  refine lv_ifnonnull (tgt := 24) hx hb dX3_merge_19 (by decide) ?_
  refine lv_aload_n hx hb dX3_merge_24 rfl (lv_at hl 1 rfl) ?_
  refine k_getN (ci := 0) (C := RX0) (T := TX0) (N := 1) (v := .ref (A (16 + 4 * (sH σ a)))) hx hb hts (by decide +kernel) hown hK (hC.ba ha4) rfl 0 (by decide) rfl (List.mem_of_getElem? (i := 4) rfl) rfl dX3_merge_25 ?_
  refine lv_astore (lv' := [(5, .ref (A (16 + 4 * (sH σ a)))), (4, .ref (A (2000 + b))), (3, .ref (A (2000 + a))), (0, .ref (A 0)), (1, .int (nI a)), (2, .int (nI b))]) hx hb dX3_merge_28 hl (by decide) rfl (fun ls hl => ?_)
  refine lv_aload hx hb dX3_merge_30 (lv_at hl 1 rfl) ?_
  refine k_getN (ci := 0) (C := RX0) (T := TX0) (N := 1) (v := .ref (A (16 + 4 * (sH σ b)))) hx hb hts (by decide +kernel) hown hK (hC.ba hb4) rfl 0 (by decide) rfl (List.mem_of_getElem? (i := 4) rfl) rfl dX3_merge_32 ?_
  refine lv_astore (lv' := [(6, .ref (A (16 + 4 * (sH σ b)))), (5, .ref (A (16 + 4 * (sH σ a)))), (4, .ref (A (2000 + b))), (3, .ref (A (2000 + a))), (0, .ref (A 0)), (1, .int (nI a)), (2, .int (nI b))]) hx hb dX3_merge_35 hl (by decide) rfl (fun ls hl => ?_)
  refine lv_aload hx hb dX3_merge_37 (lv_at hl 1 rfl) ?_
  refine lv_aload hx hb dX3_merge_39 (lv_at hl 0 rfl) ?_
  refine k_getN (ci := 2) (C := RX2) (T := TX2) (N := 5) (v := .int (nI (sH σ b))) hx hb hts (by decide +kernel) hown hK (hC.ver hhd) rfl 0 (by decide) rfl (List.mem_of_getElem? (i := 0) rfl) rfl dX3_merge_41 ?_
  refine k_callX (va_runVN (As := [.int (nI (sH σ b))]) (rest := []) ⟨hx, hb, hml, hown, hts⟩ (c_X2_hasAncestor l D g H _ _ _ _ _ _ (sA σ (sH σ a)) (hC.ver hhda) (hC.an hhda) (sH σ b) (by omega)) ⟨va_cnB 1 hts gX3_merge_X2_hasAncestor_n93 rfl rfl rfl (hK.2.1 _ (List.mem_of_getElem? (i := 11) rfl)) (hts (.initialized RX2) (by decide +kernel)) (by decide +kernel) ⟨Nat.le_of_ble_eq_true rfl, Nat.le_of_ble_eq_true rfl⟩, hts (.instanceMethod yX2_hasAncestor) (by decide +kernel), hts (.selects RX2 yX2_hasAncestor yX2_hasAncestor) (by decide +kernel)⟩ ⟨kPc_blind, k_recv hK (hC.ver hhda) rfl, fun U hU hW => kPc_at hK hU hW⟩ rfl rfl hl.1 rfl (lv_room (Nat.le_of_ble_eq_true rfl)) dX3_merge_44 ⟨Nat.le_of_ble_eq_true rfl, Nat.le_of_ble_eq_true rfl⟩) ?_
  refine z_if_eq (tgt := 63) hx hb dX3_merge_47 (by decide) (fun c_762 => ?_) (fun c_762 => ?_)
  · skip
    refine lv_aload hx hb dX3_merge_63 (lv_at hl 0 rfl) ?_
    refine lv_aload hx hb dX3_merge_65 (lv_at hl 1 rfl) ?_
    refine k_getN (ci := 2) (C := RX2) (T := TX2) (N := 5) (v := .int (nI (sH σ a))) hx hb hts (by decide +kernel) hown hK (hC.ver hhda) rfl 0 (by decide) rfl (List.mem_of_getElem? (i := 0) rfl) rfl dX3_merge_67 ?_
    refine k_callX (va_runVN (As := [.int (nI (sH σ a))]) (rest := []) ⟨hx, hb, hml, hown, hts⟩ (c_X2_hasAncestor l D g H _ _ _ _ _ _ (sA σ (sH σ b)) (hC.ver hhd) (hC.an hhd) (sH σ a) (by omega)) ⟨va_cnB 1 hts gX3_merge_X2_hasAncestor_n93 rfl rfl rfl (hK.2.1 _ (List.mem_of_getElem? (i := 11) rfl)) (hts (.initialized RX2) (by decide +kernel)) (by decide +kernel) ⟨Nat.le_of_ble_eq_true rfl, Nat.le_of_ble_eq_true rfl⟩, hts (.instanceMethod yX2_hasAncestor) (by decide +kernel), hts (.selects RX2 yX2_hasAncestor yX2_hasAncestor) (by decide +kernel)⟩ ⟨kPc_blind, k_recv hK (hC.ver hhd) rfl, fun U hU hW => kPc_at hK hU hW⟩ rfl rfl hl.1 rfl (lv_room (Nat.le_of_ble_eq_true rfl)) dX3_merge_70 ⟨Nat.le_of_ble_eq_true rfl, Nat.le_of_ble_eq_true rfl⟩) ?_
    refine z_if_eq (tgt := 95) hx hb dX3_merge_73 (by decide) (fun c_763 => ?_) (fun c_763 => ?_)
    · skip
      refine lv_aload_n hx hb dX3_merge_95 rfl (lv_at hl 4 rfl) ?_
      refine lv_aload_n hx hb dX3_merge_96 rfl (lv_at hl 3 rfl) ?_
      refine lv_aload hx hb dX3_merge_97 (lv_at hl 0 rfl) ?_
      rcases gc_dec σ (sH σ a) (sH σ b) with hgc | ⟨c0, hgc⟩
      · skip
        refine k_callI (va_runV (As := [.ref (A (2000 + a)), .ref (A (16 + 4 * (sH σ b)))]) (rest := []) ⟨hx, hb, hml, hown, hts⟩ (c_X3_join_0 l D g b0 H A σ dw hC hbH a ha4 (sH σ b) hhd hgc) (cwV 2 hts gX3_merge_X3_join rfl rfl rfl (by decide +kernel) ⟨Nat.le_of_ble_eq_true rfl, Nat.le_of_ble_eq_true rfl⟩) ⟨kPc_blind, k_recv hK hC.o rfl, fun U hU hW => kPc_at hK hU hW⟩ rfl rfl hl.1 rfl (lv_room (Nat.le_of_ble_eq_true rfl)) dX3_merge_99 ⟨Nat.le_of_ble_eq_true rfl, Nat.le_of_ble_eq_true rfl⟩) LB.nil (fun ra Hz locsz hLBz hqz => ?_)
        refine W.widen (k := 4) (n := 470) (Nat.le_of_ble_eq_true rfl) (Nat.le_of_ble_eq_true rfl) ?_
        obtain ⟨Az, σz, dwz, hCz, hFz, hsz⟩ := hqz
        exact r_iI hx hb hr hLBz (Nat.le_of_ble_eq_true rfl) (Nat.le_of_ble_eq_true rfl) ⟨Az, σz, dwz, hCz, hFz, Or.inr ⟨a, b, ha4, hb4, rfl, rfl, Or.inr (Or.inr ⟨c_762, c_763, hsz⟩)⟩⟩ dX3_merge_102 hlocks
      · skip
        refine k_callI (va_runV (As := [.ref (A (2000 + a)), .ref (A (16 + 4 * (sH σ b)))]) (rest := []) ⟨hx, hb, hml, hown, hts⟩ (c_X3_join_1 l D g b0 H A σ dw hC hbH a ha4 (sH σ b) hhd c0 hgc) (cwV 2 hts gX3_merge_X3_join rfl rfl rfl (by decide +kernel) ⟨Nat.le_of_ble_eq_true rfl, Nat.le_of_ble_eq_true rfl⟩) ⟨kPc_blind, k_recv hK hC.o rfl, fun U hU hW => kPc_at hK hU hW⟩ rfl rfl hl.1 rfl (lv_room (Nat.le_of_ble_eq_true rfl)) dX3_merge_99 ⟨Nat.le_of_ble_eq_true rfl, Nat.le_of_ble_eq_true rfl⟩) LB.nil (fun ra Hz locsz hLBz hqz => ?_)
        refine W.widen (k := 4) (n := 470) (Nat.le_of_ble_eq_true rfl) (Nat.le_of_ble_eq_true rfl) ?_
        obtain ⟨Az, σz, dwz, hCz, hFz, hsz⟩ := hqz
        exact r_iI hx hb hr hLBz (Nat.le_of_ble_eq_true rfl) (Nat.le_of_ble_eq_true rfl) ⟨Az, σz, dwz, hCz, hFz, Or.inr ⟨a, b, ha4, hb4, rfl, rfl, Or.inr (Or.inr ⟨c_762, c_763, hsz⟩)⟩⟩ dX3_merge_102 hlocks
    · skip
      refine lv_aload_n hx hb dX3_merge_76 rfl (lv_at hl 4 rfl) ?_
      refine k_get (ci := 3) (C := RX3) (T := TX3) (N := 7) (v := .ref (A 5)) hx hb hts (by decide +kernel) hown hK hC.o rfl 5 (by decide) rfl (hts (.fieldLink RX3 28 RX3 "merged" "LVersionMerge$TripleSet;") (by decide +kernel)) rfl dX3_merge_77 ?_
      refine lv_aload_n hx hb dX3_merge_80 rfl (lv_at hl 4 rfl) ?_
      refine k_get (ci := 3) (C := RX3) (T := TX3) (N := 7) (v := .ref (A 3)) hx hb hts (by decide +kernel) hown hK hC.o rfl 4 (by decide) rfl (hts (.fieldLink RX3 24 RX3 "nothing" "LVersionMerge$TripleSet;") (by decide +kernel)) rfl dX3_merge_81 ?_
      refine k_callU (va_runVN (As := [.ref (A 3)]) (rest := []) ⟨hx, hb, hml, hown, hts⟩ (c_X1_becomeCopy l D g b0 H (A 5) (A 6) (sM σ) hC.mg hC.mw (hC.ge (cl0 (by omega))) (A 3) (A 4) (fun _ => 0) hC.nt hC.nw (hC.ge (cl0 (by omega))) (hC.ne (cl0 (by omega)) (cl0 (by omega)) (by omega))) ⟨va_cnB 1 hts gX3_merge_X1_becomeCopy_n64 rfl rfl rfl (hK.2.1 _ (List.mem_of_getElem? (i := 7) rfl)) (hts (.initialized RX1) (by decide +kernel)) (by decide +kernel) ⟨Nat.le_of_ble_eq_true rfl, Nat.le_of_ble_eq_true rfl⟩, hts (.instanceMethod yX1_becomeCopy) (by decide +kernel), hts (.selects RX1 yX1_becomeCopy yX1_becomeCopy) (by decide +kernel)⟩ ⟨kPc_blind, k_recv hK hC.mg rfl, fun U hU hW => kPc_at hK hU hW⟩ rfl rfl hl.1 rfl (lv_room (Nat.le_of_ble_eq_true rfl)) dX3_merge_84 ⟨Nat.le_of_ble_eq_true rfl, Nat.le_of_ble_eq_true rfl⟩) LB.nil (fun H1 locs1 hLB1 hq1 => ?_)
      obtain ⟨f1, hw1, hCh1, hf1v⟩ := hq1
      have hC1 := hC.merged hw1 hCh1
      have hF1 : CFr H A σ H1 A (gM σ f1) := CFr.chg (cl0 (by omega)) hCh1 (fun c hc => hc)
      refine lv_aload_n hx hb dX3_merge_87 rfl (lv_at hl 3 rfl) ?_
      refine lv_aload hx hb dX3_merge_88 (lv_at hl 0 rfl) ?_
      refine k_putN (ci := 0) (C := RX0) (T := TX0) (N := 1) (v := .ref (A (16 + 4 * (sH σ b)))) hx hb hts (by decide +kernel) tyX0 tyX0_ok nmX0 hown hK (hC1.ba ha4) hLB1 (hC.ge (clB ha4)) rfl 0 (by decide) rfl (List.mem_of_getElem? (i := 4) rfl) rfl (ty := .object "VersionMerge$Version") (by decide +kernel) rfl rfl (Nat.le_of_ble_eq_true rfl) dX3_merge_90 (fun H_764 locs_765 ho_766 hC_767 hLB_768 => ?_)
      have hC2 := hC1.head (b := a) (v := sH σ b) ha4 hhd ho_766 hC_767
      have hF2 : CFr H A σ H_764 A (gHead (gM σ f1) a (sH σ b)) := hF1.tr (CFr.chg (σ := gM σ f1) (clB (σ := gM σ f1) (b := a) ha4) hC_767 (fun c hc => hc))
      refine lv_iconst (v := nI 0) hx hb dX3_merge_93 (by decide +kernel) ?_
      exact r_iI hx hb hr hLB_768 (Nat.le_of_ble_eq_true rfl) (Nat.le_of_ble_eq_true rfl) ⟨A, gHead (gM σ f1) a (sH σ b), dw, hC2, hF2, Or.inr ⟨a, b, ha4, hb4, rfl, rfl, Or.inr (Or.inl ⟨c_762, c_763, by decide +kernel, f1, hf1v, rfl⟩)⟩⟩ dX3_merge_94 hlocks
  · skip
    refine lv_aload_n hx hb dX3_merge_50 rfl (lv_at hl 4 rfl) ?_
    refine k_get (ci := 3) (C := RX3) (T := TX3) (N := 7) (v := .ref (A 5)) hx hb hts (by decide +kernel) hown hK hC.o rfl 5 (by decide) rfl (hts (.fieldLink RX3 28 RX3 "merged" "LVersionMerge$TripleSet;") (by decide +kernel)) rfl dX3_merge_51 ?_
    refine lv_aload_n hx hb dX3_merge_54 rfl (lv_at hl 4 rfl) ?_
    refine k_get (ci := 3) (C := RX3) (T := TX3) (N := 7) (v := .ref (A 3)) hx hb hts (by decide +kernel) hown hK hC.o rfl 4 (by decide) rfl (hts (.fieldLink RX3 24 RX3 "nothing" "LVersionMerge$TripleSet;") (by decide +kernel)) rfl dX3_merge_55 ?_
    refine k_callU (va_runVN (As := [.ref (A 3)]) (rest := []) ⟨hx, hb, hml, hown, hts⟩ (c_X1_becomeCopy l D g b0 H (A 5) (A 6) (sM σ) hC.mg hC.mw (hC.ge (cl0 (by omega))) (A 3) (A 4) (fun _ => 0) hC.nt hC.nw (hC.ge (cl0 (by omega))) (hC.ne (cl0 (by omega)) (cl0 (by omega)) (by omega))) ⟨va_cnB 1 hts gX3_merge_X1_becomeCopy_n64 rfl rfl rfl (hK.2.1 _ (List.mem_of_getElem? (i := 7) rfl)) (hts (.initialized RX1) (by decide +kernel)) (by decide +kernel) ⟨Nat.le_of_ble_eq_true rfl, Nat.le_of_ble_eq_true rfl⟩, hts (.instanceMethod yX1_becomeCopy) (by decide +kernel), hts (.selects RX1 yX1_becomeCopy yX1_becomeCopy) (by decide +kernel)⟩ ⟨kPc_blind, k_recv hK hC.mg rfl, fun U hU hW => kPc_at hK hU hW⟩ rfl rfl hl.1 rfl (lv_room (Nat.le_of_ble_eq_true rfl)) dX3_merge_58 ⟨Nat.le_of_ble_eq_true rfl, Nat.le_of_ble_eq_true rfl⟩) LB.nil (fun H1 locs1 hLB1 hq1 => ?_)
    obtain ⟨f1, hw1, hCh1, hf1v⟩ := hq1
    have hC1 := hC.merged hw1 hCh1
    have hF1 : CFr H A σ H1 A (gM σ f1) := CFr.chg (cl0 (by omega)) hCh1 (fun c hc => hc)
    refine lv_iconst (v := nI 0) hx hb dX3_merge_61 (by decide +kernel) ?_
    exact r_iI hx hb hr hLB1 (Nat.le_of_ble_eq_true rfl) (Nat.le_of_ble_eq_true rfl) ⟨A, gM σ f1, dw, hC1, hF1, Or.inr ⟨a, b, ha4, hb4, rfl, rfl, Or.inl ⟨c_762, by decide +kernel, f1, hf1v, rfl⟩⟩⟩ dX3_merge_62 hlocks
theorem c_X3_merge (l : Launch) (D : va_G) (g : Nat → ClassId) (b0 : Nat) (H : Heap) (A : Nat → Nat) (σ : SG) (dw : Nat → Int64) (hC : CR D g b0 A σ dw H) (hbH : b0 ≤ H.size) (ai bi : Int32) : Met l yX3_merge wsX3_merge ({ frames := 6, cells := 4, slots := 470, locals := 158 } : Room) (kPc D g [.ref (A 0), .int ai, .int bi] H) (kI (PubQ D g b0 H A σ (SpMerge σ ai bi))) 4 470 (kF b0) := by
  rcases br_dec σ ai with h | ⟨a, ha4, rfl⟩
  · exact c_X3_merge_n1 l D g b0 H A σ dw hC hbH ai bi h
  · rcases br_dec σ bi with h | ⟨b, hb4, rfl⟩
    · exact c_X3_merge_n2 l D g b0 H A σ dw hC hbH a ha4 bi h
    · exact c_X3_merge_y l D g b0 H A σ dw hC hbH a b ha4 hb4
end
section
/-! 15: apply, revert, branch (laid by wip/gen/cls15.py) -/
set_option maxHeartbeats 4000000 in
set_option maxRecDepth 100000 in
/-- apply_n1 -/
theorem c_X3_apply_n1 (l : Launch) (D : va_G) (g : Nat → ClassId) (b0 : Nat) (H : Heap) (A : Nat → Nat) (σ : SG) (dw : Nat → Int64) (hC : CR D g b0 A σ dw H) (hbH : b0 ≤ H.size) (bi pi : Int32) (hN : BrN σ bi) : Met l yX3_apply wsX3_apply ({ frames := 6, cells := 4, slots := 470, locals := 157 } : Room) (kPc D g [.ref (A 0), .int (bi), .int (pi)] H) (kI (PubQ D g b0 H A σ (SpApply σ bi pi))) 4 470 (kF b0) := by
  refine Met.ofW (cc := cX3_apply) (maxL := 5) (ret := (some .int)) (by decide) rfl ?_
  intro p e s m args below meth c s₁ B hml hv
  obtain ⟨rfl, hH, hK⟩ := hv
  have hx := B.exec
  have hb := B.bytes
  have hr := B.returns
  have hts := atoms_spec (ws := wsX3_apply) B.pre
  have hown : s.vm.findClass RX3 = some m.cls := findClass_of_methodNamed B.named
  have hlocks := B.notSynchronized
  rw [hH]
  have hl := lv_entry ([.ref (A 0), .int (bi), .int (pi)]) (n := 5) (Nat.le_of_ble_eq_true rfl)
  rw [lg_entry_eq]
  generalize (lg_sl ([.ref (A 0), .int (bi), .int (pi)]) ++ List.replicate (5 - (lg_sl ([.ref (A 0), .int (bi), .int (pi)])).length) Slot.unset).toArray = ls at hl ⊢
  have hl : lv_has ls 5 [(0, .ref (A 0)), (1, .int (bi)), (2, .int (pi))] := hl
  have hVB := hC.wf
  have hV4 : sV σ ≤ 400 := hVB.2.1
  have hB4 : sB σ ≤ 40 := hVB.2.2.2.1
  refine lv_aload_n hx hb dX3_apply_0 rfl (lv_at hl 0 rfl) ?_
  refine lv_iload_n hx hb dX3_apply_1 rfl (lv_at hl 1 rfl) ?_
  refine k_callX (va_runV (As := [.int (bi)]) (rest := []) ⟨hx, hb, hml, hown, hts⟩ (c_X3_branchAt_n l D g b0 H A σ dw hC bi hN) (cwV 1 hts gX3_apply_X3_branchAt rfl rfl rfl (by decide +kernel) ⟨Nat.le_of_ble_eq_true rfl, Nat.le_of_ble_eq_true rfl⟩) ⟨kPc_blind, k_recv hK hC.o rfl, fun U hU hW => kPc_at hK hU hW⟩ rfl rfl hl.1 rfl (lv_room (Nat.le_of_ble_eq_true rfl)) dX3_apply_2 ⟨Nat.le_of_ble_eq_true rfl, Nat.le_of_ble_eq_true rfl⟩) ?_
  refine lv_astore_nN (lv' := [(3, .null), (0, .ref (A 0)), (1, .int (bi)), (2, .int (pi))]) hx hb dX3_apply_5 rfl hl (by decide) rfl (fun ls hl => ?_)
  refine lv_aload_n hx hb dX3_apply_6 rfl (lv_at hl 1 rfl) ?_
  refine lv_iload_n hx hb dX3_apply_7 rfl (lv_at hl 3 rfl) ?_
  rcases pa_dec σ pi with hP | ⟨n, hn, rfl | rfl⟩
  · skip
    refine k_callX (va_runV (As := [.int (pi)]) (rest := []) ⟨hx, hb, hml, hown, hts⟩ (c_X3_changedBy_n l D g b0 H A σ dw hC pi hP.1 hP.2) (cwV 1 hts gX3_apply_X3_changedBy rfl rfl rfl (by decide +kernel) ⟨Nat.le_of_ble_eq_true rfl, Nat.le_of_ble_eq_true rfl⟩) ⟨kPc_blind, k_recv hK hC.o rfl, fun U hU hW => kPc_at hK hU hW⟩ rfl rfl hl.1 rfl (lv_room (Nat.le_of_ble_eq_true rfl)) dX3_apply_8 ⟨Nat.le_of_ble_eq_true rfl, Nat.le_of_ble_eq_true rfl⟩) ?_
    refine lv_astoreN (lv' := [(4, .null), (3, .null), (0, .ref (A 0)), (1, .int (bi)), (2, .int (pi))]) hx hb dX3_apply_11 hl (by decide) rfl (fun ls hl => ?_)
    refine lv_aload_nN hx hb dX3_apply_13 rfl (lv_at hl 1 rfl) ?_
    refine lv_ifnullN (tgt := 22) hx hb dX3_apply_14 (by decide) ?_
    refine lv_iconst (v := (-1)) hx hb dX3_apply_22 (by decide +kernel) ?_
    exact r_iI hx hb hr LB.nil (Nat.le_of_ble_eq_true rfl) (Nat.le_of_ble_eq_true rfl) ⟨A, σ, dw, hC, CFr.rf, Or.inl ⟨Or.inl hN, rfl, rfl⟩⟩ dX3_apply_23 hlocks
  · skip
    refine k_callX (va_runV (As := [.int (nI n)]) (rest := []) ⟨hx, hb, hml, hown, hts⟩ (c_X3_changedBy_y1 l D g b0 H A σ dw hC n hn) (cwV 1 hts gX3_apply_X3_changedBy rfl rfl rfl (by decide +kernel) ⟨Nat.le_of_ble_eq_true rfl, Nat.le_of_ble_eq_true rfl⟩) ⟨kPc_blind, k_recv hK hC.o rfl, fun U hU hW => kPc_at hK hU hW⟩ rfl rfl hl.1 rfl (lv_room (Nat.le_of_ble_eq_true rfl)) dX3_apply_8 ⟨Nat.le_of_ble_eq_true rfl, Nat.le_of_ble_eq_true rfl⟩) ?_
    refine lv_astore (lv' := [(4, .ref (A (16 + 4 * n))), (3, .null), (0, .ref (A 0)), (1, .int (bi)), (2, .int (nI n))]) hx hb dX3_apply_11 hl (by decide) rfl (fun ls hl => ?_)
    refine lv_aload_nN hx hb dX3_apply_13 rfl (lv_at hl 1 rfl) ?_
    refine lv_ifnullN (tgt := 22) hx hb dX3_apply_14 (by decide) ?_
    refine lv_iconst (v := (-1)) hx hb dX3_apply_22 (by decide +kernel) ?_
    exact r_iI hx hb hr LB.nil (Nat.le_of_ble_eq_true rfl) (Nat.le_of_ble_eq_true rfl) ⟨A, σ, dw, hC, CFr.rf, Or.inl ⟨Or.inl hN, rfl, rfl⟩⟩ dX3_apply_23 hlocks
  · skip
    refine k_callX (va_runV (As := [.int ((-1) - nI n)]) (rest := []) ⟨hx, hb, hml, hown, hts⟩ (c_X3_changedBy_y2 l D g b0 H A σ dw hC n hn) (cwV 1 hts gX3_apply_X3_changedBy rfl rfl rfl (by decide +kernel) ⟨Nat.le_of_ble_eq_true rfl, Nat.le_of_ble_eq_true rfl⟩) ⟨kPc_blind, k_recv hK hC.o rfl, fun U hU hW => kPc_at hK hU hW⟩ rfl rfl hl.1 rfl (lv_room (Nat.le_of_ble_eq_true rfl)) dX3_apply_8 ⟨Nat.le_of_ble_eq_true rfl, Nat.le_of_ble_eq_true rfl⟩) ?_
    refine lv_astore (lv' := [(4, .ref (A (16 + 4 * n))), (3, .null), (0, .ref (A 0)), (1, .int (bi)), (2, .int ((-1) - nI n))]) hx hb dX3_apply_11 hl (by decide) rfl (fun ls hl => ?_)
    refine lv_aload_nN hx hb dX3_apply_13 rfl (lv_at hl 1 rfl) ?_
    refine lv_ifnullN (tgt := 22) hx hb dX3_apply_14 (by decide) ?_
    refine lv_iconst (v := (-1)) hx hb dX3_apply_22 (by decide +kernel) ?_
    exact r_iI hx hb hr LB.nil (Nat.le_of_ble_eq_true rfl) (Nat.le_of_ble_eq_true rfl) ⟨A, σ, dw, hC, CFr.rf, Or.inl ⟨Or.inl hN, rfl, rfl⟩⟩ dX3_apply_23 hlocks
set_option maxHeartbeats 4000000 in
set_option maxRecDepth 100000 in
/-- apply_n2 -/
theorem c_X3_apply_n2 (l : Launch) (D : va_G) (g : Nat → ClassId) (b0 : Nat) (H : Heap) (A : Nat → Nat) (σ : SG) (dw : Nat → Int64) (hC : CR D g b0 A σ dw H) (hbH : b0 ≤ H.size) (b : Nat) (hb4 : b < sB σ) (pi : Int32) (hP : PaN σ pi) : Met l yX3_apply wsX3_apply ({ frames := 6, cells := 4, slots := 470, locals := 157 } : Room) (kPc D g [.ref (A 0), .int (nI b), .int (pi)] H) (kI (PubQ D g b0 H A σ (SpApply σ (nI b) pi))) 4 470 (kF b0) := by
  refine Met.ofW (cc := cX3_apply) (maxL := 5) (ret := (some .int)) (by decide) rfl ?_
  intro p e s m args below meth c s₁ B hml hv
  obtain ⟨rfl, hH, hK⟩ := hv
  have hx := B.exec
  have hb := B.bytes
  have hr := B.returns
  have hts := atoms_spec (ws := wsX3_apply) B.pre
  have hown : s.vm.findClass RX3 = some m.cls := findClass_of_methodNamed B.named
  have hlocks := B.notSynchronized
  rw [hH]
  have hl := lv_entry ([.ref (A 0), .int (nI b), .int (pi)]) (n := 5) (Nat.le_of_ble_eq_true rfl)
  rw [lg_entry_eq]
  generalize (lg_sl ([.ref (A 0), .int (nI b), .int (pi)]) ++ List.replicate (5 - (lg_sl ([.ref (A 0), .int (nI b), .int (pi)])).length) Slot.unset).toArray = ls at hl ⊢
  have hl : lv_has ls 5 [(0, .ref (A 0)), (1, .int (nI b)), (2, .int (pi))] := hl
  have hVB := hC.wf
  have hV4 : sV σ ≤ 400 := hVB.2.1
  have hB4 : sB σ ≤ 40 := hVB.2.2.2.1
  refine lv_aload_n hx hb dX3_apply_0 rfl (lv_at hl 0 rfl) ?_
  refine lv_iload_n hx hb dX3_apply_1 rfl (lv_at hl 1 rfl) ?_
  refine k_callX (va_runV (As := [.int (nI b)]) (rest := []) ⟨hx, hb, hml, hown, hts⟩ (c_X3_branchAt_y l D g b0 H A σ dw hC b hb4) (cwV 1 hts gX3_apply_X3_branchAt rfl rfl rfl (by decide +kernel) ⟨Nat.le_of_ble_eq_true rfl, Nat.le_of_ble_eq_true rfl⟩) ⟨kPc_blind, k_recv hK hC.o rfl, fun U hU hW => kPc_at hK hU hW⟩ rfl rfl hl.1 rfl (lv_room (Nat.le_of_ble_eq_true rfl)) dX3_apply_2 ⟨Nat.le_of_ble_eq_true rfl, Nat.le_of_ble_eq_true rfl⟩) ?_
  refine lv_astore_n (lv' := [(3, .ref (A (2000 + b))), (0, .ref (A 0)), (1, .int (nI b)), (2, .int (pi))]) hx hb dX3_apply_5 rfl hl (by decide) rfl (fun ls hl => ?_)
  refine lv_aload_n hx hb dX3_apply_6 rfl (lv_at hl 1 rfl) ?_
  refine lv_iload_n hx hb dX3_apply_7 rfl (lv_at hl 3 rfl) ?_
  refine k_callX (va_runV (As := [.int (pi)]) (rest := []) ⟨hx, hb, hml, hown, hts⟩ (c_X3_changedBy_n l D g b0 H A σ dw hC pi hP.1 hP.2) (cwV 1 hts gX3_apply_X3_changedBy rfl rfl rfl (by decide +kernel) ⟨Nat.le_of_ble_eq_true rfl, Nat.le_of_ble_eq_true rfl⟩) ⟨kPc_blind, k_recv hK hC.o rfl, fun U hU hW => kPc_at hK hU hW⟩ rfl rfl hl.1 rfl (lv_room (Nat.le_of_ble_eq_true rfl)) dX3_apply_8 ⟨Nat.le_of_ble_eq_true rfl, Nat.le_of_ble_eq_true rfl⟩) ?_
  refine lv_astoreN (lv' := [(4, .null), (3, .ref (A (2000 + b))), (0, .ref (A 0)), (1, .int (nI b)), (2, .int (pi))]) hx hb dX3_apply_11 hl (by decide) rfl (fun ls hl => ?_)
  refine lv_aload_n hx hb dX3_apply_13 rfl (lv_at hl 1 rfl) ?_
  refine lv_ifnull hx hb dX3_apply_14 ?_
  refine lv_aloadN hx hb dX3_apply_17 (lv_at hl 0 rfl) ?_
  refine lv_ifnonnullN hx hb dX3_apply_19 ?_
  refine lv_iconst (v := (-1)) hx hb dX3_apply_22 (by decide +kernel) ?_
  exact r_iI hx hb hr LB.nil (Nat.le_of_ble_eq_true rfl) (Nat.le_of_ble_eq_true rfl) ⟨A, σ, dw, hC, CFr.rf, Or.inl ⟨Or.inr hP, rfl, rfl⟩⟩ dX3_apply_23 hlocks
set_option maxHeartbeats 4000000 in
set_option maxRecDepth 100000 in
/-- apply_y1 -/
theorem c_X3_apply_y1 (l : Launch) (D : va_G) (g : Nat → ClassId) (b0 : Nat) (H : Heap) (A : Nat → Nat) (σ : SG) (dw : Nat → Int64) (hC : CR D g b0 A σ dw H) (hbH : b0 ≤ H.size) (b : Nat) (hb4 : b < sB σ) (n : Nat) (hn : n < sV σ) : Met l yX3_apply wsX3_apply ({ frames := 6, cells := 4, slots := 470, locals := 157 } : Room) (kPc D g [.ref (A 0), .int (nI b), .int (nI n)] H) (kI (PubQ D g b0 H A σ (SpApply σ (nI b) (nI n)))) 4 470 (kF b0) := by
  refine Met.ofW (cc := cX3_apply) (maxL := 5) (ret := (some .int)) (by decide) rfl ?_
  intro p e s m args below meth c s₁ B hml hv
  obtain ⟨rfl, hH, hK⟩ := hv
  have hx := B.exec
  have hb := B.bytes
  have hr := B.returns
  have hts := atoms_spec (ws := wsX3_apply) B.pre
  have hown : s.vm.findClass RX3 = some m.cls := findClass_of_methodNamed B.named
  have hlocks := B.notSynchronized
  rw [hH]
  have hl := lv_entry ([.ref (A 0), .int (nI b), .int (nI n)]) (n := 5) (Nat.le_of_ble_eq_true rfl)
  rw [lg_entry_eq]
  generalize (lg_sl ([.ref (A 0), .int (nI b), .int (nI n)]) ++ List.replicate (5 - (lg_sl ([.ref (A 0), .int (nI b), .int (nI n)])).length) Slot.unset).toArray = ls at hl ⊢
  have hl : lv_has ls 5 [(0, .ref (A 0)), (1, .int (nI b)), (2, .int (nI n))] := hl
  have hVB := hC.wf
  have hV4 : sV σ ≤ 400 := hVB.2.1
  have hB4 : sB σ ≤ 40 := hVB.2.2.2.1
  have hhd := hVB.2.2.2.2.1 b hb4
  obtain ⟨hbf, hbw, hbl1, hbl2, hbr⟩ := hC.bef hn
  have htl1 : cLive σ (17 + 4 * n) := clV n hn (by omega) (by omega)
  have htl2 : cLive σ (17 + 4 * n + 1) := clV n hn (by omega) (by omega)
  have hts1 : HA D H (A (17 + 4 * n)) (eO 1 [.ref (A (17 + 4 * n + 1))]) := by have := hC.ts hn; rw [show 18 + 4 * n = 17 + 4 * n + 1 by omega] at this; exact this
  have htw1 : HA D H (A (17 + 4 * n + 1)) (eL (g 2) 64 (sW σ n)) := by have := hC.tw hn; rw [show 18 + 4 * n = 17 + 4 * n + 1 by omega] at this; exact this
  refine lv_aload_n hx hb dX3_apply_0 rfl (lv_at hl 0 rfl) ?_
  refine lv_iload_n hx hb dX3_apply_1 rfl (lv_at hl 1 rfl) ?_
  refine k_callX (va_runV (As := [.int (nI b)]) (rest := []) ⟨hx, hb, hml, hown, hts⟩ (c_X3_branchAt_y l D g b0 H A σ dw hC b hb4) (cwV 1 hts gX3_apply_X3_branchAt rfl rfl rfl (by decide +kernel) ⟨Nat.le_of_ble_eq_true rfl, Nat.le_of_ble_eq_true rfl⟩) ⟨kPc_blind, k_recv hK hC.o rfl, fun U hU hW => kPc_at hK hU hW⟩ rfl rfl hl.1 rfl (lv_room (Nat.le_of_ble_eq_true rfl)) dX3_apply_2 ⟨Nat.le_of_ble_eq_true rfl, Nat.le_of_ble_eq_true rfl⟩) ?_
  refine lv_astore_n (lv' := [(3, .ref (A (2000 + b))), (0, .ref (A 0)), (1, .int (nI b)), (2, .int (nI n))]) hx hb dX3_apply_5 rfl hl (by decide) rfl (fun ls hl => ?_)
  refine lv_aload_n hx hb dX3_apply_6 rfl (lv_at hl 1 rfl) ?_
  refine lv_iload_n hx hb dX3_apply_7 rfl (lv_at hl 3 rfl) ?_
  refine k_callX (va_runV (As := [.int (nI n)]) (rest := []) ⟨hx, hb, hml, hown, hts⟩ (c_X3_changedBy_y1 l D g b0 H A σ dw hC n hn) (cwV 1 hts gX3_apply_X3_changedBy rfl rfl rfl (by decide +kernel) ⟨Nat.le_of_ble_eq_true rfl, Nat.le_of_ble_eq_true rfl⟩) ⟨kPc_blind, k_recv hK hC.o rfl, fun U hU hW => kPc_at hK hU hW⟩ rfl rfl hl.1 rfl (lv_room (Nat.le_of_ble_eq_true rfl)) dX3_apply_8 ⟨Nat.le_of_ble_eq_true rfl, Nat.le_of_ble_eq_true rfl⟩) ?_
  refine lv_astore (lv' := [(4, .ref (A (16 + 4 * n))), (3, .ref (A (2000 + b))), (0, .ref (A 0)), (1, .int (nI b)), (2, .int (nI n))]) hx hb dX3_apply_11 hl (by decide) rfl (fun ls hl => ?_)
  refine lv_aload_n hx hb dX3_apply_13 rfl (lv_at hl 1 rfl) ?_
  refine lv_ifnull hx hb dX3_apply_14 ?_
  refine lv_aload hx hb dX3_apply_17 (lv_at hl 0 rfl) ?_
  refine lv_ifnonnull (tgt := 24) hx hb dX3_apply_19 (by decide) ?_
  refine lv_iload_n hx hb dX3_apply_24 rfl (lv_at hl 4 rfl) ?_
  refine n_if_lt (tgt := 45) hx hb dX3_apply_25 (by decide) (by omega) ?_
  refine lv_aload_n hx hb dX3_apply_28 rfl (lv_at hl 2 rfl) ?_
  refine lv_aload_n hx hb dX3_apply_29 rfl (lv_at hl 1 rfl) ?_
  refine lv_aload_n hx hb dX3_apply_30 rfl (lv_at hl 2 rfl) ?_
  refine lv_aload hx hb dX3_apply_31 (lv_at hl 0 rfl) ?_
  refine k_callX (va_runV (As := [.ref (A (16 + 4 * n))]) (rest := [.ref (A (2000 + b)), .ref (A 0)]) ⟨hx, hb, hml, hown, hts⟩ (c_X3_setBefore l D g b0 H A σ dw hC n hn) (cwV 1 hts gX3_apply_X3_setBefore rfl rfl rfl (by decide +kernel) ⟨Nat.le_of_ble_eq_true rfl, Nat.le_of_ble_eq_true rfl⟩) ⟨kPc_blind, k_recv hK hC.o rfl, fun U hU hW => kPc_at hK hU hW⟩ rfl rfl hl.1 rfl (lv_room (Nat.le_of_ble_eq_true rfl)) dX3_apply_33 ⟨Nat.le_of_ble_eq_true rfl, Nat.le_of_ble_eq_true rfl⟩) ?_
  refine lv_aload hx hb dX3_apply_36 (lv_at hl 0 rfl) ?_
  refine k_getN (ci := 2) (C := RX2) (T := TX2) (N := 5) (v := .ref (A (17 + 4 * n))) hx hb hts (by decide +kernel) hown hK (hC.ver hn) rfl 3 (by decide) rfl (List.mem_of_getElem? (i := 3) rfl) rfl dX3_apply_38 ?_
  refine k_callI (va_runV (As := [.ref (A (2000 + b)), .ref (A (befC σ n)), .ref (A (17 + 4 * n))]) (rest := []) ⟨hx, hb, hml, hown, hts⟩ (c_X3_lay l D g b0 H A σ dw hC hbH b hb4 (befC σ n) (17 + 4 * n) (befW σ n) (sW σ n) hbl1 hbl2 (by omega) (by omega) hbf hbw htl1 htl2 (by omega) (by omega) hts1 htw1) (cwV 3 hts gX3_apply_X3_lay rfl rfl rfl (by decide +kernel) ⟨Nat.le_of_ble_eq_true rfl, Nat.le_of_ble_eq_true rfl⟩) ⟨kPc_blind, k_recv hK hC.o rfl, fun U hU hW => kPc_at hK hU hW⟩ rfl rfl hl.1 rfl (lv_room (Nat.le_of_ble_eq_true rfl)) dX3_apply_41 ⟨Nat.le_of_ble_eq_true rfl, Nat.le_of_ble_eq_true rfl⟩) LB.nil (fun ra Hz locsz hLBz hqz => ?_)
  refine W.widen (k := 4) (n := 470) (Nat.le_of_ble_eq_true rfl) (Nat.le_of_ble_eq_true rfl) ?_
  obtain ⟨Az, σz, dwz, hCz, hFz, hsz⟩ := hqz
  exact r_iI hx hb hr hLBz (Nat.le_of_ble_eq_true rfl) (Nat.le_of_ble_eq_true rfl) ⟨Az, σz, dwz, hCz, hFz, Or.inr ⟨b, n, hb4, hn, rfl, Or.inl ⟨rfl, hsz⟩⟩⟩ dX3_apply_44 hlocks
set_option maxHeartbeats 4000000 in
set_option maxRecDepth 100000 in
/-- apply_y2 -/
theorem c_X3_apply_y2 (l : Launch) (D : va_G) (g : Nat → ClassId) (b0 : Nat) (H : Heap) (A : Nat → Nat) (σ : SG) (dw : Nat → Int64) (hC : CR D g b0 A σ dw H) (hbH : b0 ≤ H.size) (b : Nat) (hb4 : b < sB σ) (n : Nat) (hn : n < sV σ) : Met l yX3_apply wsX3_apply ({ frames := 6, cells := 4, slots := 470, locals := 157 } : Room) (kPc D g [.ref (A 0), .int (nI b), .int ((-1) - nI n)] H) (kI (PubQ D g b0 H A σ (SpApply σ (nI b) ((-1) - nI n)))) 4 470 (kF b0) := by
  refine Met.ofW (cc := cX3_apply) (maxL := 5) (ret := (some .int)) (by decide) rfl ?_
  intro p e s m args below meth c s₁ B hml hv
  obtain ⟨rfl, hH, hK⟩ := hv
  have hx := B.exec
  have hb := B.bytes
  have hr := B.returns
  have hts := atoms_spec (ws := wsX3_apply) B.pre
  have hown : s.vm.findClass RX3 = some m.cls := findClass_of_methodNamed B.named
  have hlocks := B.notSynchronized
  rw [hH]
  have hl := lv_entry ([.ref (A 0), .int (nI b), .int ((-1) - nI n)]) (n := 5) (Nat.le_of_ble_eq_true rfl)
  rw [lg_entry_eq]
  generalize (lg_sl ([.ref (A 0), .int (nI b), .int ((-1) - nI n)]) ++ List.replicate (5 - (lg_sl ([.ref (A 0), .int (nI b), .int ((-1) - nI n)])).length) Slot.unset).toArray = ls at hl ⊢
  have hl : lv_has ls 5 [(0, .ref (A 0)), (1, .int (nI b)), (2, .int ((-1) - nI n))] := hl
  have hVB := hC.wf
  have hV4 : sV σ ≤ 400 := hVB.2.1
  have hB4 : sB σ ≤ 40 := hVB.2.2.2.1
  have hhd := hVB.2.2.2.2.1 b hb4
  obtain ⟨hbf, hbw, hbl1, hbl2, hbr⟩ := hC.bef hn
  have htl1 : cLive σ (17 + 4 * n) := clV n hn (by omega) (by omega)
  have htl2 : cLive σ (17 + 4 * n + 1) := clV n hn (by omega) (by omega)
  have hts1 : HA D H (A (17 + 4 * n)) (eO 1 [.ref (A (17 + 4 * n + 1))]) := by have := hC.ts hn; rw [show 18 + 4 * n = 17 + 4 * n + 1 by omega] at this; exact this
  have htw1 : HA D H (A (17 + 4 * n + 1)) (eL (g 2) 64 (sW σ n)) := by have := hC.tw hn; rw [show 18 + 4 * n = 17 + 4 * n + 1 by omega] at this; exact this
  refine lv_aload_n hx hb dX3_apply_0 rfl (lv_at hl 0 rfl) ?_
  refine lv_iload_n hx hb dX3_apply_1 rfl (lv_at hl 1 rfl) ?_
  refine k_callX (va_runV (As := [.int (nI b)]) (rest := []) ⟨hx, hb, hml, hown, hts⟩ (c_X3_branchAt_y l D g b0 H A σ dw hC b hb4) (cwV 1 hts gX3_apply_X3_branchAt rfl rfl rfl (by decide +kernel) ⟨Nat.le_of_ble_eq_true rfl, Nat.le_of_ble_eq_true rfl⟩) ⟨kPc_blind, k_recv hK hC.o rfl, fun U hU hW => kPc_at hK hU hW⟩ rfl rfl hl.1 rfl (lv_room (Nat.le_of_ble_eq_true rfl)) dX3_apply_2 ⟨Nat.le_of_ble_eq_true rfl, Nat.le_of_ble_eq_true rfl⟩) ?_
  refine lv_astore_n (lv' := [(3, .ref (A (2000 + b))), (0, .ref (A 0)), (1, .int (nI b)), (2, .int ((-1) - nI n))]) hx hb dX3_apply_5 rfl hl (by decide) rfl (fun ls hl => ?_)
  refine lv_aload_n hx hb dX3_apply_6 rfl (lv_at hl 1 rfl) ?_
  refine lv_iload_n hx hb dX3_apply_7 rfl (lv_at hl 3 rfl) ?_
  refine k_callX (va_runV (As := [.int ((-1) - nI n)]) (rest := []) ⟨hx, hb, hml, hown, hts⟩ (c_X3_changedBy_y2 l D g b0 H A σ dw hC n hn) (cwV 1 hts gX3_apply_X3_changedBy rfl rfl rfl (by decide +kernel) ⟨Nat.le_of_ble_eq_true rfl, Nat.le_of_ble_eq_true rfl⟩) ⟨kPc_blind, k_recv hK hC.o rfl, fun U hU hW => kPc_at hK hU hW⟩ rfl rfl hl.1 rfl (lv_room (Nat.le_of_ble_eq_true rfl)) dX3_apply_8 ⟨Nat.le_of_ble_eq_true rfl, Nat.le_of_ble_eq_true rfl⟩) ?_
  refine lv_astore (lv' := [(4, .ref (A (16 + 4 * n))), (3, .ref (A (2000 + b))), (0, .ref (A 0)), (1, .int (nI b)), (2, .int ((-1) - nI n))]) hx hb dX3_apply_11 hl (by decide) rfl (fun ls hl => ?_)
  refine lv_aload_n hx hb dX3_apply_13 rfl (lv_at hl 1 rfl) ?_
  refine lv_ifnull hx hb dX3_apply_14 ?_
  refine lv_aload hx hb dX3_apply_17 (lv_at hl 0 rfl) ?_
  refine lv_ifnonnull (tgt := 24) hx hb dX3_apply_19 (by decide) ?_
  refine lv_iload_n hx hb dX3_apply_24 rfl (lv_at hl 4 rfl) ?_
  refine lv_if_lt (tgt := 45) hx hb dX3_apply_25 (by decide) (fun c_770 => ?_) (fun c_770 => ?_)
  · skip
    refine lv_aload_n hx hb dX3_apply_45 rfl (lv_at hl 2 rfl) ?_
    refine lv_aload_n hx hb dX3_apply_46 rfl (lv_at hl 1 rfl) ?_
    refine lv_aload hx hb dX3_apply_47 (lv_at hl 0 rfl) ?_
    refine k_getN (ci := 2) (C := RX2) (T := TX2) (N := 5) (v := .ref (A (17 + 4 * n))) hx hb hts (by decide +kernel) hown hK (hC.ver hn) rfl 3 (by decide) rfl (List.mem_of_getElem? (i := 3) rfl) rfl dX3_apply_49 ?_
    refine lv_aload_n hx hb dX3_apply_52 rfl (lv_at hl 2 rfl) ?_
    refine lv_aload hx hb dX3_apply_53 (lv_at hl 0 rfl) ?_
    refine k_callX (va_runV (As := [.ref (A (16 + 4 * n))]) (rest := [.ref (A (17 + 4 * n)), .ref (A (2000 + b)), .ref (A 0)]) ⟨hx, hb, hml, hown, hts⟩ (c_X3_setBefore l D g b0 H A σ dw hC n hn) (cwV 1 hts gX3_apply_X3_setBefore rfl rfl rfl (by decide +kernel) ⟨Nat.le_of_ble_eq_true rfl, Nat.le_of_ble_eq_true rfl⟩) ⟨kPc_blind, k_recv hK hC.o rfl, fun U hU hW => kPc_at hK hU hW⟩ rfl rfl hl.1 rfl (lv_room (Nat.le_of_ble_eq_true rfl)) dX3_apply_55 ⟨Nat.le_of_ble_eq_true rfl, Nat.le_of_ble_eq_true rfl⟩) ?_
    refine k_callI (va_runV (As := [.ref (A (2000 + b)), .ref (A (17 + 4 * n)), .ref (A (befC σ n))]) (rest := []) ⟨hx, hb, hml, hown, hts⟩ (c_X3_lay l D g b0 H A σ dw hC hbH b hb4 (17 + 4 * n) (befC σ n) (sW σ n) (befW σ n) htl1 htl2 (by omega) (by omega) hts1 htw1 hbl1 hbl2 (by omega) (by omega) hbf hbw) (cwV 3 hts gX3_apply_X3_lay rfl rfl rfl (by decide +kernel) ⟨Nat.le_of_ble_eq_true rfl, Nat.le_of_ble_eq_true rfl⟩) ⟨kPc_blind, k_recv hK hC.o rfl, fun U hU hW => kPc_at hK hU hW⟩ rfl rfl hl.1 rfl (lv_room (Nat.le_of_ble_eq_true rfl)) dX3_apply_58 ⟨Nat.le_of_ble_eq_true rfl, Nat.le_of_ble_eq_true rfl⟩) LB.nil (fun ra Hz locsz hLBz hqz => ?_)
    refine W.widen (k := 4) (n := 470) (Nat.le_of_ble_eq_true rfl) (Nat.le_of_ble_eq_true rfl) ?_
    obtain ⟨Az, σz, dwz, hCz, hFz, hsz⟩ := hqz
    exact r_iI hx hb hr hLBz (Nat.le_of_ble_eq_true rfl) (Nat.le_of_ble_eq_true rfl) ⟨Az, σz, dwz, hCz, hFz, Or.inr ⟨b, n, hb4, hn, rfl, Or.inr ⟨rfl, hsz⟩⟩⟩ dX3_apply_61 hlocks
  · skip
    exact absurd (neg_lt (by omega)) c_770
theorem c_X3_apply (l : Launch) (D : va_G) (g : Nat → ClassId) (b0 : Nat) (H : Heap) (A : Nat → Nat) (σ : SG) (dw : Nat → Int64) (hC : CR D g b0 A σ dw H) (hbH : b0 ≤ H.size) (bi pi : Int32) : Met l yX3_apply wsX3_apply ({ frames := 6, cells := 4, slots := 470, locals := 157 } : Room) (kPc D g [.ref (A 0), .int bi, .int pi] H) (kI (PubQ D g b0 H A σ (SpApply σ bi pi))) 4 470 (kF b0) := by
  rcases br_dec σ bi with h | ⟨b, hb4, rfl⟩
  · exact c_X3_apply_n1 l D g b0 H A σ dw hC hbH bi pi h
  · rcases pa_dec σ pi with h | ⟨n, hn, rfl | rfl⟩
    · exact c_X3_apply_n2 l D g b0 H A σ dw hC hbH b hb4 pi h
    · exact c_X3_apply_y1 l D g b0 H A σ dw hC hbH b hb4 n hn
    · exact c_X3_apply_y2 l D g b0 H A σ dw hC hbH b hb4 n hn
set_option maxHeartbeats 4000000 in
set_option maxRecDepth 100000 in
/-- revert_n1 -/
theorem c_X3_revert_n1 (l : Launch) (D : va_G) (g : Nat → ClassId) (b0 : Nat) (H : Heap) (A : Nat → Nat) (σ : SG) (dw : Nat → Int64) (hC : CR D g b0 A σ dw H) (hbH : b0 ≤ H.size) (bi ni : Int32) (hN : BrN σ bi) : Met l yX3_revert wsX3_revert ({ frames := 6, cells := 4, slots := 470, locals := 157 } : Room) (kPc D g [.ref (A 0), .int (bi), .int (ni)] H) (kI (PubQ D g b0 H A σ (SpRevert σ bi ni))) 4 470 (kF b0) := by
  refine Met.ofW (cc := cX3_revert) (maxL := 5) (ret := (some .int)) (by decide) rfl ?_
  intro p e s m args below meth c s₁ B hml hv
  obtain ⟨rfl, hH, hK⟩ := hv
  have hx := B.exec
  have hb := B.bytes
  have hr := B.returns
  have hts := atoms_spec (ws := wsX3_revert) B.pre
  have hown : s.vm.findClass RX3 = some m.cls := findClass_of_methodNamed B.named
  have hlocks := B.notSynchronized
  rw [hH]
  have hl := lv_entry ([.ref (A 0), .int (bi), .int (ni)]) (n := 5) (Nat.le_of_ble_eq_true rfl)
  rw [lg_entry_eq]
  generalize (lg_sl ([.ref (A 0), .int (bi), .int (ni)]) ++ List.replicate (5 - (lg_sl ([.ref (A 0), .int (bi), .int (ni)])).length) Slot.unset).toArray = ls at hl ⊢
  have hl : lv_has ls 5 [(0, .ref (A 0)), (1, .int (bi)), (2, .int (ni))] := hl
  have hVB := hC.wf
  have hV4 : sV σ ≤ 400 := hVB.2.1
  have hB4 : sB σ ≤ 40 := hVB.2.2.2.1
  refine lv_aload_n hx hb dX3_revert_0 rfl (lv_at hl 0 rfl) ?_
  refine lv_iload_n hx hb dX3_revert_1 rfl (lv_at hl 1 rfl) ?_
  refine k_callX (va_runV (As := [.int (bi)]) (rest := []) ⟨hx, hb, hml, hown, hts⟩ (c_X3_branchAt_n l D g b0 H A σ dw hC bi hN) (cwV 1 hts gX3_revert_X3_branchAt rfl rfl rfl (by decide +kernel) ⟨Nat.le_of_ble_eq_true rfl, Nat.le_of_ble_eq_true rfl⟩) ⟨kPc_blind, k_recv hK hC.o rfl, fun U hU hW => kPc_at hK hU hW⟩ rfl rfl hl.1 rfl (lv_room (Nat.le_of_ble_eq_true rfl)) dX3_revert_2 ⟨Nat.le_of_ble_eq_true rfl, Nat.le_of_ble_eq_true rfl⟩) ?_
  refine lv_astore_nN (lv' := [(3, .null), (0, .ref (A 0)), (1, .int (bi)), (2, .int (ni))]) hx hb dX3_revert_5 rfl hl (by decide) rfl (fun ls hl => ?_)
  refine lv_aload_n hx hb dX3_revert_6 rfl (lv_at hl 1 rfl) ?_
  refine lv_iload_n hx hb dX3_revert_7 rfl (lv_at hl 3 rfl) ?_
  rcases ve_dec σ ni with hM | ⟨n, hn, rfl⟩
  · skip
    refine k_callX (va_runV (As := [.int (ni)]) (rest := []) ⟨hx, hb, hml, hown, hts⟩ (c_X3_versionAt_n l D g b0 H A σ dw hC ni hM) (cwV 1 hts gX3_revert_X3_versionAt rfl rfl rfl (by decide +kernel) ⟨Nat.le_of_ble_eq_true rfl, Nat.le_of_ble_eq_true rfl⟩) ⟨kPc_blind, k_recv hK hC.o rfl, fun U hU hW => kPc_at hK hU hW⟩ rfl rfl hl.1 rfl (lv_room (Nat.le_of_ble_eq_true rfl)) dX3_revert_8 ⟨Nat.le_of_ble_eq_true rfl, Nat.le_of_ble_eq_true rfl⟩) ?_
    refine lv_astoreN (lv' := [(4, .null), (3, .null), (0, .ref (A 0)), (1, .int (bi)), (2, .int (ni))]) hx hb dX3_revert_11 hl (by decide) rfl (fun ls hl => ?_)
    refine lv_aload_nN hx hb dX3_revert_13 rfl (lv_at hl 1 rfl) ?_
    refine lv_ifnullN (tgt := 22) hx hb dX3_revert_14 (by decide) ?_
    refine lv_iconst (v := (-1)) hx hb dX3_revert_22 (by decide +kernel) ?_
    exact r_iI hx hb hr LB.nil (Nat.le_of_ble_eq_true rfl) (Nat.le_of_ble_eq_true rfl) ⟨A, σ, dw, hC, CFr.rf, Or.inl ⟨Or.inl hN, rfl, rfl⟩⟩ dX3_revert_23 hlocks
  · skip
    refine k_callX (va_runV (As := [.int (nI n)]) (rest := []) ⟨hx, hb, hml, hown, hts⟩ (c_X3_versionAt_y l D g b0 H A σ dw hC n hn) (cwV 1 hts gX3_revert_X3_versionAt rfl rfl rfl (by decide +kernel) ⟨Nat.le_of_ble_eq_true rfl, Nat.le_of_ble_eq_true rfl⟩) ⟨kPc_blind, k_recv hK hC.o rfl, fun U hU hW => kPc_at hK hU hW⟩ rfl rfl hl.1 rfl (lv_room (Nat.le_of_ble_eq_true rfl)) dX3_revert_8 ⟨Nat.le_of_ble_eq_true rfl, Nat.le_of_ble_eq_true rfl⟩) ?_
    refine lv_astore (lv' := [(4, .ref (A (16 + 4 * n))), (3, .null), (0, .ref (A 0)), (1, .int (bi)), (2, .int (nI n))]) hx hb dX3_revert_11 hl (by decide) rfl (fun ls hl => ?_)
    refine lv_aload_nN hx hb dX3_revert_13 rfl (lv_at hl 1 rfl) ?_
    refine lv_ifnullN (tgt := 22) hx hb dX3_revert_14 (by decide) ?_
    refine lv_iconst (v := (-1)) hx hb dX3_revert_22 (by decide +kernel) ?_
    exact r_iI hx hb hr LB.nil (Nat.le_of_ble_eq_true rfl) (Nat.le_of_ble_eq_true rfl) ⟨A, σ, dw, hC, CFr.rf, Or.inl ⟨Or.inl hN, rfl, rfl⟩⟩ dX3_revert_23 hlocks
set_option maxHeartbeats 4000000 in
set_option maxRecDepth 100000 in
/-- revert_n2 -/
theorem c_X3_revert_n2 (l : Launch) (D : va_G) (g : Nat → ClassId) (b0 : Nat) (H : Heap) (A : Nat → Nat) (σ : SG) (dw : Nat → Int64) (hC : CR D g b0 A σ dw H) (hbH : b0 ≤ H.size) (b : Nat) (hb4 : b < sB σ) (ni : Int32) (hM : VeN σ ni) : Met l yX3_revert wsX3_revert ({ frames := 6, cells := 4, slots := 470, locals := 157 } : Room) (kPc D g [.ref (A 0), .int (nI b), .int (ni)] H) (kI (PubQ D g b0 H A σ (SpRevert σ (nI b) ni))) 4 470 (kF b0) := by
  refine Met.ofW (cc := cX3_revert) (maxL := 5) (ret := (some .int)) (by decide) rfl ?_
  intro p e s m args below meth c s₁ B hml hv
  obtain ⟨rfl, hH, hK⟩ := hv
  have hx := B.exec
  have hb := B.bytes
  have hr := B.returns
  have hts := atoms_spec (ws := wsX3_revert) B.pre
  have hown : s.vm.findClass RX3 = some m.cls := findClass_of_methodNamed B.named
  have hlocks := B.notSynchronized
  rw [hH]
  have hl := lv_entry ([.ref (A 0), .int (nI b), .int (ni)]) (n := 5) (Nat.le_of_ble_eq_true rfl)
  rw [lg_entry_eq]
  generalize (lg_sl ([.ref (A 0), .int (nI b), .int (ni)]) ++ List.replicate (5 - (lg_sl ([.ref (A 0), .int (nI b), .int (ni)])).length) Slot.unset).toArray = ls at hl ⊢
  have hl : lv_has ls 5 [(0, .ref (A 0)), (1, .int (nI b)), (2, .int (ni))] := hl
  have hVB := hC.wf
  have hV4 : sV σ ≤ 400 := hVB.2.1
  have hB4 : sB σ ≤ 40 := hVB.2.2.2.1
  refine lv_aload_n hx hb dX3_revert_0 rfl (lv_at hl 0 rfl) ?_
  refine lv_iload_n hx hb dX3_revert_1 rfl (lv_at hl 1 rfl) ?_
  refine k_callX (va_runV (As := [.int (nI b)]) (rest := []) ⟨hx, hb, hml, hown, hts⟩ (c_X3_branchAt_y l D g b0 H A σ dw hC b hb4) (cwV 1 hts gX3_revert_X3_branchAt rfl rfl rfl (by decide +kernel) ⟨Nat.le_of_ble_eq_true rfl, Nat.le_of_ble_eq_true rfl⟩) ⟨kPc_blind, k_recv hK hC.o rfl, fun U hU hW => kPc_at hK hU hW⟩ rfl rfl hl.1 rfl (lv_room (Nat.le_of_ble_eq_true rfl)) dX3_revert_2 ⟨Nat.le_of_ble_eq_true rfl, Nat.le_of_ble_eq_true rfl⟩) ?_
  refine lv_astore_n (lv' := [(3, .ref (A (2000 + b))), (0, .ref (A 0)), (1, .int (nI b)), (2, .int (ni))]) hx hb dX3_revert_5 rfl hl (by decide) rfl (fun ls hl => ?_)
  refine lv_aload_n hx hb dX3_revert_6 rfl (lv_at hl 1 rfl) ?_
  refine lv_iload_n hx hb dX3_revert_7 rfl (lv_at hl 3 rfl) ?_
  refine k_callX (va_runV (As := [.int (ni)]) (rest := []) ⟨hx, hb, hml, hown, hts⟩ (c_X3_versionAt_n l D g b0 H A σ dw hC ni hM) (cwV 1 hts gX3_revert_X3_versionAt rfl rfl rfl (by decide +kernel) ⟨Nat.le_of_ble_eq_true rfl, Nat.le_of_ble_eq_true rfl⟩) ⟨kPc_blind, k_recv hK hC.o rfl, fun U hU hW => kPc_at hK hU hW⟩ rfl rfl hl.1 rfl (lv_room (Nat.le_of_ble_eq_true rfl)) dX3_revert_8 ⟨Nat.le_of_ble_eq_true rfl, Nat.le_of_ble_eq_true rfl⟩) ?_
  refine lv_astoreN (lv' := [(4, .null), (3, .ref (A (2000 + b))), (0, .ref (A 0)), (1, .int (nI b)), (2, .int (ni))]) hx hb dX3_revert_11 hl (by decide) rfl (fun ls hl => ?_)
  refine lv_aload_n hx hb dX3_revert_13 rfl (lv_at hl 1 rfl) ?_
  refine lv_ifnull hx hb dX3_revert_14 ?_
  refine lv_aloadN hx hb dX3_revert_17 (lv_at hl 0 rfl) ?_
  refine lv_ifnonnullN hx hb dX3_revert_19 ?_
  refine lv_iconst (v := (-1)) hx hb dX3_revert_22 (by decide +kernel) ?_
  exact r_iI hx hb hr LB.nil (Nat.le_of_ble_eq_true rfl) (Nat.le_of_ble_eq_true rfl) ⟨A, σ, dw, hC, CFr.rf, Or.inl ⟨Or.inr hM, rfl, rfl⟩⟩ dX3_revert_23 hlocks
set_option maxHeartbeats 4000000 in
set_option maxRecDepth 100000 in
/-- revert_y1 -/
theorem c_X3_revert_y1 (l : Launch) (D : va_G) (g : Nat → ClassId) (b0 : Nat) (H : Heap) (A : Nat → Nat) (σ : SG) (dw : Nat → Int64) (hC : CR D g b0 A σ dw H) (hbH : b0 ≤ H.size) (b : Nat) (hb4 : b < sB σ) (n : Nat) (hn : n < sV σ) (hse : sS σ n = none) : Met l yX3_revert wsX3_revert ({ frames := 6, cells := 4, slots := 470, locals := 157 } : Room) (kPc D g [.ref (A 0), .int (nI b), .int (nI n)] H) (kI (PubQ D g b0 H A σ (SpRevert σ (nI b) (nI n)))) 4 470 (kF b0) := by
  refine Met.ofW (cc := cX3_revert) (maxL := 5) (ret := (some .int)) (by decide) rfl ?_
  intro p e s m args below meth c s₁ B hml hv
  obtain ⟨rfl, hH, hK⟩ := hv
  have hx := B.exec
  have hb := B.bytes
  have hr := B.returns
  have hts := atoms_spec (ws := wsX3_revert) B.pre
  have hown : s.vm.findClass RX3 = some m.cls := findClass_of_methodNamed B.named
  have hlocks := B.notSynchronized
  rw [hH]
  have hl := lv_entry ([.ref (A 0), .int (nI b), .int (nI n)]) (n := 5) (Nat.le_of_ble_eq_true rfl)
  rw [lg_entry_eq]
  generalize (lg_sl ([.ref (A 0), .int (nI b), .int (nI n)]) ++ List.replicate (5 - (lg_sl ([.ref (A 0), .int (nI b), .int (nI n)])).length) Slot.unset).toArray = ls at hl ⊢
  have hl : lv_has ls 5 [(0, .ref (A 0)), (1, .int (nI b)), (2, .int (nI n))] := hl
  have hVB := hC.wf
  have hV4 : sV σ ≤ 400 := hVB.2.1
  have hB4 : sB σ ≤ 40 := hVB.2.2.2.1
  have hhd := hVB.2.2.2.2.1 b hb4
  obtain ⟨hbf, hbw, hbl1, hbl2, hbr⟩ := hC.bef hn
  have htl1 : cLive σ (17 + 4 * n) := clV n hn (by omega) (by omega)
  have htl2 : cLive σ (17 + 4 * n + 1) := clV n hn (by omega) (by omega)
  have hts1 : HA D H (A (17 + 4 * n)) (eO 1 [.ref (A (17 + 4 * n + 1))]) := by have := hC.ts hn; rw [show 18 + 4 * n = 17 + 4 * n + 1 by omega] at this; exact this
  have htw1 : HA D H (A (17 + 4 * n + 1)) (eL (g 2) 64 (sW σ n)) := by have := hC.tw hn; rw [show 18 + 4 * n = 17 + 4 * n + 1 by omega] at this; exact this
  refine lv_aload_n hx hb dX3_revert_0 rfl (lv_at hl 0 rfl) ?_
  refine lv_iload_n hx hb dX3_revert_1 rfl (lv_at hl 1 rfl) ?_
  refine k_callX (va_runV (As := [.int (nI b)]) (rest := []) ⟨hx, hb, hml, hown, hts⟩ (c_X3_branchAt_y l D g b0 H A σ dw hC b hb4) (cwV 1 hts gX3_revert_X3_branchAt rfl rfl rfl (by decide +kernel) ⟨Nat.le_of_ble_eq_true rfl, Nat.le_of_ble_eq_true rfl⟩) ⟨kPc_blind, k_recv hK hC.o rfl, fun U hU hW => kPc_at hK hU hW⟩ rfl rfl hl.1 rfl (lv_room (Nat.le_of_ble_eq_true rfl)) dX3_revert_2 ⟨Nat.le_of_ble_eq_true rfl, Nat.le_of_ble_eq_true rfl⟩) ?_
  refine lv_astore_n (lv' := [(3, .ref (A (2000 + b))), (0, .ref (A 0)), (1, .int (nI b)), (2, .int (nI n))]) hx hb dX3_revert_5 rfl hl (by decide) rfl (fun ls hl => ?_)
  refine lv_aload_n hx hb dX3_revert_6 rfl (lv_at hl 1 rfl) ?_
  refine lv_iload_n hx hb dX3_revert_7 rfl (lv_at hl 3 rfl) ?_
  refine k_callX (va_runV (As := [.int (nI n)]) (rest := []) ⟨hx, hb, hml, hown, hts⟩ (c_X3_versionAt_y l D g b0 H A σ dw hC n hn) (cwV 1 hts gX3_revert_X3_versionAt rfl rfl rfl (by decide +kernel) ⟨Nat.le_of_ble_eq_true rfl, Nat.le_of_ble_eq_true rfl⟩) ⟨kPc_blind, k_recv hK hC.o rfl, fun U hU hW => kPc_at hK hU hW⟩ rfl rfl hl.1 rfl (lv_room (Nat.le_of_ble_eq_true rfl)) dX3_revert_8 ⟨Nat.le_of_ble_eq_true rfl, Nat.le_of_ble_eq_true rfl⟩) ?_
  refine lv_astore (lv' := [(4, .ref (A (16 + 4 * n))), (3, .ref (A (2000 + b))), (0, .ref (A 0)), (1, .int (nI b)), (2, .int (nI n))]) hx hb dX3_revert_11 hl (by decide) rfl (fun ls hl => ?_)
  refine lv_aload_n hx hb dX3_revert_13 rfl (lv_at hl 1 rfl) ?_
  refine lv_ifnull hx hb dX3_revert_14 ?_
  refine lv_aload hx hb dX3_revert_17 (lv_at hl 0 rfl) ?_
  refine lv_ifnonnull (tgt := 24) hx hb dX3_revert_19 (by decide) ?_
  refine lv_aload_n hx hb dX3_revert_24 rfl (lv_at hl 1 rfl) ?_
  refine k_getN (ci := 0) (C := RX0) (T := TX0) (N := 1) (v := .ref (A (16 + 4 * (sH σ b)))) hx hb hts (by decide +kernel) hown hK (hC.ba hb4) rfl 0 (by decide) rfl (List.mem_of_getElem? (i := 4) rfl) rfl dX3_revert_25 ?_
  refine lv_iload_n hx hb dX3_revert_28 rfl (lv_at hl 4 rfl) ?_
  refine k_callX (va_runVN (As := [.int (nI n)]) (rest := []) ⟨hx, hb, hml, hown, hts⟩ (c_X2_hasAncestor l D g H _ _ _ _ _ _ (sA σ (sH σ b)) (hC.ver hhd) (hC.an hhd) n (by omega)) ⟨va_cnB 1 hts gX3_revert_X2_hasAncestor_n93 rfl rfl rfl (hK.2.1 _ (List.mem_of_getElem? (i := 11) rfl)) (hts (.initialized RX2) (by decide +kernel)) (by decide +kernel) ⟨Nat.le_of_ble_eq_true rfl, Nat.le_of_ble_eq_true rfl⟩, hts (.instanceMethod yX2_hasAncestor) (by decide +kernel), hts (.selects RX2 yX2_hasAncestor yX2_hasAncestor) (by decide +kernel)⟩ ⟨kPc_blind, k_recv hK (hC.ver hhd) rfl, fun U hU hW => kPc_at hK hU hW⟩ rfl rfl hl.1 rfl (lv_room (Nat.le_of_ble_eq_true rfl)) dX3_revert_29 ⟨Nat.le_of_ble_eq_true rfl, Nat.le_of_ble_eq_true rfl⟩) ?_
  refine z_if_eq (tgt := 43) hx hb dX3_revert_32 (by decide) (fun c_771 => ?_) (fun c_771 => ?_)
  · skip
    refine lv_bipush (v := (-3)) hx hb dX3_revert_43 (by decide +kernel) ?_
    exact r_iI hx hb hr LB.nil (Nat.le_of_ble_eq_true rfl) (Nat.le_of_ble_eq_true rfl) ⟨A, σ, dw, hC, CFr.rf, Or.inr ⟨b, n, hb4, hn, rfl, rfl, Or.inl ⟨Or.inl c_771, by decide +kernel, rfl⟩⟩⟩ dX3_revert_45 hlocks
  · skip
    refine lv_aload hx hb dX3_revert_35 (lv_at hl 0 rfl) ?_
    refine k_getN (ci := 2) (C := RX2) (T := TX2) (N := 5) (v := .null) hx hb hts (by decide +kernel) hown hK (hC.verS0 hn hse) rfl 2 (by decide) rfl (List.mem_of_getElem? (i := 2) rfl) rfl dX3_revert_37 ?_
    refine lv_ifnullN (tgt := 46) hx hb dX3_revert_40 (by decide) ?_
    refine lv_aload_n hx hb dX3_revert_46 rfl (lv_at hl 2 rfl) ?_
    refine lv_aload_n hx hb dX3_revert_47 rfl (lv_at hl 1 rfl) ?_
    refine lv_aload hx hb dX3_revert_48 (lv_at hl 0 rfl) ?_
    refine k_getN (ci := 2) (C := RX2) (T := TX2) (N := 5) (v := .ref (A (17 + 4 * n))) hx hb hts (by decide +kernel) hown hK (hC.verS0 hn hse) rfl 3 (by decide) rfl (List.mem_of_getElem? (i := 3) rfl) rfl dX3_revert_50 ?_
    refine lv_aload_n hx hb dX3_revert_53 rfl (lv_at hl 2 rfl) ?_
    refine lv_aload hx hb dX3_revert_54 (lv_at hl 0 rfl) ?_
    refine k_callX (va_runV (As := [.ref (A (16 + 4 * n))]) (rest := [.ref (A (17 + 4 * n)), .ref (A (2000 + b)), .ref (A 0)]) ⟨hx, hb, hml, hown, hts⟩ (c_X3_setBefore l D g b0 H A σ dw hC n hn) (cwV 1 hts gX3_revert_X3_setBefore rfl rfl rfl (by decide +kernel) ⟨Nat.le_of_ble_eq_true rfl, Nat.le_of_ble_eq_true rfl⟩) ⟨kPc_blind, k_recv hK hC.o rfl, fun U hU hW => kPc_at hK hU hW⟩ rfl rfl hl.1 rfl (lv_room (Nat.le_of_ble_eq_true rfl)) dX3_revert_56 ⟨Nat.le_of_ble_eq_true rfl, Nat.le_of_ble_eq_true rfl⟩) ?_
    refine k_callI (va_runV (As := [.ref (A (2000 + b)), .ref (A (17 + 4 * n)), .ref (A (befC σ n))]) (rest := []) ⟨hx, hb, hml, hown, hts⟩ (c_X3_lay l D g b0 H A σ dw hC hbH b hb4 (17 + 4 * n) (befC σ n) (sW σ n) (befW σ n) htl1 htl2 (by omega) (by omega) hts1 htw1 hbl1 hbl2 (by omega) (by omega) hbf hbw) (cwV 3 hts gX3_revert_X3_lay rfl rfl rfl (by decide +kernel) ⟨Nat.le_of_ble_eq_true rfl, Nat.le_of_ble_eq_true rfl⟩) ⟨kPc_blind, k_recv hK hC.o rfl, fun U hU hW => kPc_at hK hU hW⟩ rfl rfl hl.1 rfl (lv_room (Nat.le_of_ble_eq_true rfl)) dX3_revert_59 ⟨Nat.le_of_ble_eq_true rfl, Nat.le_of_ble_eq_true rfl⟩) LB.nil (fun ra Hz locsz hLBz hqz => ?_)
    refine W.widen (k := 4) (n := 470) (Nat.le_of_ble_eq_true rfl) (Nat.le_of_ble_eq_true rfl) ?_
    obtain ⟨Az, σz, dwz, hCz, hFz, hsz⟩ := hqz
    exact r_iI hx hb hr hLBz (Nat.le_of_ble_eq_true rfl) (Nat.le_of_ble_eq_true rfl) ⟨Az, σz, dwz, hCz, hFz, Or.inr ⟨b, n, hb4, hn, rfl, rfl, Or.inr ⟨c_771, hse, hsz⟩⟩⟩ dX3_revert_62 hlocks
set_option maxHeartbeats 4000000 in
set_option maxRecDepth 100000 in
/-- revert_y2 -/
theorem c_X3_revert_y2 (l : Launch) (D : va_G) (g : Nat → ClassId) (b0 : Nat) (H : Heap) (A : Nat → Nat) (σ : SG) (dw : Nat → Int64) (hC : CR D g b0 A σ dw H) (hbH : b0 ≤ H.size) (b : Nat) (hb4 : b < sB σ) (n : Nat) (hn : n < sV σ) (p2 : Nat) (hse : sS σ n = some p2) : Met l yX3_revert wsX3_revert ({ frames := 6, cells := 4, slots := 470, locals := 157 } : Room) (kPc D g [.ref (A 0), .int (nI b), .int (nI n)] H) (kI (PubQ D g b0 H A σ (SpRevert σ (nI b) (nI n)))) 4 470 (kF b0) := by
  refine Met.ofW (cc := cX3_revert) (maxL := 5) (ret := (some .int)) (by decide) rfl ?_
  intro p e s m args below meth c s₁ B hml hv
  obtain ⟨rfl, hH, hK⟩ := hv
  have hx := B.exec
  have hb := B.bytes
  have hr := B.returns
  have hts := atoms_spec (ws := wsX3_revert) B.pre
  have hown : s.vm.findClass RX3 = some m.cls := findClass_of_methodNamed B.named
  have hlocks := B.notSynchronized
  rw [hH]
  have hl := lv_entry ([.ref (A 0), .int (nI b), .int (nI n)]) (n := 5) (Nat.le_of_ble_eq_true rfl)
  rw [lg_entry_eq]
  generalize (lg_sl ([.ref (A 0), .int (nI b), .int (nI n)]) ++ List.replicate (5 - (lg_sl ([.ref (A 0), .int (nI b), .int (nI n)])).length) Slot.unset).toArray = ls at hl ⊢
  have hl : lv_has ls 5 [(0, .ref (A 0)), (1, .int (nI b)), (2, .int (nI n))] := hl
  have hVB := hC.wf
  have hV4 : sV σ ≤ 400 := hVB.2.1
  have hB4 : sB σ ≤ 40 := hVB.2.2.2.1
  have hhd := hVB.2.2.2.2.1 b hb4
  obtain ⟨hbf, hbw, hbl1, hbl2, hbr⟩ := hC.bef hn
  have htl1 : cLive σ (17 + 4 * n) := clV n hn (by omega) (by omega)
  have htl2 : cLive σ (17 + 4 * n + 1) := clV n hn (by omega) (by omega)
  have hts1 : HA D H (A (17 + 4 * n)) (eO 1 [.ref (A (17 + 4 * n + 1))]) := by have := hC.ts hn; rw [show 18 + 4 * n = 17 + 4 * n + 1 by omega] at this; exact this
  have htw1 : HA D H (A (17 + 4 * n + 1)) (eL (g 2) 64 (sW σ n)) := by have := hC.tw hn; rw [show 18 + 4 * n = 17 + 4 * n + 1 by omega] at this; exact this
  refine lv_aload_n hx hb dX3_revert_0 rfl (lv_at hl 0 rfl) ?_
  refine lv_iload_n hx hb dX3_revert_1 rfl (lv_at hl 1 rfl) ?_
  refine k_callX (va_runV (As := [.int (nI b)]) (rest := []) ⟨hx, hb, hml, hown, hts⟩ (c_X3_branchAt_y l D g b0 H A σ dw hC b hb4) (cwV 1 hts gX3_revert_X3_branchAt rfl rfl rfl (by decide +kernel) ⟨Nat.le_of_ble_eq_true rfl, Nat.le_of_ble_eq_true rfl⟩) ⟨kPc_blind, k_recv hK hC.o rfl, fun U hU hW => kPc_at hK hU hW⟩ rfl rfl hl.1 rfl (lv_room (Nat.le_of_ble_eq_true rfl)) dX3_revert_2 ⟨Nat.le_of_ble_eq_true rfl, Nat.le_of_ble_eq_true rfl⟩) ?_
  refine lv_astore_n (lv' := [(3, .ref (A (2000 + b))), (0, .ref (A 0)), (1, .int (nI b)), (2, .int (nI n))]) hx hb dX3_revert_5 rfl hl (by decide) rfl (fun ls hl => ?_)
  refine lv_aload_n hx hb dX3_revert_6 rfl (lv_at hl 1 rfl) ?_
  refine lv_iload_n hx hb dX3_revert_7 rfl (lv_at hl 3 rfl) ?_
  refine k_callX (va_runV (As := [.int (nI n)]) (rest := []) ⟨hx, hb, hml, hown, hts⟩ (c_X3_versionAt_y l D g b0 H A σ dw hC n hn) (cwV 1 hts gX3_revert_X3_versionAt rfl rfl rfl (by decide +kernel) ⟨Nat.le_of_ble_eq_true rfl, Nat.le_of_ble_eq_true rfl⟩) ⟨kPc_blind, k_recv hK hC.o rfl, fun U hU hW => kPc_at hK hU hW⟩ rfl rfl hl.1 rfl (lv_room (Nat.le_of_ble_eq_true rfl)) dX3_revert_8 ⟨Nat.le_of_ble_eq_true rfl, Nat.le_of_ble_eq_true rfl⟩) ?_
  refine lv_astore (lv' := [(4, .ref (A (16 + 4 * n))), (3, .ref (A (2000 + b))), (0, .ref (A 0)), (1, .int (nI b)), (2, .int (nI n))]) hx hb dX3_revert_11 hl (by decide) rfl (fun ls hl => ?_)
  refine lv_aload_n hx hb dX3_revert_13 rfl (lv_at hl 1 rfl) ?_
  refine lv_ifnull hx hb dX3_revert_14 ?_
  refine lv_aload hx hb dX3_revert_17 (lv_at hl 0 rfl) ?_
  refine lv_ifnonnull (tgt := 24) hx hb dX3_revert_19 (by decide) ?_
  refine lv_aload_n hx hb dX3_revert_24 rfl (lv_at hl 1 rfl) ?_
  refine k_getN (ci := 0) (C := RX0) (T := TX0) (N := 1) (v := .ref (A (16 + 4 * (sH σ b)))) hx hb hts (by decide +kernel) hown hK (hC.ba hb4) rfl 0 (by decide) rfl (List.mem_of_getElem? (i := 4) rfl) rfl dX3_revert_25 ?_
  refine lv_iload_n hx hb dX3_revert_28 rfl (lv_at hl 4 rfl) ?_
  refine k_callX (va_runVN (As := [.int (nI n)]) (rest := []) ⟨hx, hb, hml, hown, hts⟩ (c_X2_hasAncestor l D g H _ _ _ _ _ _ (sA σ (sH σ b)) (hC.ver hhd) (hC.an hhd) n (by omega)) ⟨va_cnB 1 hts gX3_revert_X2_hasAncestor_n93 rfl rfl rfl (hK.2.1 _ (List.mem_of_getElem? (i := 11) rfl)) (hts (.initialized RX2) (by decide +kernel)) (by decide +kernel) ⟨Nat.le_of_ble_eq_true rfl, Nat.le_of_ble_eq_true rfl⟩, hts (.instanceMethod yX2_hasAncestor) (by decide +kernel), hts (.selects RX2 yX2_hasAncestor yX2_hasAncestor) (by decide +kernel)⟩ ⟨kPc_blind, k_recv hK (hC.ver hhd) rfl, fun U hU hW => kPc_at hK hU hW⟩ rfl rfl hl.1 rfl (lv_room (Nat.le_of_ble_eq_true rfl)) dX3_revert_29 ⟨Nat.le_of_ble_eq_true rfl, Nat.le_of_ble_eq_true rfl⟩) ?_
  refine z_if_eq (tgt := 43) hx hb dX3_revert_32 (by decide) (fun c_772 => ?_) (fun c_772 => ?_)
  · skip
    refine lv_bipush (v := (-3)) hx hb dX3_revert_43 (by decide +kernel) ?_
    exact r_iI hx hb hr LB.nil (Nat.le_of_ble_eq_true rfl) (Nat.le_of_ble_eq_true rfl) ⟨A, σ, dw, hC, CFr.rf, Or.inr ⟨b, n, hb4, hn, rfl, rfl, Or.inl ⟨Or.inl c_772, by decide +kernel, rfl⟩⟩⟩ dX3_revert_45 hlocks
  · skip
    refine lv_aload hx hb dX3_revert_35 (lv_at hl 0 rfl) ?_
    refine k_getN (ci := 2) (C := RX2) (T := TX2) (N := 5) (v := .ref (A (16 + 4 * p2))) hx hb hts (by decide +kernel) hown hK (hC.verS1 hn hse) rfl 2 (by decide) rfl (List.mem_of_getElem? (i := 2) rfl) rfl dX3_revert_37 ?_
    refine lv_ifnull hx hb dX3_revert_40 ?_
    refine lv_bipush (v := (-3)) hx hb dX3_revert_43 (by decide +kernel) ?_
    exact r_iI hx hb hr LB.nil (Nat.le_of_ble_eq_true rfl) (Nat.le_of_ble_eq_true rfl) ⟨A, σ, dw, hC, CFr.rf, Or.inr ⟨b, n, hb4, hn, rfl, rfl, Or.inl ⟨Or.inr (fun z => by rw [hse] at z; cases z), by decide +kernel, rfl⟩⟩⟩ dX3_revert_45 hlocks
theorem c_X3_revert (l : Launch) (D : va_G) (g : Nat → ClassId) (b0 : Nat) (H : Heap) (A : Nat → Nat) (σ : SG) (dw : Nat → Int64) (hC : CR D g b0 A σ dw H) (hbH : b0 ≤ H.size) (bi ni : Int32) : Met l yX3_revert wsX3_revert ({ frames := 6, cells := 4, slots := 470, locals := 157 } : Room) (kPc D g [.ref (A 0), .int bi, .int ni] H) (kI (PubQ D g b0 H A σ (SpRevert σ bi ni))) 4 470 (kF b0) := by
  rcases br_dec σ bi with h | ⟨b, hb4, rfl⟩
  · exact c_X3_revert_n1 l D g b0 H A σ dw hC hbH bi ni h
  · rcases ve_dec σ ni with h | ⟨n, hn, rfl⟩
    · exact c_X3_revert_n2 l D g b0 H A σ dw hC hbH b hb4 ni h
    · cases hse : sS σ n with
      | none => exact c_X3_revert_y1 l D g b0 H A σ dw hC hbH b hb4 n hn hse
      | some p2 => exact c_X3_revert_y2 l D g b0 H A σ dw hC hbH b hb4 n hn p2 hse
set_option maxHeartbeats 4000000 in
set_option maxRecDepth 100000 in
/-- branch_n -/
theorem c_X3_branch_n (l : Launch) (D : va_G) (g : Nat → ClassId) (b0 : Nat) (H : Heap) (A : Nat → Nat) (σ : SG) (dw : Nat → Int64) (hC : CR D g b0 A σ dw H) (hbH : b0 ≤ H.size) (i : Int32) (hN : BrN σ i) (hm : ¬ i = -1) : Met l yX3_branch wsX3_branch ({ frames := 4, cells := 5, slots := 471, locals := 109 } : Room) (kPc D g [.ref (A 0), .int (i)] H) (kI (PubQ D g b0 H A σ (SpBranch σ i))) 5 471 (kF b0) := by
  refine Met.ofW (cc := cX3_branch) (maxL := 3) (ret := (some .int)) (by decide) rfl ?_
  intro p e s m args below meth c s₁ B hml hv
  obtain ⟨rfl, hH, hK⟩ := hv
  have hx := B.exec
  have hb := B.bytes
  have hr := B.returns
  have hts := atoms_spec (ws := wsX3_branch) B.pre
  have hown : s.vm.findClass RX3 = some m.cls := findClass_of_methodNamed B.named
  have hlocks := B.notSynchronized
  rw [hH]
  have hl := lv_entry ([.ref (A 0), .int (i)]) (n := 3) (Nat.le_of_ble_eq_true rfl)
  rw [lg_entry_eq]
  generalize (lg_sl ([.ref (A 0), .int (i)]) ++ List.replicate (3 - (lg_sl ([.ref (A 0), .int (i)])).length) Slot.unset).toArray = ls at hl ⊢
  have hl : lv_has ls 3 [(0, .ref (A 0)), (1, .int (i))] := hl
  have hVB := hC.wf
  have hV4 : sV σ ≤ 400 := hVB.2.1
  have hB4 : sB σ ≤ 40 := hVB.2.2.2.1
  refine lv_aload_n hx hb dX3_branch_0 rfl (lv_at hl 0 rfl) ?_
  refine lv_iload_n hx hb dX3_branch_1 rfl (lv_at hl 1 rfl) ?_
  refine k_callX (va_runV (As := [.int (i)]) (rest := []) ⟨hx, hb, hml, hown, hts⟩ (c_X3_branchAt_n l D g b0 H A σ dw hC i hN) (cwV 1 hts gX3_branch_X3_branchAt rfl rfl rfl (by decide +kernel) ⟨Nat.le_of_ble_eq_true rfl, Nat.le_of_ble_eq_true rfl⟩) ⟨kPc_blind, k_recv hK hC.o rfl, fun U hU hW => kPc_at hK hU hW⟩ rfl rfl hl.1 rfl (lv_room (Nat.le_of_ble_eq_true rfl)) dX3_branch_2 ⟨Nat.le_of_ble_eq_true rfl, Nat.le_of_ble_eq_true rfl⟩) ?_
  refine lv_astore_nN (lv' := [(2, .null), (0, .ref (A 0)), (1, .int (i))]) hx hb dX3_branch_5 rfl hl (by decide) rfl (fun ls hl => ?_)
  refine lv_aload_nN hx hb dX3_branch_6 rfl (lv_at hl 0 rfl) ?_
  refine lv_ifnonnullN hx hb dX3_branch_7 ?_
  refine lv_iload_n hx hb dX3_branch_10 rfl (lv_at hl 2 rfl) ?_
  refine lv_iconst (v := (-1)) hx hb dX3_branch_11 (by decide +kernel) ?_
  refine lv_icmp_eq (tgt := 17) hx hb dX3_branch_12 (by decide) (fun c_773 => ?_) (fun c_773 => ?_)
  · skip
    exact absurd c_773 hm
  · skip
    refine lv_iconst (v := (-1)) hx hb dX3_branch_15 (by decide +kernel) ?_
    exact r_iI hx hb hr LB.nil (Nat.le_of_ble_eq_true rfl) (Nat.le_of_ble_eq_true rfl) ⟨A, σ, dw, hC, CFr.rf, Or.inl ⟨hN, hm, rfl, rfl⟩⟩ dX3_branch_16 hlocks
set_option maxHeartbeats 4000000 in
set_option maxRecDepth 100000 in
/-- branch_y -/
theorem c_X3_branch_y (l : Launch) (D : va_G) (g : Nat → ClassId) (b0 : Nat) (H : Heap) (A : Nat → Nat) (σ : SG) (dw : Nat → Int64) (hC : CR D g b0 A σ dw H) (hbH : b0 ≤ H.size) (b : Nat) (hb4 : b < sB σ) : Met l yX3_branch wsX3_branch ({ frames := 4, cells := 5, slots := 471, locals := 109 } : Room) (kPc D g [.ref (A 0), .int (nI b)] H) (kI (PubQ D g b0 H A σ (SpBranch σ (nI b)))) 5 471 (kF b0) := by
  refine Met.ofW (cc := cX3_branch) (maxL := 3) (ret := (some .int)) (by decide) rfl ?_
  intro p e s m args below meth c s₁ B hml hv
  obtain ⟨rfl, hH, hK⟩ := hv
  have hx := B.exec
  have hb := B.bytes
  have hr := B.returns
  have hts := atoms_spec (ws := wsX3_branch) B.pre
  have hown : s.vm.findClass RX3 = some m.cls := findClass_of_methodNamed B.named
  have hlocks := B.notSynchronized
  rw [hH]
  have hl := lv_entry ([.ref (A 0), .int (nI b)]) (n := 3) (Nat.le_of_ble_eq_true rfl)
  rw [lg_entry_eq]
  generalize (lg_sl ([.ref (A 0), .int (nI b)]) ++ List.replicate (3 - (lg_sl ([.ref (A 0), .int (nI b)])).length) Slot.unset).toArray = ls at hl ⊢
  have hl : lv_has ls 3 [(0, .ref (A 0)), (1, .int (nI b))] := hl
  have hVB := hC.wf
  have hV4 : sV σ ≤ 400 := hVB.2.1
  have hB4 : sB σ ≤ 40 := hVB.2.2.2.1
  have hhd := hVB.2.2.2.2.1 b hb4
  refine lv_aload_n hx hb dX3_branch_0 rfl (lv_at hl 0 rfl) ?_
  refine lv_iload_n hx hb dX3_branch_1 rfl (lv_at hl 1 rfl) ?_
  refine k_callX (va_runV (As := [.int (nI b)]) (rest := []) ⟨hx, hb, hml, hown, hts⟩ (c_X3_branchAt_y l D g b0 H A σ dw hC b hb4) (cwV 1 hts gX3_branch_X3_branchAt rfl rfl rfl (by decide +kernel) ⟨Nat.le_of_ble_eq_true rfl, Nat.le_of_ble_eq_true rfl⟩) ⟨kPc_blind, k_recv hK hC.o rfl, fun U hU hW => kPc_at hK hU hW⟩ rfl rfl hl.1 rfl (lv_room (Nat.le_of_ble_eq_true rfl)) dX3_branch_2 ⟨Nat.le_of_ble_eq_true rfl, Nat.le_of_ble_eq_true rfl⟩) ?_
  refine lv_astore_n (lv' := [(2, .ref (A (2000 + b))), (0, .ref (A 0)), (1, .int (nI b))]) hx hb dX3_branch_5 rfl hl (by decide) rfl (fun ls hl => ?_)
  refine lv_aload_n hx hb dX3_branch_6 rfl (lv_at hl 0 rfl) ?_
  refine lv_ifnonnull (tgt := 17) hx hb dX3_branch_7 (by decide) ?_
  refine lv_aload_n hx hb dX3_branch_17 rfl (lv_at hl 1 rfl) ?_
  refine k_get (ci := 3) (C := RX3) (T := TX3) (N := 7) (v := .int (nI (sB σ))) hx hb hts (by decide +kernel) hown hK hC.o rfl 3 (by decide) rfl (hts (.fieldLink RX3 46 RX3 "branchCount" "I") (by decide +kernel)) rfl dX3_branch_18 ?_
  refine lv_bipush (v := nI 40) hx hb dX3_branch_21 (by decide +kernel) ?_
  refine n_icmp_lt (tgt := 29) hx hb dX3_branch_23 (by decide) (by omega) (by omega) (fun c_774 => ?_) (fun c_774 => ?_)
  · skip
    refine lv_aload_n hx hb dX3_branch_29 rfl (lv_at hl 1 rfl) ?_
    refine lv_aload_n hx hb dX3_branch_30 rfl (lv_at hl 0 rfl) ?_
    refine lv_ifnonnull (tgt := 47) hx hb dX3_branch_31 (by decide) ?_
    refine lv_aload_n hx hb dX3_branch_47 rfl (lv_at hl 0 rfl) ?_
    refine k_getN (ci := 0) (C := RX0) (T := TX0) (N := 1) (v := .ref (A (16 + 4 * (sH σ b)))) hx hb hts (by decide +kernel) hown hK (hC.ba hb4) rfl 0 (by decide) rfl (List.mem_of_getElem? (i := 4) rfl) rfl dX3_branch_48 ?_
    refine k_callI (va_runV (As := [.ref (A (16 + 4 * (sH σ b)))]) (rest := []) ⟨hx, hb, hml, hown, hts⟩ (c_X3_addBranch l D g b0 H A σ dw hC hbH c_774 (sH σ b) hhd) (cwV 1 hts gX3_branch_X3_addBranch rfl rfl rfl (by decide +kernel) ⟨Nat.le_of_ble_eq_true rfl, Nat.le_of_ble_eq_true rfl⟩) ⟨kPc_blind, k_recv hK hC.o rfl, fun U hU hW => kPc_at hK hU hW⟩ rfl rfl hl.1 rfl (lv_room (Nat.le_of_ble_eq_true rfl)) dX3_branch_51 ⟨Nat.le_of_ble_eq_true rfl, Nat.le_of_ble_eq_true rfl⟩) LB.nil (fun ra Hz locsz hLBz hqz => ?_)
    refine W.widen (k := 1) (n := 1) (Nat.le_of_ble_eq_true rfl) (Nat.le_of_ble_eq_true rfl) ?_
    obtain ⟨hra, Az, hCz, hFz⟩ := hqz
    exact r_iI hx hb hr hLBz (Nat.le_of_ble_eq_true rfl) (Nat.le_of_ble_eq_true rfl) ⟨Az, _, dw, hCz, hFz, Or.inr (Or.inr (Or.inl ⟨b, hb4, rfl, c_774, hra, rfl⟩))⟩ dX3_branch_54 hlocks
  · skip
    refine lv_bipush (v := (-4)) hx hb dX3_branch_26 (by decide +kernel) ?_
    exact r_iI hx hb hr LB.nil (Nat.le_of_ble_eq_true rfl) (Nat.le_of_ble_eq_true rfl) ⟨A, σ, dw, hC, CFr.rf, Or.inr (Or.inl ⟨by omega, Or.inr ⟨b, hb4, rfl⟩, by decide +kernel, rfl⟩)⟩ dX3_branch_28 hlocks
set_option maxHeartbeats 4000000 in
set_option maxRecDepth 100000 in
/-- branch_m -/
theorem c_X3_branch_m (l : Launch) (D : va_G) (g : Nat → ClassId) (b0 : Nat) (H : Heap) (A : Nat → Nat) (σ : SG) (dw : Nat → Int64) (hC : CR D g b0 A σ dw H) (hbH : b0 ≤ H.size)  : Met l yX3_branch wsX3_branch ({ frames := 4, cells := 5, slots := 471, locals := 109 } : Room) (kPc D g [.ref (A 0), .int ((-1))] H) (kI (PubQ D g b0 H A σ (SpBranch σ (-1)))) 5 471 (kF b0) := by
  refine Met.ofW (cc := cX3_branch) (maxL := 3) (ret := (some .int)) (by decide) rfl ?_
  intro p e s m args below meth c s₁ B hml hv
  obtain ⟨rfl, hH, hK⟩ := hv
  have hx := B.exec
  have hb := B.bytes
  have hr := B.returns
  have hts := atoms_spec (ws := wsX3_branch) B.pre
  have hown : s.vm.findClass RX3 = some m.cls := findClass_of_methodNamed B.named
  have hlocks := B.notSynchronized
  rw [hH]
  have hl := lv_entry ([.ref (A 0), .int ((-1))]) (n := 3) (Nat.le_of_ble_eq_true rfl)
  rw [lg_entry_eq]
  generalize (lg_sl ([.ref (A 0), .int ((-1))]) ++ List.replicate (3 - (lg_sl ([.ref (A 0), .int ((-1))])).length) Slot.unset).toArray = ls at hl ⊢
  have hl : lv_has ls 3 [(0, .ref (A 0)), (1, .int ((-1)))] := hl
  have hVB := hC.wf
  have hV4 : sV σ ≤ 400 := hVB.2.1
  have hB4 : sB σ ≤ 40 := hVB.2.2.2.1
  have hN : BrN σ (-1) := fun b hb e => nI_neg (by omega) e.symm
  refine lv_aload_n hx hb dX3_branch_0 rfl (lv_at hl 0 rfl) ?_
  refine lv_iload_n hx hb dX3_branch_1 rfl (lv_at hl 1 rfl) ?_
  refine k_callX (va_runV (As := [.int ((-1))]) (rest := []) ⟨hx, hb, hml, hown, hts⟩ (c_X3_branchAt_n l D g b0 H A σ dw hC (-1) hN) (cwV 1 hts gX3_branch_X3_branchAt rfl rfl rfl (by decide +kernel) ⟨Nat.le_of_ble_eq_true rfl, Nat.le_of_ble_eq_true rfl⟩) ⟨kPc_blind, k_recv hK hC.o rfl, fun U hU hW => kPc_at hK hU hW⟩ rfl rfl hl.1 rfl (lv_room (Nat.le_of_ble_eq_true rfl)) dX3_branch_2 ⟨Nat.le_of_ble_eq_true rfl, Nat.le_of_ble_eq_true rfl⟩) ?_
  refine lv_astore_nN (lv' := [(2, .null), (0, .ref (A 0)), (1, .int ((-1)))]) hx hb dX3_branch_5 rfl hl (by decide) rfl (fun ls hl => ?_)
  refine lv_aload_nN hx hb dX3_branch_6 rfl (lv_at hl 0 rfl) ?_
  refine lv_ifnonnullN hx hb dX3_branch_7 ?_
  refine lv_iload_n hx hb dX3_branch_10 rfl (lv_at hl 2 rfl) ?_
  refine lv_iconst (v := (-1)) hx hb dX3_branch_11 (by decide +kernel) ?_
  refine lv_icmp_eq (tgt := 17) hx hb dX3_branch_12 (by decide) (fun c_775 => ?_) (fun c_775 => ?_)
  · skip
    refine lv_aload_n hx hb dX3_branch_17 rfl (lv_at hl 1 rfl) ?_
    refine k_get (ci := 3) (C := RX3) (T := TX3) (N := 7) (v := .int (nI (sB σ))) hx hb hts (by decide +kernel) hown hK hC.o rfl 3 (by decide) rfl (hts (.fieldLink RX3 46 RX3 "branchCount" "I") (by decide +kernel)) rfl dX3_branch_18 ?_
    refine lv_bipush (v := nI 40) hx hb dX3_branch_21 (by decide +kernel) ?_
    refine n_icmp_lt (tgt := 29) hx hb dX3_branch_23 (by decide) (by omega) (by omega) (fun c_776 => ?_) (fun c_776 => ?_)
    · skip
      refine lv_aload_n hx hb dX3_branch_29 rfl (lv_at hl 1 rfl) ?_
      refine lv_aload_nN hx hb dX3_branch_30 rfl (lv_at hl 0 rfl) ?_
      refine lv_ifnonnullN hx hb dX3_branch_31 ?_
      refine lv_aload_n hx hb dX3_branch_34 rfl (lv_at hl 1 rfl) ?_
      refine lv_null hx hb dX3_branch_35 ?_
      refine lv_null hx hb dX3_branch_36 ?_
      refine lv_aload_n hx hb dX3_branch_37 rfl (lv_at hl 1 rfl) ?_
      refine k_get (ci := 3) (C := RX3) (T := TX3) (N := 7) (v := .ref (A 3)) hx hb hts (by decide +kernel) hown hK hC.o rfl 4 (by decide) rfl (hts (.fieldLink RX3 24 RX3 "nothing" "LVersionMerge$TripleSet;") (by decide +kernel)) rfl dX3_branch_38 ?_
      by_cases hV : sV σ < 400
      · skip
        refine k_callR (va_runV (As := [.null, .null, .ref (A 3)]) (rest := [.ref (A 0)]) ⟨hx, hb, hml, hown, hts⟩ (c_X3_addVersion_00 l D g b0 H A σ dw hC 3 (fun _ => 0) (cl0 (by omega)) (cl0 (by omega)) hC.nt hC.nw hbH hV) (cwV 3 hts gX3_branch_X3_addVersion rfl rfl rfl (by decide +kernel) ⟨Nat.le_of_ble_eq_true rfl, Nat.le_of_ble_eq_true rfl⟩) ⟨kPc_blind, k_recv hK hC.o rfl, fun U hU hW => kPc_at hK hU hW⟩ rfl rfl hl.1 rfl (lv_room (Nat.le_of_ble_eq_true rfl)) dX3_branch_41 ⟨Nat.le_of_ble_eq_true rfl, Nat.le_of_ble_eq_true rfl⟩) LB.nil (fun a H1 locs1 hLB1 hq1 => ?_)
        refine W.widen (k := 4) (n := 470) (Nat.le_of_ble_eq_true rfl) (Nat.le_of_ble_eq_true rfl) ?_
        obtain ⟨q1, q2, q3, w1, an1, hC1, hF1, hw1, han⟩ := hq1
        have hbH1 : b0 ≤ H1.size := Nat.le_trans hbH hF1.1
        have e0 : AV A (sV σ) a q1 q2 q3 0 = A 0 := AVo A (sV σ) a q1 q2 q3 (Or.inl (by omega))
        have ea : AV A (sV σ) a q1 q2 q3 (16 + 4 * sV σ) = a := AV0 ..
        refine lv_goto (tgt := 51) hx hb dX3_branch_44 (by decide) ?_
        have cAdd := c_X3_addBranch l D g b0 H1 (AV A (sV σ) a q1 q2 q3) (gGrow σ none none w1 an1) dw hC1 hbH1 c_776 (sV σ) (Nat.lt_succ_self _)
        rw [e0, ea] at cAdd
        have ho1 := hC1.o
        rw [e0] at ho1
        refine k_callI (va_runV (As := [.ref a]) (rest := []) ⟨hx, hb, hml, hown, hts⟩ (cAdd) (cwV 1 hts gX3_branch_X3_addBranch rfl rfl rfl (by decide +kernel) ⟨Nat.le_of_ble_eq_true rfl, Nat.le_of_ble_eq_true rfl⟩) ⟨kPc_blind, k_recv hK ho1 rfl, fun U hU hW => kPc_at hK hU hW⟩ rfl rfl hl.1 rfl (lv_room (Nat.le_of_ble_eq_true rfl)) dX3_branch_51 ⟨Nat.le_of_ble_eq_true rfl, Nat.le_of_ble_eq_true rfl⟩) hLB1 (fun ra Hz locsz hLBz hqz => ?_)
        refine W.widen (k := 5) (n := 471) (Nat.le_of_ble_eq_true rfl) (Nat.le_of_ble_eq_true rfl) ?_
        obtain ⟨hra, Az, hCz, hFz⟩ := hqz
        exact r_iI hx hb hr hLBz (Nat.le_of_ble_eq_true rfl) (Nat.le_of_ble_eq_true rfl) ⟨Az, _, dw, hCz, (hF1.tr hFz), Or.inr (Or.inr (Or.inr (Or.inr ⟨rfl, c_776, hV, hra, w1, an1, rfl, hw1, han⟩)))⟩ dX3_branch_54 hlocks
      · skip
        refine k_callX (va_runV (As := [.null, .null, .ref (A 3)]) (rest := [.ref (A 0)]) ⟨hx, hb, hml, hown, hts⟩ (c_X3_addVersion_full_00 l D g b0 H A σ dw hC hV 3) (cwV 3 hts gX3_branch_X3_addVersion rfl rfl rfl (by decide +kernel) ⟨Nat.le_of_ble_eq_true rfl, Nat.le_of_ble_eq_true rfl⟩) ⟨kPc_blind, k_recv hK hC.o rfl, fun U hU hW => kPc_at hK hU hW⟩ rfl rfl hl.1 rfl (lv_room (Nat.le_of_ble_eq_true rfl)) dX3_branch_41 ⟨Nat.le_of_ble_eq_true rfl, Nat.le_of_ble_eq_true rfl⟩) ?_
        refine lv_goto (tgt := 51) hx hb dX3_branch_44 (by decide) ?_
        refine k_callX (va_runV (As := [.null]) (rest := []) ⟨hx, hb, hml, hown, hts⟩ (c_X3_addBranch_0 l D g b0 H A σ dw hC) (cwV 1 hts gX3_branch_X3_addBranch rfl rfl rfl (by decide +kernel) ⟨Nat.le_of_ble_eq_true rfl, Nat.le_of_ble_eq_true rfl⟩) ⟨kPc_blind, k_recv hK hC.o rfl, fun U hU hW => kPc_at hK hU hW⟩ rfl rfl hl.1 rfl (lv_room (Nat.le_of_ble_eq_true rfl)) dX3_branch_51 ⟨Nat.le_of_ble_eq_true rfl, Nat.le_of_ble_eq_true rfl⟩) ?_
        exact r_iI hx hb hr LB.nil (Nat.le_of_ble_eq_true rfl) (Nat.le_of_ble_eq_true rfl) ⟨A, σ, dw, hC, CFr.rf, Or.inr (Or.inr (Or.inr (Or.inl ⟨rfl, c_776, by omega, rfl, rfl⟩)))⟩ dX3_branch_54 hlocks
    · skip
      refine lv_bipush (v := (-4)) hx hb dX3_branch_26 (by decide +kernel) ?_
      exact r_iI hx hb hr LB.nil (Nat.le_of_ble_eq_true rfl) (Nat.le_of_ble_eq_true rfl) ⟨A, σ, dw, hC, CFr.rf, Or.inr (Or.inl ⟨by omega, Or.inl rfl, by decide +kernel, rfl⟩)⟩ dX3_branch_28 hlocks
  · skip
    exact absurd rfl c_775
theorem c_X3_branch (l : Launch) (D : va_G) (g : Nat → ClassId) (b0 : Nat) (H : Heap) (A : Nat → Nat) (σ : SG) (dw : Nat → Int64) (hC : CR D g b0 A σ dw H) (hbH : b0 ≤ H.size) (i : Int32) : Met l yX3_branch wsX3_branch ({ frames := 4, cells := 5, slots := 471, locals := 109 } : Room) (kPc D g [.ref (A 0), .int i] H) (kI (PubQ D g b0 H A σ (SpBranch σ i))) 5 471 (kF b0) := by
  rcases br_dec σ i with h | ⟨b, hb4, rfl⟩
  · by_cases hm : i = -1
    · subst hm
      exact c_X3_branch_m l D g b0 H A σ dw hC hbH
    · exact c_X3_branch_n l D g b0 H A σ dw hC hbH i h hm
  · exact c_X3_branch_y l D g b0 H A σ dw hC hbH b hb4
end
