def RX0 : String := "PackageForge$Build"
def TX0 : u_T := fun k => match k with
  | 0 => ("PackageForge$Build", "isMade", "Z", false)
  | 1 => ("PackageForge$Build", "face", "I", false)
  | 2 => ("PackageForge$Build", "body", "I", false)
  | _ => ("PackageForge$Build", "neededFaces", "[I", true)
def tyX0 : Nat → FieldType := fun k => match k with
  | 0 => .boolean
  | 1 => .int
  | 2 => .int
  | _ => .array .int
abbrev wsX00 : List Cond := u_ws RX0 TX0 4
theorem nmX0 : ∀ a, a < 4 → ∀ b, b < 4 → a ≠ b → (TX0 a).2.1 ≠ (TX0 b).2.1 := by decide +kernel
theorem tyX0_ok : ∀ k, k < 4 → parseFieldDescriptor (TX0 k).2.2.1 = some (tyX0 k) := by decide +kernel
abbrev cX0_init : ByteArray := prog_2_method_1_code
def yX0_init : MethodName := ⟨RX0, "<init>", "()V"⟩
abbrev cX0_isOf : ByteArray := prog_2_method_2_code
def yX0_isOf : MethodName := ⟨RX0, "isOf", "(LPackageForge$Source;LPackageForge$Choice;)Z"⟩
abbrev cX0_remember : ByteArray := prog_2_method_3_code
def yX0_remember : MethodName := ⟨RX0, "remember", "(LPackageForge$Source;LPackageForge$Choice;)V"⟩
abbrev cX0_neededFace : ByteArray := prog_2_method_4_code
def yX0_neededFace : MethodName := ⟨RX0, "neededFace", "(LPackageForge$Source;LPackageForge$Choice;I)I"⟩
def RX1 : String := "PackageForge$Choice"
def TX1 : u_T := fun k => match k with
  | _ => ("PackageForge$Choice", "picks", "[LPackageForge$Release;", true)
def tyX1 : Nat → FieldType := fun k => match k with
  | _ => .array (.object "PackageForge$Release")
abbrev wsX10 : List Cond := u_ws RX1 TX1 1
theorem nmX1 : ∀ a, a < 1 → ∀ b, b < 1 → a ≠ b → (TX1 a).2.1 ≠ (TX1 b).2.1 := by decide +kernel
theorem tyX1_ok : ∀ k, k < 1 → parseFieldDescriptor (TX1 k).2.2.1 = some (tyX1 k) := by decide +kernel
abbrev cX1_init : ByteArray := prog_3_method_1_code
def yX1_init : MethodName := ⟨RX1, "<init>", "()V"⟩
abbrev cX1_at : ByteArray := prog_3_method_2_code
def yX1_at : MethodName := ⟨RX1, "at", "(I)LPackageForge$Release;"⟩
abbrev cX1_versionOf : ByteArray := prog_3_method_3_code
def yX1_versionOf : MethodName := ⟨RX1, "versionOf", "(I)I"⟩
abbrev cX1_put : ByteArray := prog_3_method_4_code
def yX1_put : MethodName := ⟨RX1, "put", "(ILPackageForge$Release;)V"⟩
abbrev cX1_clear : ByteArray := prog_3_method_5_code
def yX1_clear : MethodName := ⟨RX1, "clear", "()V"⟩
abbrev cX1_copyFrom : ByteArray := prog_3_method_6_code
def yX1_copyFrom : MethodName := ⟨RX1, "copyFrom", "(LPackageForge$Choice;)V"⟩
abbrev cX1_countDifferences : ByteArray := prog_3_method_7_code
def yX1_countDifferences : MethodName := ⟨RX1, "countDifferences", "(LPackageForge$Choice;)I"⟩
abbrev cX1_hasYanked : ByteArray := prog_3_method_8_code
def yX1_hasYanked : MethodName := ⟨RX1, "hasYanked", "()Z"⟩
def RX2 : String := "PackageForge$Chooser"
def TX2 : u_T := fun k => match k with
  | 0 => ("PackageForge$Chooser", "found", "LPackageForge$Choice;", true)
  | 1 => ("PackageForge$Chooser", "way", "LPackageForge$Choice;", true)
  | _ => ("PackageForge$Chooser", "taken", "[I", true)
def tyX2 : Nat → FieldType := fun k => match k with
  | 0 => .object "PackageForge$Choice"
  | 1 => .object "PackageForge$Choice"
  | _ => .array .int
abbrev wsX20 : List Cond := u_ws RX2 TX2 3
theorem nmX2 : ∀ a, a < 3 → ∀ b, b < 3 → a ≠ b → (TX2 a).2.1 ≠ (TX2 b).2.1 := by decide +kernel
theorem tyX2_ok : ∀ k, k < 3 → parseFieldDescriptor (TX2 k).2.2.1 = some (tyX2 k) := by decide +kernel
abbrev cX2_init : ByteArray := prog_4_method_1_code
def yX2_init : MethodName := ⟨RX2, "<init>", "()V"⟩
abbrev cX2_search : ByteArray := prog_4_method_2_code
def yX2_search : MethodName := ⟨RX2, "search", "(Ljava/util/ArrayList;ILPackageForge$Needs;)LPackageForge$Choice;"⟩
abbrev cX2_pickDown : ByteArray := prog_4_method_3_code
def yX2_pickDown : MethodName := ⟨RX2, "pickDown", "(Ljava/util/ArrayList;LPackageForge$Needs;LPackageForge$Choice;I)Z"⟩
abbrev cX2_goThroughAll : ByteArray := prog_4_method_4_code
def yX2_goThroughAll : MethodName := ⟨RX2, "goThroughAll", "(Ljava/util/ArrayList;ILPackageForge$Needs;)LPackageForge$Choice;"⟩
abbrev cX2_countWays : ByteArray := prog_4_method_5_code
def yX2_countWays : MethodName := ⟨RX2, "countWays", "(Ljava/util/ArrayList;I)I"⟩
abbrev cX2_goToNextWay : ByteArray := prog_4_method_6_code
def yX2_goToNextWay : MethodName := ⟨RX2, "goToNextWay", "(Ljava/util/ArrayList;I)V"⟩
abbrev cX2_isChoice : ByteArray := prog_4_method_7_code
def yX2_isChoice : MethodName := ⟨RX2, "isChoice", "(LPackageForge$Needs;LPackageForge$Choice;)Z"⟩
abbrev cX2_isReached : ByteArray := prog_4_method_8_code
def yX2_isReached : MethodName := ⟨RX2, "isReached", "(LPackageForge$Needs;LPackageForge$Choice;I)Z"⟩
abbrev cX2_isAdmitted : ByteArray := prog_4_method_9_code
def yX2_isAdmitted : MethodName := ⟨RX2, "isAdmitted", "(LPackageForge$Needs;LPackageForge$Choice;ILPackageForge$Release;)Z"⟩
def RX3 : String := "PackageForge$Needs"
def TX3 : u_T := fun k => match k with
  | 0 => ("PackageForge$Needs", "least", "[I", true)
  | _ => ("PackageForge$Needs", "greatest", "[I", true)
def tyX3 : Nat → FieldType := fun k => match k with
  | 0 => .array .int
  | _ => .array .int
abbrev wsX30 : List Cond := u_ws RX3 TX3 2
theorem nmX3 : ∀ a, a < 2 → ∀ b, b < 2 → a ≠ b → (TX3 a).2.1 ≠ (TX3 b).2.1 := by decide +kernel
theorem tyX3_ok : ∀ k, k < 2 → parseFieldDescriptor (TX3 k).2.2.1 = some (tyX3 k) := by decide +kernel
abbrev cX3_init : ByteArray := prog_5_method_1_code
def yX3_init : MethodName := ⟨RX3, "<init>", "()V"⟩
abbrev cX3_has : ByteArray := prog_5_method_2_code
def yX3_has : MethodName := ⟨RX3, "has", "(I)Z"⟩
abbrev cX3_admits : ByteArray := prog_5_method_3_code
def yX3_admits : MethodName := ⟨RX3, "admits", "(II)Z"⟩
abbrev cX3_put : ByteArray := prog_5_method_4_code
def yX3_put : MethodName := ⟨RX3, "put", "(III)V"⟩
abbrev cX3_drop : ByteArray := prog_5_method_5_code
def yX3_drop : MethodName := ⟨RX3, "drop", "(I)V"⟩
abbrev cX3_count : ByteArray := prog_5_method_6_code
def yX3_count : MethodName := ⟨RX3, "count", "()I"⟩
abbrev cX3_sameAs : ByteArray := prog_5_method_7_code
def yX3_sameAs : MethodName := ⟨RX3, "sameAs", "(LPackageForge$Needs;)Z"⟩
abbrev cX3_copyFrom : ByteArray := prog_5_method_8_code
def yX3_copyFrom : MethodName := ⟨RX3, "copyFrom", "(LPackageForge$Needs;)V"⟩
def RX4 : String := "PackageForge$Pack"
def TX4 : u_T := fun k => match k with
  | 0 => ("PackageForge$Pack", "owner", "I", true)
  | 1 => ("PackageForge$Pack", "source", "LPackageForge$Source;", true)
  | 2 => ("PackageForge$Pack", "build", "LPackageForge$Build;", true)
  | 3 => ("PackageForge$Pack", "trial", "LPackageForge$Trial;", true)
  | _ => ("PackageForge$Pack", "releases", "Ljava/util/ArrayList;", true)
def tyX4 : Nat → FieldType := fun k => match k with
  | 0 => .int
  | 1 => .object "PackageForge$Source"
  | 2 => .object "PackageForge$Build"
  | 3 => .object "PackageForge$Trial"
  | _ => .object "java/util/ArrayList"
abbrev wsX40 : List Cond := u_ws RX4 TX4 5
theorem nmX4 : ∀ a, a < 5 → ∀ b, b < 5 → a ≠ b → (TX4 a).2.1 ≠ (TX4 b).2.1 := by decide +kernel
theorem tyX4_ok : ∀ k, k < 5 → parseFieldDescriptor (TX4 k).2.2.1 = some (tyX4 k) := by decide +kernel
abbrev cX4_init : ByteArray := prog_6_method_1_code
def yX4_init : MethodName := ⟨RX4, "<init>", "(I)V"⟩
abbrev cX4_isPassedWith : ByteArray := prog_6_method_2_code
def yX4_isPassedWith : MethodName := ⟨RX4, "isPassedWith", "(LPackageForge$Choice;)Z"⟩
abbrev cX4_versionAhead : ByteArray := prog_6_method_3_code
def yX4_versionAhead : MethodName := ⟨RX4, "versionAhead", "()I"⟩
abbrev cX4_releaseOf : ByteArray := prog_6_method_4_code
def yX4_releaseOf : MethodName := ⟨RX4, "releaseOf", "(I)LPackageForge$Release;"⟩
def RX5 : String := "PackageForge$Release"
def TX5 : u_T := fun k => match k with
  | 0 => ("PackageForge$Release", "version", "I", true)
  | 1 => ("PackageForge$Release", "face", "I", true)
  | 2 => ("PackageForge$Release", "needs", "LPackageForge$Needs;", true)
  | 3 => ("PackageForge$Release", "lock", "LPackageForge$Choice;", true)
  | _ => ("PackageForge$Release", "isYanked", "Z", false)
def tyX5 : Nat → FieldType := fun k => match k with
  | 0 => .int
  | 1 => .int
  | 2 => .object "PackageForge$Needs"
  | 3 => .object "PackageForge$Choice"
  | _ => .boolean
abbrev wsX50 : List Cond := u_ws RX5 TX5 5
theorem nmX5 : ∀ a, a < 5 → ∀ b, b < 5 → a ≠ b → (TX5 a).2.1 ≠ (TX5 b).2.1 := by decide +kernel
theorem tyX5_ok : ∀ k, k < 5 → parseFieldDescriptor (TX5 k).2.2.1 = some (tyX5 k) := by decide +kernel
abbrev cX5_init : ByteArray := prog_7_method_1_code
def yX5_init : MethodName := ⟨RX5, "<init>", "(ILPackageForge$Source;LPackageForge$Choice;)V"⟩
abbrev cX5_isOutdated : ByteArray := prog_7_method_2_code
def yX5_isOutdated : MethodName := ⟨RX5, "isOutdated", "()Z"⟩
def RX6 : String := "PackageForge$Source"
def TX6 : u_T := fun k => match k with
  | 0 => ("PackageForge$Source", "face", "I", false)
  | 1 => ("PackageForge$Source", "body", "I", false)
  | _ => ("PackageForge$Source", "needs", "LPackageForge$Needs;", true)
def tyX6 : Nat → FieldType := fun k => match k with
  | 0 => .int
  | 1 => .int
  | _ => .object "PackageForge$Needs"
abbrev wsX60 : List Cond := u_ws RX6 TX6 3
theorem nmX6 : ∀ a, a < 3 → ∀ b, b < 3 → a ≠ b → (TX6 a).2.1 ≠ (TX6 b).2.1 := by decide +kernel
theorem tyX6_ok : ∀ k, k < 3 → parseFieldDescriptor (TX6 k).2.2.1 = some (tyX6 k) := by decide +kernel
abbrev cX6_init : ByteArray := prog_8_method_1_code
def yX6_init : MethodName := ⟨RX6, "<init>", "()V"⟩
abbrev cX6_sameAs : ByteArray := prog_8_method_2_code
def yX6_sameAs : MethodName := ⟨RX6, "sameAs", "(LPackageForge$Source;)Z"⟩
abbrev cX6_copyFrom : ByteArray := prog_8_method_3_code
def yX6_copyFrom : MethodName := ⟨RX6, "copyFrom", "(LPackageForge$Source;)V"⟩
def RX7 : String := "PackageForge$Test"
def TX7 : u_T := fun k => match k with
  | 0 => ("PackageForge$Test", "number", "I", true)
  | 1 => ("PackageForge$Test", "length", "I", true)
  | 2 => ("PackageForge$Test", "isFailing", "Z", false)
  | 3 => ("PackageForge$Test", "failures", "[Z", true)
  | _ => ("PackageForge$Test", "resultCount", "I", false)
def tyX7 : Nat → FieldType := fun k => match k with
  | 0 => .int
  | 1 => .int
  | 2 => .boolean
  | 3 => .array .boolean
  | _ => .int
abbrev wsX70 : List Cond := u_ws RX7 TX7 5
theorem nmX7 : ∀ a, a < 5 → ∀ b, b < 5 → a ≠ b → (TX7 a).2.1 ≠ (TX7 b).2.1 := by decide +kernel
theorem tyX7_ok : ∀ k, k < 5 → parseFieldDescriptor (TX7 k).2.2.1 = some (tyX7 k) := by decide +kernel
abbrev cX7_init : ByteArray := prog_9_method_1_code
def yX7_init : MethodName := ⟨RX7, "<init>", "(II)V"⟩
abbrev cX7_addResult : ByteArray := prog_9_method_2_code
def yX7_addResult : MethodName := ⟨RX7, "addResult", "(Z)V"⟩
abbrev cX7_forgetOldest : ByteArray := prog_9_method_3_code
def yX7_forgetOldest : MethodName := ⟨RX7, "forgetOldest", "()V"⟩
abbrev cX7_countTurns : ByteArray := prog_9_method_4_code
def yX7_countTurns : MethodName := ⟨RX7, "countTurns", "()I"⟩
def RX8 : String := "PackageForge$Trial"
def TX8 : u_T := fun k => match k with
  | 0 => ("PackageForge$Trial", "isPassed", "Z", false)
  | 1 => ("PackageForge$Trial", "source", "LPackageForge$Source;", true)
  | _ => ("PackageForge$Trial", "choice", "LPackageForge$Choice;", true)
def tyX8 : Nat → FieldType := fun k => match k with
  | 0 => .boolean
  | 1 => .object "PackageForge$Source"
  | _ => .object "PackageForge$Choice"
abbrev wsX80 : List Cond := u_ws RX8 TX8 3
theorem nmX8 : ∀ a, a < 3 → ∀ b, b < 3 → a ≠ b → (TX8 a).2.1 ≠ (TX8 b).2.1 := by decide +kernel
theorem tyX8_ok : ∀ k, k < 3 → parseFieldDescriptor (TX8 k).2.2.1 = some (tyX8 k) := by decide +kernel
abbrev cX8_init : ByteArray := prog_10_method_1_code
def yX8_init : MethodName := ⟨RX8, "<init>", "()V"⟩
abbrev cX8_remember : ByteArray := prog_10_method_2_code
def yX8_remember : MethodName := ⟨RX8, "remember", "(ZLPackageForge$Source;LPackageForge$Choice;)V"⟩
def RX9 : String := "PackageForge"
def TX9 : u_T := fun k => match k with
  | 0 => ("PackageForge", "packs", "Ljava/util/ArrayList;", true)
  | 1 => ("PackageForge", "tests", "Ljava/util/ArrayList;", true)
  | 2 => ("PackageForge", "releases", "Ljava/util/ArrayList;", true)
  | 3 => ("PackageForge", "chooser", "LPackageForge$Chooser;", true)
  | 4 => ("PackageForge", "budgets", "[I", true)
  | 5 => ("PackageForge", "freeAt", "[I", true)
  | 6 => ("PackageForge", "machineCount", "I", false)
  | 7 => ("PackageForge", "compilings", "I", false)
  | 8 => ("PackageForge", "testings", "I", false)
  | _ => ("PackageForge", "paidMinutes", "I", false)
def tyX9 : Nat → FieldType := fun k => match k with
  | 0 => .object "java/util/ArrayList"
  | 1 => .object "java/util/ArrayList"
  | 2 => .object "java/util/ArrayList"
  | 3 => .object "PackageForge$Chooser"
  | 4 => .array .int
  | 5 => .array .int
  | 6 => .int
  | 7 => .int
  | 8 => .int
  | _ => .int
abbrev wsX90 : List Cond := u_ws RX9 TX9 10
theorem nmX9 : ∀ a, a < 10 → ∀ b, b < 10 → a ≠ b → (TX9 a).2.1 ≠ (TX9 b).2.1 := by decide +kernel
theorem tyX9_ok : ∀ k, k < 10 → parseFieldDescriptor (TX9 k).2.2.1 = some (tyX9 k) := by decide +kernel
abbrev cX9_init : ByteArray := prog_1_method_1_code
def yX9_init : MethodName := ⟨RX9, "<init>", "()V"⟩
abbrev cX9_addPackage : ByteArray := prog_1_method_2_code
def yX9_addPackage : MethodName := ⟨RX9, "addPackage", "(I)I"⟩
abbrev cX9_setSource : ByteArray := prog_1_method_3_code
def yX9_setSource : MethodName := ⟨RX9, "setSource", "(III)I"⟩
abbrev cX9_need : ByteArray := prog_1_method_4_code
def yX9_need : MethodName := ⟨RX9, "need", "(IIII)I"⟩
abbrev cX9_dropNeed : ByteArray := prog_1_method_5_code
def yX9_dropNeed : MethodName := ⟨RX9, "dropNeed", "(II)I"⟩
abbrev cX9_chosen : ByteArray := prog_1_method_6_code
def yX9_chosen : MethodName := ⟨RX9, "chosen", "(II)I"⟩
abbrev cX9_chosenByAll : ByteArray := prog_1_method_7_code
def yX9_chosenByAll : MethodName := ⟨RX9, "chosenByAll", "(II)I"⟩
abbrev cX9_compile : ByteArray := prog_1_method_8_code
def yX9_compile : MethodName := ⟨RX9, "compile", "(I)Z"⟩
abbrev cX9_compiled : ByteArray := prog_1_method_9_code
def yX9_compiled : MethodName := ⟨RX9, "compiled", "()I"⟩
abbrev cX9_addTest : ByteArray := prog_1_method_10_code
def yX9_addTest : MethodName := ⟨RX9, "addTest", "(II)I"⟩
abbrev cX9_setFailing : ByteArray := prog_1_method_11_code
def yX9_setFailing : MethodName := ⟨RX9, "setFailing", "(IZ)Z"⟩
abbrev cX9_setMachines : ByteArray := prog_1_method_12_code
def yX9_setMachines : MethodName := ⟨RX9, "setMachines", "(I)I"⟩
abbrev cX9_fund : ByteArray := prog_1_method_13_code
def yX9_fund : MethodName := ⟨RX9, "fund", "(II)I"⟩
abbrev cX9_budget : ByteArray := prog_1_method_14_code
def yX9_budget : MethodName := ⟨RX9, "budget", "(I)I"⟩
abbrev cX9_testTime : ByteArray := prog_1_method_15_code
def yX9_testTime : MethodName := ⟨RX9, "testTime", "(I)I"⟩
abbrev cX9_test : ByteArray := prog_1_method_16_code
def yX9_test : MethodName := ⟨RX9, "test", "(I)I"⟩
abbrev cX9_flaky : ByteArray := prog_1_method_17_code
def yX9_flaky : MethodName := ⟨RX9, "flaky", "(I)I"⟩
abbrev cX9_flakiest : ByteArray := prog_1_method_18_code
def yX9_flakiest : MethodName := ⟨RX9, "flakiest", "()I"⟩
abbrev cX9_canPublish : ByteArray := prog_1_method_19_code
def yX9_canPublish : MethodName := ⟨RX9, "canPublish", "(I)Z"⟩
abbrev cX9_nextVersion : ByteArray := prog_1_method_20_code
def yX9_nextVersion : MethodName := ⟨RX9, "nextVersion", "(I)I"⟩
abbrev cX9_publish : ByteArray := prog_1_method_21_code
def yX9_publish : MethodName := ⟨RX9, "publish", "(I)I"⟩
abbrev cX9_yank : ByteArray := prog_1_method_22_code
def yX9_yank : MethodName := ⟨RX9, "yank", "(II)I"⟩
abbrev cX9_isStale : ByteArray := prog_1_method_23_code
def yX9_isStale : MethodName := ⟨RX9, "isStale", "(II)Z"⟩
abbrev cX9_relock : ByteArray := prog_1_method_24_code
def yX9_relock : MethodName := ⟨RX9, "relock", "(II)I"⟩
abbrev cX9_locked : ByteArray := prog_1_method_25_code
def yX9_locked : MethodName := ⟨RX9, "locked", "(III)I"⟩
abbrev cX9_goodShare : ByteArray := prog_1_method_26_code
def yX9_goodShare : MethodName := ⟨RX9, "goodShare", "()F"⟩
abbrev cX9_isWithin : ByteArray := prog_1_method_28_code
def yX9_isWithin : MethodName := ⟨RX9, "isWithin", "(III)Z"⟩
abbrev cX9_isPackageIndex : ByteArray := prog_1_method_29_code
def yX9_isPackageIndex : MethodName := ⟨RX9, "isPackageIndex", "(I)Z"⟩
abbrev cX9_isOwner : ByteArray := prog_1_method_30_code
def yX9_isOwner : MethodName := ⟨RX9, "isOwner", "(I)Z"⟩
abbrev cX9_checkOwner : ByteArray := prog_1_method_31_code
def yX9_checkOwner : MethodName := ⟨RX9, "checkOwner", "(I)V"⟩
abbrev cX9_checkPackage : ByteArray := prog_1_method_32_code
def yX9_checkPackage : MethodName := ⟨RX9, "checkPackage", "(I)V"⟩
abbrev cX9_packAt : ByteArray := prog_1_method_33_code
def yX9_packAt : MethodName := ⟨RX9, "packAt", "(I)LPackageForge$Pack;"⟩
abbrev cX9_testAt : ByteArray := prog_1_method_34_code
def yX9_testAt : MethodName := ⟨RX9, "testAt", "(I)LPackageForge$Test;"⟩
abbrev cX9_releaseAt : ByteArray := prog_1_method_35_code
def yX9_releaseAt : MethodName := ⟨RX9, "releaseAt", "(II)LPackageForge$Release;"⟩
abbrev cX9_checkNotYanked : ByteArray := prog_1_method_36_code
def yX9_checkNotYanked : MethodName := ⟨RX9, "checkNotYanked", "(LPackageForge$Release;)V"⟩
abbrev cX9_requireChoice : ByteArray := prog_1_method_37_code
def yX9_requireChoice : MethodName := ⟨RX9, "requireChoice", "(LPackageForge$Choice;)LPackageForge$Choice;"⟩
abbrev cX9_placeOnFirstFree : ByteArray := prog_1_method_38_code
def yX9_placeOnFirstFree : MethodName := ⟨RX9, "placeOnFirstFree", "(I)I"⟩
abbrev cX9_costOfTests : ByteArray := prog_1_method_39_code
def yX9_costOfTests : MethodName := ⟨RX9, "costOfTests", "(I)I"⟩
abbrev cX9_payFrom : ByteArray := prog_1_method_40_code
def yX9_payFrom : MethodName := ⟨RX9, "payFrom", "(II)Z"⟩
abbrev cX9_runTests : ByteArray := prog_1_method_41_code
def yX9_runTests : MethodName := ⟨RX9, "runTests", "(I)I"⟩
abbrev cX9_countStale : ByteArray := prog_1_method_42_code
def yX9_countStale : MethodName := ⟨RX9, "countStale", "()I"⟩
def RX10 : String := "PackageForgeModel"
def TX10 : u_T := fun k => match k with
  | _ => ("", "", "", false)
def tyX10 : Nat → FieldType := fun k => match k with
  | _ => .int
abbrev wsX100 : List Cond := u_ws RX10 TX10 0
theorem nmX10 : ∀ a, a < 0 → ∀ b, b < 0 → a ≠ b → (TX10 a).2.1 ≠ (TX10 b).2.1 := by decide +kernel
theorem tyX10_ok : ∀ k, k < 0 → parseFieldDescriptor (TX10 k).2.2.1 = some (tyX10 k) := by decide +kernel
def RJx145de : String := "java/io/Serializable"
def TJx145de : u_T := fun k => match k with
  | _ => ("", "", "", false)
def tyJx145de : Nat → FieldType := fun k => match k with
  | _ => .int
abbrev wsJx145de0 : List Cond := u_ws RJx145de TJx145de 0
theorem nmJx145de : ∀ a, a < 0 → ∀ b, b < 0 → a ≠ b → (TJx145de a).2.1 ≠ (TJx145de b).2.1 := by decide +kernel
theorem tyJx145de_ok : ∀ k, k < 0 → parseFieldDescriptor (TJx145de k).2.2.1 = some (tyJx145de k) := by decide +kernel
def RJx00060 : String := "java/lang/ArrayIndexOutOfBoundsException"
def TJx00060 : u_T := fun k => match k with
  | 0 => ("java/lang/Throwable", "backtrace", "Ljava/lang/Object;", false)
  | 1 => ("java/lang/Throwable", "detailMessage", "Ljava/lang/String;", false)
  | 2 => ("java/lang/Throwable", "cause", "Ljava/lang/Throwable;", false)
  | 3 => ("java/lang/Throwable", "stackTrace", "[Ljava/lang/StackTraceElement;", false)
  | 4 => ("java/lang/Throwable", "depth", "I", false)
  | _ => ("java/lang/Throwable", "suppressedExceptions", "Ljava/util/List;", false)
def tyJx00060 : Nat → FieldType := fun k => match k with
  | 0 => .object "java/lang/Object"
  | 1 => .object "java/lang/String"
  | 2 => .object "java/lang/Throwable"
  | 3 => .array (.object "java/lang/StackTraceElement")
  | 4 => .int
  | _ => .object "java/util/List"
abbrev wsJx000600 : List Cond := u_ws RJx00060 TJx00060 6
theorem nmJx00060 : ∀ a, a < 6 → ∀ b, b < 6 → a ≠ b → (TJx00060 a).2.1 ≠ (TJx00060 b).2.1 := by decide +kernel
theorem tyJx00060_ok : ∀ k, k < 6 → parseFieldDescriptor (TJx00060 k).2.2.1 = some (tyJx00060 k) := by decide +kernel
abbrev cJx00060_init_a7421 : ByteArray := prog_15_method_2_code
def yJx00060_init_a7421 : MethodName := ⟨RJx00060, "<init>", "(Ljava/lang/String;)V"⟩
def RJx8e188 : String := "java/lang/Cloneable"
def TJx8e188 : u_T := fun k => match k with
  | _ => ("", "", "", false)
def tyJx8e188 : Nat → FieldType := fun k => match k with
  | _ => .int
abbrev wsJx8e1880 : List Cond := u_ws RJx8e188 TJx8e188 0
theorem nmJx8e188 : ∀ a, a < 0 → ∀ b, b < 0 → a ≠ b → (TJx8e188 a).2.1 ≠ (TJx8e188 b).2.1 := by decide +kernel
theorem tyJx8e188_ok : ∀ k, k < 0 → parseFieldDescriptor (TJx8e188 k).2.2.1 = some (tyJx8e188 k) := by decide +kernel
def RJxb160c : String := "java/lang/Comparable"
def TJxb160c : u_T := fun k => match k with
  | _ => ("", "", "", false)
def tyJxb160c : Nat → FieldType := fun k => match k with
  | _ => .int
abbrev wsJxb160c0 : List Cond := u_ws RJxb160c TJxb160c 0
theorem nmJxb160c : ∀ a, a < 0 → ∀ b, b < 0 → a ≠ b → (TJxb160c a).2.1 ≠ (TJxb160c b).2.1 := by decide +kernel
theorem tyJxb160c_ok : ∀ k, k < 0 → parseFieldDescriptor (TJxb160c k).2.2.1 = some (tyJxb160c k) := by decide +kernel
def RJxf58ca : String := "java/lang/Float"
def TJxf58ca : u_T := fun k => match k with
  | _ => ("", "", "", false)
def tyJxf58ca : Nat → FieldType := fun k => match k with
  | _ => .int
abbrev wsJxf58ca0 : List Cond := u_ws RJxf58ca TJxf58ca 0
theorem nmJxf58ca : ∀ a, a < 0 → ∀ b, b < 0 → a ≠ b → (TJxf58ca a).2.1 ≠ (TJxf58ca b).2.1 := by decide +kernel
theorem tyJxf58ca_ok : ∀ k, k < 0 → parseFieldDescriptor (TJxf58ca k).2.2.1 = some (tyJxf58ca k) := by decide +kernel
abbrev cJxf58ca_isNaN_12338 : ByteArray := prog_19_method_6_code
def yJxf58ca_isNaN_12338 : MethodName := ⟨RJxf58ca, "isNaN", "(F)Z"⟩
abbrev cJxf58ca_floatToIntBits_5c35a : ByteArray := prog_19_method_24_code
def yJxf58ca_floatToIntBits_5c35a : MethodName := ⟨RJxf58ca, "floatToIntBits", "(F)I"⟩
def RJxab1ab : String := "java/lang/Iterable"
def TJxab1ab : u_T := fun k => match k with
  | _ => ("", "", "", false)
def tyJxab1ab : Nat → FieldType := fun k => match k with
  | _ => .int
abbrev wsJxab1ab0 : List Cond := u_ws RJxab1ab TJxab1ab 0
theorem nmJxab1ab : ∀ a, a < 0 → ∀ b, b < 0 → a ≠ b → (TJxab1ab a).2.1 ≠ (TJxab1ab b).2.1 := by decide +kernel
theorem tyJxab1ab_ok : ∀ k, k < 0 → parseFieldDescriptor (TJxab1ab k).2.2.1 = some (tyJxab1ab k) := by decide +kernel
def RJ9 : String := "java/lang/Math"
def TJ9 : u_T := fun k => match k with
  | _ => ("", "", "", false)
def tyJ9 : Nat → FieldType := fun k => match k with
  | _ => .int
abbrev wsJ90 : List Cond := u_ws RJ9 TJ9 0
theorem nmJ9 : ∀ a, a < 0 → ∀ b, b < 0 → a ≠ b → (TJ9 a).2.1 ≠ (TJ9 b).2.1 := by decide +kernel
theorem tyJ9_ok : ∀ k, k < 0 → parseFieldDescriptor (TJ9 k).2.2.1 = some (tyJ9 k) := by decide +kernel
abbrev cJ9_max_7cf53 : ByteArray := prog_24_method_65_code
def yJ9_max_7cf53 : MethodName := ⟨RJ9, "max", "(II)I"⟩
abbrev cJ9_min_7cf53 : ByteArray := prog_24_method_69_code
def yJ9_min_7cf53 : MethodName := ⟨RJ9, "min", "(II)I"⟩
def RJxd2413 : String := "java/lang/Number"
def TJxd2413 : u_T := fun k => match k with
  | _ => ("", "", "", false)
def tyJxd2413 : Nat → FieldType := fun k => match k with
  | _ => .int
abbrev wsJxd24130 : List Cond := u_ws RJxd2413 TJxd2413 0
theorem nmJxd2413 : ∀ a, a < 0 → ∀ b, b < 0 → a ≠ b → (TJxd2413 a).2.1 ≠ (TJxd2413 b).2.1 := by decide +kernel
theorem tyJxd2413_ok : ∀ k, k < 0 → parseFieldDescriptor (TJxd2413 k).2.2.1 = some (tyJxd2413 k) := by decide +kernel
def RJ0 : String := "java/lang/String"
def TJ0 : u_T := fun k => match k with
  | 0 => ("java/lang/String", "value", "[B", true)
  | _ => ("java/lang/String", "coder", "B", true)
def tyJ0 : Nat → FieldType := fun k => match k with
  | 0 => .array .byte
  | _ => .byte
abbrev wsJ00 : List Cond := u_ws RJ0 TJ0 2
theorem nmJ0 : ∀ a, a < 2 → ∀ b, b < 2 → a ≠ b → (TJ0 a).2.1 ≠ (TJ0 b).2.1 := by decide +kernel
theorem tyJ0_ok : ∀ k, k < 2 → parseFieldDescriptor (TJ0 k).2.2.1 = some (tyJ0 k) := by decide +kernel
def RJ10 : String := "java/lang/System"
def TJ10 : u_T := fun k => match k with
  | _ => ("", "", "", false)
def tyJ10 : Nat → FieldType := fun k => match k with
  | _ => .int
abbrev wsJ100 : List Cond := u_ws RJ10 TJ10 0
theorem nmJ10 : ∀ a, a < 0 → ∀ b, b < 0 → a ≠ b → (TJ10 a).2.1 ≠ (TJ10 b).2.1 := by decide +kernel
theorem tyJ10_ok : ∀ k, k < 0 → parseFieldDescriptor (TJ10 k).2.2.1 = some (tyJ10 k) := by decide +kernel
def RJxfd54e : String := "java/lang/constant/Constable"
def TJxfd54e : u_T := fun k => match k with
  | _ => ("", "", "", false)
def tyJxfd54e : Nat → FieldType := fun k => match k with
  | _ => .int
abbrev wsJxfd54e0 : List Cond := u_ws RJxfd54e TJxfd54e 0
theorem nmJxfd54e : ∀ a, a < 0 → ∀ b, b < 0 → a ≠ b → (TJxfd54e a).2.1 ≠ (TJxfd54e b).2.1 := by decide +kernel
theorem tyJxfd54e_ok : ∀ k, k < 0 → parseFieldDescriptor (TJxfd54e k).2.2.1 = some (tyJxfd54e k) := by decide +kernel
def RJx3cf43 : String := "java/lang/constant/ConstantDesc"
def TJx3cf43 : u_T := fun k => match k with
  | _ => ("", "", "", false)
def tyJx3cf43 : Nat → FieldType := fun k => match k with
  | _ => .int
abbrev wsJx3cf430 : List Cond := u_ws RJx3cf43 TJx3cf43 0
theorem nmJx3cf43 : ∀ a, a < 0 → ∀ b, b < 0 → a ≠ b → (TJx3cf43 a).2.1 ≠ (TJx3cf43 b).2.1 := by decide +kernel
theorem tyJx3cf43_ok : ∀ k, k < 0 → parseFieldDescriptor (TJx3cf43 k).2.2.1 = some (tyJx3cf43 k) := by decide +kernel
def RJxa1e45 : String := "java/util/AbstractCollection"
def TJxa1e45 : u_T := fun k => match k with
  | _ => ("", "", "", false)
def tyJxa1e45 : Nat → FieldType := fun k => match k with
  | _ => .int
abbrev wsJxa1e450 : List Cond := u_ws RJxa1e45 TJxa1e45 0
theorem nmJxa1e45 : ∀ a, a < 0 → ∀ b, b < 0 → a ≠ b → (TJxa1e45 a).2.1 ≠ (TJxa1e45 b).2.1 := by decide +kernel
theorem tyJxa1e45_ok : ∀ k, k < 0 → parseFieldDescriptor (TJxa1e45 k).2.2.1 = some (tyJxa1e45 k) := by decide +kernel
abbrev cJxa1e45_init_da8c8 : ByteArray := prog_33_method_1_code
def yJxa1e45_init_da8c8 : MethodName := ⟨RJxa1e45, "<init>", "()V"⟩
def RJxc12de : String := "java/util/AbstractList"
def TJxc12de : u_T := fun k => match k with
  | _ => ("", "", "", false)
def tyJxc12de : Nat → FieldType := fun k => match k with
  | _ => .int
abbrev wsJxc12de0 : List Cond := u_ws RJxc12de TJxc12de 0
theorem nmJxc12de : ∀ a, a < 0 → ∀ b, b < 0 → a ≠ b → (TJxc12de a).2.1 ≠ (TJxc12de b).2.1 := by decide +kernel
theorem tyJxc12de_ok : ∀ k, k < 0 → parseFieldDescriptor (TJxc12de k).2.2.1 = some (tyJxc12de k) := by decide +kernel
abbrev cJxc12de_init_da8c8 : ByteArray := prog_34_method_1_code
def yJxc12de_init_da8c8 : MethodName := ⟨RJxc12de, "<init>", "()V"⟩
def RJx4a65c : String := "java/util/ArrayList"
def TJx4a65c : u_T := fun k => match k with
  | 0 => ("java/util/AbstractList", "modCount", "I", false)
  | 1 => ("java/util/ArrayList", "elementData", "[Ljava/lang/Object;", false)
  | _ => ("java/util/ArrayList", "size", "I", false)
def tyJx4a65c : Nat → FieldType := fun k => match k with
  | 0 => .int
  | 1 => .array (.object "java/lang/Object")
  | _ => .int
abbrev wsJx4a65c0 : List Cond := u_ws RJx4a65c TJx4a65c 3
theorem nmJx4a65c : ∀ a, a < 3 → ∀ b, b < 3 → a ≠ b → (TJx4a65c a).2.1 ≠ (TJx4a65c b).2.1 := by decide +kernel
theorem tyJx4a65c_ok : ∀ k, k < 3 → parseFieldDescriptor (TJx4a65c k).2.2.1 = some (tyJx4a65c k) := by decide +kernel
abbrev cJx4a65c_init_da8c8 : ByteArray := prog_35_method_2_code
def yJx4a65c_init_da8c8 : MethodName := ⟨RJx4a65c, "<init>", "()V"⟩
abbrev cJx4a65c_grow_92f84 : ByteArray := prog_35_method_6_code
def yJx4a65c_grow_92f84 : MethodName := ⟨RJx4a65c, "grow", "(I)[Ljava/lang/Object;"⟩
abbrev cJx4a65c_grow_d5877 : ByteArray := prog_35_method_7_code
def yJx4a65c_grow_d5877 : MethodName := ⟨RJx4a65c, "grow", "()[Ljava/lang/Object;"⟩
abbrev cJx4a65c_size_8abf5 : ByteArray := prog_35_method_8_code
def yJx4a65c_size_8abf5 : MethodName := ⟨RJx4a65c, "size", "()I"⟩
abbrev cJx4a65c_isEmpty_aae02 : ByteArray := prog_35_method_9_code
def yJx4a65c_isEmpty_aae02 : MethodName := ⟨RJx4a65c, "isEmpty", "()Z"⟩
abbrev cJx4a65c_elementData_915e3 : ByteArray := prog_35_method_18_code
def yJx4a65c_elementData_915e3 : MethodName := ⟨RJx4a65c, "elementData", "(I)Ljava/lang/Object;"⟩
abbrev cJx4a65c_get_915e3 : ByteArray := prog_35_method_20_code
def yJx4a65c_get_915e3 : MethodName := ⟨RJx4a65c, "get", "(I)Ljava/lang/Object;"⟩
abbrev cJx4a65c_add_72be8 : ByteArray := prog_35_method_24_code
def yJx4a65c_add_72be8 : MethodName := ⟨RJx4a65c, "add", "(Ljava/lang/Object;[Ljava/lang/Object;I)V"⟩
abbrev cJx4a65c_add_9ea2d : ByteArray := prog_35_method_25_code
def yJx4a65c_add_9ea2d : MethodName := ⟨RJx4a65c, "add", "(Ljava/lang/Object;)Z"⟩
def RJ7 : String := "java/util/Arrays"
def TJ7 : u_T := fun k => match k with
  | _ => ("", "", "", false)
def tyJ7 : Nat → FieldType := fun k => match k with
  | _ => .int
abbrev wsJ70 : List Cond := u_ws RJ7 TJ7 0
theorem nmJ7 : ∀ a, a < 0 → ∀ b, b < 0 → a ≠ b → (TJ7 a).2.1 ≠ (TJ7 b).2.1 := by decide +kernel
theorem tyJ7_ok : ∀ k, k < 0 → parseFieldDescriptor (TJ7 k).2.2.1 = some (tyJ7 k) := by decide +kernel
abbrev cJ7_fill_53178 : ByteArray := prog_36_method_103_code
def yJ7_fill_53178 : MethodName := ⟨RJ7, "fill", "([II)V"⟩
abbrev cJ7_copyOf_1904c : ByteArray := prog_36_method_119_code
def yJ7_copyOf_1904c : MethodName := ⟨RJ7, "copyOf", "([Ljava/lang/Object;I)[Ljava/lang/Object;"⟩
abbrev cJ7_copyOf_6403c : ByteArray := prog_36_method_120_code
def yJ7_copyOf_6403c : MethodName := ⟨RJ7, "copyOf", "([Ljava/lang/Object;ILjava/lang/Class;)[Ljava/lang/Object;"⟩
def RJx5ef63 : String := "java/util/Collection"
def TJx5ef63 : u_T := fun k => match k with
  | _ => ("", "", "", false)
def tyJx5ef63 : Nat → FieldType := fun k => match k with
  | _ => .int
abbrev wsJx5ef630 : List Cond := u_ws RJx5ef63 TJx5ef63 0
theorem nmJx5ef63 : ∀ a, a < 0 → ∀ b, b < 0 → a ≠ b → (TJx5ef63 a).2.1 ≠ (TJx5ef63 b).2.1 := by decide +kernel
theorem tyJx5ef63_ok : ∀ k, k < 0 → parseFieldDescriptor (TJx5ef63 k).2.2.1 = some (tyJx5ef63 k) := by decide +kernel
def RJxbd725 : String := "java/util/List"
def TJxbd725 : u_T := fun k => match k with
  | _ => ("", "", "", false)
def tyJxbd725 : Nat → FieldType := fun k => match k with
  | _ => .int
abbrev wsJxbd7250 : List Cond := u_ws RJxbd725 TJxbd725 0
theorem nmJxbd725 : ∀ a, a < 0 → ∀ b, b < 0 → a ≠ b → (TJxbd725 a).2.1 ≠ (TJxbd725 b).2.1 := by decide +kernel
theorem tyJxbd725_ok : ∀ k, k < 0 → parseFieldDescriptor (TJxbd725 k).2.2.1 = some (tyJxbd725 k) := by decide +kernel
def RJ15 : String := "java/util/Objects"
def TJ15 : u_T := fun k => match k with
  | _ => ("", "", "", false)
def tyJ15 : Nat → FieldType := fun k => match k with
  | _ => .int
abbrev wsJ150 : List Cond := u_ws RJ15 TJ15 0
theorem nmJ15 : ∀ a, a < 0 → ∀ b, b < 0 → a ≠ b → (TJ15 a).2.1 ≠ (TJ15 b).2.1 := by decide +kernel
theorem tyJ15_ok : ∀ k, k < 0 → parseFieldDescriptor (TJ15 k).2.2.1 = some (tyJ15 k) := by decide +kernel
abbrev cJ15_checkIndex_7cf53 : ByteArray := prog_40_method_17_code
def yJ15_checkIndex_7cf53 : MethodName := ⟨RJ15, "checkIndex", "(II)I"⟩
def RJxf0a74 : String := "java/util/RandomAccess"
def TJxf0a74 : u_T := fun k => match k with
  | _ => ("", "", "", false)
def tyJxf0a74 : Nat → FieldType := fun k => match k with
  | _ => .int
abbrev wsJxf0a740 : List Cond := u_ws RJxf0a74 TJxf0a74 0
theorem nmJxf0a74 : ∀ a, a < 0 → ∀ b, b < 0 → a ≠ b → (TJxf0a74 a).2.1 ≠ (TJxf0a74 b).2.1 := by decide +kernel
theorem tyJxf0a74_ok : ∀ k, k < 0 → parseFieldDescriptor (TJxf0a74 k).2.2.1 = some (tyJxf0a74 k) := by decide +kernel
def RJxa66e6 : String := "java/util/SequencedCollection"
def TJxa66e6 : u_T := fun k => match k with
  | _ => ("", "", "", false)
def tyJxa66e6 : Nat → FieldType := fun k => match k with
  | _ => .int
abbrev wsJxa66e60 : List Cond := u_ws RJxa66e6 TJxa66e6 0
theorem nmJxa66e6 : ∀ a, a < 0 → ∀ b, b < 0 → a ≠ b → (TJxa66e6 a).2.1 ≠ (TJxa66e6 b).2.1 := by decide +kernel
theorem tyJxa66e6_ok : ∀ k, k < 0 → parseFieldDescriptor (TJxa66e6 k).2.2.1 = some (tyJxa66e6 k) := by decide +kernel
def RJ8 : String := "jdk/internal/util/ArraysSupport"
def TJ8 : u_T := fun k => match k with
  | _ => ("", "", "", false)
def tyJ8 : Nat → FieldType := fun k => match k with
  | _ => .int
abbrev wsJ80 : List Cond := u_ws RJ8 TJ8 0
theorem nmJ8 : ∀ a, a < 0 → ∀ b, b < 0 → a ≠ b → (TJ8 a).2.1 ≠ (TJ8 b).2.1 := by decide +kernel
theorem tyJ8_ok : ∀ k, k < 0 → parseFieldDescriptor (TJ8 k).2.2.1 = some (tyJ8 k) := by decide +kernel
abbrev cJ8_newLength_cabcc : ByteArray := prog_43_method_27_code
def yJ8_newLength_cabcc : MethodName := ⟨RJ8, "newLength", "(III)I"⟩
abbrev cJ8_hugeLength_7cf53 : ByteArray := prog_43_method_28_code
def yJ8_hugeLength_7cf53 : MethodName := ⟨RJ8, "hugeLength", "(II)I"⟩
def RJ3 : String := "jdk/internal/util/Preconditions"
def TJ3 : u_T := fun k => match k with
  | _ => ("", "", "", false)
def tyJ3 : Nat → FieldType := fun k => match k with
  | _ => .int
abbrev wsJ30 : List Cond := u_ws RJ3 TJ3 0
theorem nmJ3 : ∀ a, a < 0 → ∀ b, b < 0 → a ≠ b → (TJ3 a).2.1 ≠ (TJ3 b).2.1 := by decide +kernel
theorem tyJ3_ok : ∀ k, k < 0 → parseFieldDescriptor (TJ3 k).2.2.1 = some (tyJ3 k) := by decide +kernel
abbrev cJ3_checkIndex_8e157 : ByteArray := prog_44_method_11_code
def yJ3_checkIndex_8e157 : MethodName := ⟨RJ3, "checkIndex", "(IILjava/util/function/BiFunction;)I"⟩
def RL : String := "PackageForgeLaw"
abbrev cL_at : ByteArray := method_2_code
def yL_at : MethodName := ⟨RL, "at", "([II)I"⟩
abbrev cL_some : ByteArray := method_3_code
def yL_some : MethodName := ⟨RL, "some", "(II)I"⟩
abbrev cL_pack : ByteArray := method_4_code
def yL_pack : MethodName := ⟨RL, "pack", "(LPackageForge;I)I"⟩
abbrev cL_source : ByteArray := method_5_code
def yL_source : MethodName := ⟨RL, "source", "(LPackageForge;III)I"⟩
abbrev cL_need : ByteArray := method_6_code
def yL_need : MethodName := ⟨RL, "need", "(LPackageForge;IIII)I"⟩
abbrev cL_chosen : ByteArray := method_7_code
def yL_chosen : MethodName := ⟨RL, "chosen", "(LPackageForge;IIZ)I"⟩
abbrev cL_addTest : ByteArray := method_8_code
def yL_addTest : MethodName := ⟨RL, "addTest", "(LPackageForge;II)I"⟩
abbrev cL_of : ByteArray := method_9_code
def yL_of : MethodName := ⟨RL, "of", "(LPackageForge;II)I"⟩
abbrev cL_tests : ByteArray := method_10_code
def yL_tests : MethodName := ⟨RL, "tests", "(LPackageForge;II)I"⟩
abbrev cL_flakiest : ByteArray := method_11_code
def yL_flakiest : MethodName := ⟨RL, "flakiest", "(LPackageForge;)I"⟩
abbrev cL_money : ByteArray := method_12_code
def yL_money : MethodName := ⟨RL, "money", "(LPackageForge;CII)I"⟩
abbrev cL_release : ByteArray := method_13_code
def yL_release : MethodName := ⟨RL, "release", "(LPackageForge;III)I"⟩
abbrev cL_good : ByteArray := method_14_code
def yL_good : MethodName := ⟨RL, "good", "(LPackageForge;)F"⟩
abbrev cL_packs : ByteArray := method_16_code
def yL_packs : MethodName := ⟨RL, "packs", "(LPackageForge;)I"⟩
abbrev cL_testMany : ByteArray := method_17_code
def yL_testMany : MethodName := ⟨RL, "testMany", "(LPackageForge;)I"⟩
abbrev cL_sum : ByteArray := method_18_code
def yL_sum : MethodName := ⟨RL, "sum", "(LPackageForge;)J"⟩
abbrev cL_isSound : ByteArray := method_19_code
def yL_isSound : MethodName := ⟨RL, "isSound", "(LPackageForge;[[II)Z"⟩
abbrev cL_law : ByteArray := code
def yL_law : MethodName := ⟨RL, "law", "([I)Z"⟩
theorem wsL_law_x0 : ∀ w ∈ (vx_atM "java/lang/ArrayIndexOutOfBoundsException" ["java/lang/IndexOutOfBoundsException", "java/lang/RuntimeException", "java/lang/Exception"]).filter goodWord, w ∈ lw_tbl := by decide +kernel
theorem wsL_law_x1 : ∀ w ∈ (vx_atM "java/lang/ArithmeticException" ["java/lang/RuntimeException", "java/lang/Exception"]).filter goodWord, w ∈ lw_tbl := by decide +kernel
theorem wsL_law_x2 : ∀ w ∈ (vx_atS RX9 309 "java/lang/IndexOutOfBoundsException" ["java/lang/RuntimeException", "java/lang/Exception"]).filter goodWord, w ∈ lw_tbl := by decide +kernel
theorem wsL_law_x3 : ∀ w ∈ (vx_atS RX9 246 "java/lang/UnsupportedOperationException" ["java/lang/RuntimeException", "java/lang/Exception"]).filter goodWord, w ∈ lw_tbl := by decide +kernel
theorem wsL_law_x4 : ∀ w ∈ (vx_atS RX9 52 "java/lang/IllegalStateException" ["java/lang/RuntimeException", "java/lang/Exception"]).filter goodWord, w ∈ lw_tbl := by decide +kernel
theorem wsL_law_x6 : ∀ w ∈ (vx_atS RX9 291 "java/lang/ArithmeticException" ["java/lang/RuntimeException", "java/lang/Exception"]).filter goodWord, w ∈ lw_tbl := by decide +kernel
theorem wsL_law_x7 : ∀ w ∈ (vx_atS RX9 79 "java/lang/IllegalArgumentException" ["java/lang/RuntimeException", "java/lang/Exception"]).filter goodWord, w ∈ lw_tbl := by decide +kernel
theorem inJx145de : ∀ w ∈ wsJx145de0, w ∈ lw_tbl := by decide +kernel
theorem inJx00060 : ∀ w ∈ wsJx000600, w ∈ lw_tbl := by decide +kernel
theorem inJx8e188 : ∀ w ∈ wsJx8e1880, w ∈ lw_tbl := by decide +kernel
theorem inJxb160c : ∀ w ∈ wsJxb160c0, w ∈ lw_tbl := by decide +kernel
theorem inJxf58ca : ∀ w ∈ wsJxf58ca0, w ∈ lw_tbl := by decide +kernel
theorem inJxab1ab : ∀ w ∈ wsJxab1ab0, w ∈ lw_tbl := by decide +kernel
theorem inJ9 : ∀ w ∈ wsJ90, w ∈ lw_tbl := by decide +kernel
theorem inJxd2413 : ∀ w ∈ wsJxd24130, w ∈ lw_tbl := by decide +kernel
theorem inJ0 : ∀ w ∈ wsJ00, w ∈ lw_tbl := by decide +kernel
theorem inJ10 : ∀ w ∈ wsJ100, w ∈ lw_tbl := by decide +kernel
theorem inJxfd54e : ∀ w ∈ wsJxfd54e0, w ∈ lw_tbl := by decide +kernel
theorem inJx3cf43 : ∀ w ∈ wsJx3cf430, w ∈ lw_tbl := by decide +kernel
theorem inJxa1e45 : ∀ w ∈ wsJxa1e450, w ∈ lw_tbl := by decide +kernel
theorem inJxc12de : ∀ w ∈ wsJxc12de0, w ∈ lw_tbl := by decide +kernel
theorem inJ7 : ∀ w ∈ wsJ70, w ∈ lw_tbl := by decide +kernel
theorem inJx5ef63 : ∀ w ∈ wsJx5ef630, w ∈ lw_tbl := by decide +kernel
theorem inJxbd725 : ∀ w ∈ wsJxbd7250, w ∈ lw_tbl := by decide +kernel
theorem inJ15 : ∀ w ∈ wsJ150, w ∈ lw_tbl := by decide +kernel
theorem inJxf0a74 : ∀ w ∈ wsJxf0a740, w ∈ lw_tbl := by decide +kernel
theorem inJxa66e6 : ∀ w ∈ wsJxa66e60, w ∈ lw_tbl := by decide +kernel
theorem inJ8 : ∀ w ∈ wsJ80, w ∈ lw_tbl := by decide +kernel
theorem inJ3 : ∀ w ∈ wsJ30, w ∈ lw_tbl := by decide +kernel
abbrev vwCl : List vw_C := [(RJ0, TJ0, 2), (RJx00060, TJx00060, 6), (RJx4a65c, TJx4a65c, 3), (RX0, TX0, 4), (RX1, TX1, 1), (RX2, TX2, 3), (RX3, TX3, 2), (RX4, TX4, 5), (RX5, TX5, 5), (RX6, TX6, 3), (RX7, TX7, 5), (RX8, TX8, 3), (RX9, TX9, 10)]
