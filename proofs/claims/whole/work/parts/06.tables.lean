/-! names: the words, the classes, the rows that a program lays -/
def ncs : List Cond := [.not (.castable "AreaWarnings$Cancel" "AreaWarnings$Spoken"), .not (.castable "AreaWarnings$Spoken" "AreaWarnings$Cancel"), .not (.castable "java/lang/IllegalArgumentException" "java/lang/IllegalStateException"), .not (.castable "java/lang/IllegalArgumentException" "java/lang/UnsupportedOperationException"), .not (.castable "java/lang/IllegalArgumentException" "java/lang/IndexOutOfBoundsException"), .not (.castable "java/lang/IllegalStateException" "java/lang/IllegalArgumentException"), .not (.castable "java/lang/IllegalStateException" "java/lang/UnsupportedOperationException"), .not (.castable "java/lang/IllegalStateException" "java/lang/IndexOutOfBoundsException"), .not (.castable "java/lang/UnsupportedOperationException" "java/lang/IllegalArgumentException"), .not (.castable "java/lang/UnsupportedOperationException" "java/lang/IllegalStateException"), .not (.castable "java/lang/UnsupportedOperationException" "java/lang/IndexOutOfBoundsException"), .not (.castable "java/lang/IndexOutOfBoundsException" "java/lang/IllegalArgumentException"), .not (.castable "java/lang/IndexOutOfBoundsException" "java/lang/IllegalStateException"), .not (.castable "java/lang/IndexOutOfBoundsException" "java/lang/UnsupportedOperationException")]
def WS : List Cond := ((tables_1.set 258 (.arrayClass .int)).set 260 (.arrayClass .int)) ++ (k2_sels lw_privs ++ ncs)
theorem in_at {ws : List Cond} {w : Cond} (i : Nat) (h : ws[i]? = some w) : w ∈ ws := List.mem_of_getElem? h
theorem in_places (ws : List Cond) (ps : List Nat) (h : ws = ps.filterMap (fun i => WS[i]?)) : ∀ w ∈ ws, w ∈ WS := by
  intro w hw
  rw [h] at hw
  obtain ⟨i, -, hi⟩ := List.mem_filterMap.mp hw
  exact List.mem_of_getElem? hi
def TT_AW : u_T := fun k => match k with
  | 0 => ("AreaWarnings", "clock", "I", false)
  | 1 => ("AreaWarnings", "cells", "[LAreaWarnings$Cell;", true)
  | 2 => ("AreaWarnings", "cellCount", "I", false)
  | 3 => ("AreaWarnings", "warningsById", "[LAreaWarnings$Warning;", true)
  | 4 => ("AreaWarnings", "warningCount", "I", false)
  | 5 => ("AreaWarnings", "versionCount", "I", false)
  | 6 => ("AreaWarnings", "handsets", "[LAreaWarnings$Handset;", true)
  | 7 => ("AreaWarnings", "handsetCount", "I", false)
  | _ => ("AreaWarnings", "typed", "LAreaWarnings$Message;", false)
def TT_Ar : u_T := fun k => match k with
  | 0 => ("AreaWarnings$Area", "xs", "[I", true)
  | 1 => ("AreaWarnings$Area", "ys", "[I", true)
  | _ => ("AreaWarnings$Area", "count", "I", false)
def TT_Ca : u_T := fun k => match k with
  | 0 => ("AreaWarnings$Version", "warning", "LAreaWarnings$Warning;", true)
  | 1 => ("AreaWarnings$Version", "number", "I", true)
  | 2 => ("AreaWarnings$Version", "severity", "I", true)
  | _ => ("AreaWarnings$Version", "end", "I", true)
def TT_Ce : u_T := fun k => match k with
  | 0 => ("AreaWarnings$Cell", "index", "I", true)
  | 1 => ("AreaWarnings$Cell", "x", "I", true)
  | 2 => ("AreaWarnings$Cell", "y", "I", true)
  | 3 => ("AreaWarnings$Cell", "radius", "I", true)
  | 4 => ("AreaWarnings$Cell", "lineWhole", "Z", false)
  | 5 => ("AreaWarnings$Cell", "list", "[LAreaWarnings$Version;", false)
  | 6 => ("AreaWarnings$Cell", "listCount", "I", false)
  | 7 => ("AreaWarnings$Cell", "spareList", "[LAreaWarnings$Version;", false)
  | 8 => ("AreaWarnings$Cell", "pageVersions", "[LAreaWarnings$Version;", true)
  | 9 => ("AreaWarnings$Cell", "pageLanguages", "[I", true)
  | 10 => ("AreaWarnings$Cell", "pageNumbers", "[I", true)
  | _ => ("AreaWarnings$Cell", "pageCount", "I", false)
def TT_Ha : u_T := fun k => match k with
  | 0 => ("AreaWarnings$Handset", "threshold", "I", true)
  | 1 => ("AreaWarnings$Handset", "liked", "[I", true)
  | 2 => ("AreaWarnings$Handset", "likedCount", "I", false)
  | 3 => ("AreaWarnings$Handset", "place", "I", false)
  | 4 => ("AreaWarnings$Handset", "toMiss", "I", false)
  | 5 => ("AreaWarnings$Handset", "alarms", "I", false)
  | 6 => ("AreaWarnings$Handset", "heard", "[LAreaWarnings$Version;", true)
  | 7 => ("AreaWarnings$Handset", "heldPages", "[I", true)
  | 8 => ("AreaWarnings$Handset", "wasShown", "[Z", true)
  | 9 => ("AreaWarnings$Handset", "shownVersions", "[LAreaWarnings$Spoken;", true)
  | 10 => ("AreaWarnings$Handset", "shownLanguages", "[I", true)
  | 11 => ("AreaWarnings$Handset", "shownMinutes", "[I", true)
  | _ => ("AreaWarnings$Handset", "shownCount", "I", false)
def TT_Me : u_T := fun k => match k with
  | 0 => ("AreaWarnings$Message", "area", "LAreaWarnings$Area;", true)
  | _ => ("AreaWarnings$Message", "texts", "LAreaWarnings$Texts;", true)
def TT_Sp : u_T := fun k => match k with
  | 0 => ("AreaWarnings$Version", "warning", "LAreaWarnings$Warning;", true)
  | 1 => ("AreaWarnings$Version", "number", "I", true)
  | 2 => ("AreaWarnings$Version", "severity", "I", true)
  | 3 => ("AreaWarnings$Version", "end", "I", true)
  | 4 => ("AreaWarnings$Spoken", "begin", "I", true)
  | 5 => ("AreaWarnings$Spoken", "span", "I", true)
  | 6 => ("AreaWarnings$Spoken", "area", "LAreaWarnings$Area;", true)
  | 7 => ("AreaWarnings$Spoken", "texts", "LAreaWarnings$Texts;", true)
  | _ => ("AreaWarnings$Spoken", "covered", "[Z", true)
def TT_Te : u_T := fun k => match k with
  | 0 => ("AreaWarnings$Texts", "bytes", "[[I", true)
  | _ => ("AreaWarnings$Texts", "lengths", "[I", true)
def TT_Wa : u_T := fun k => match k with
  | 0 => ("AreaWarnings$Warning", "id", "I", true)
  | 1 => ("AreaWarnings$Warning", "index", "I", true)
  | _ => ("AreaWarnings$Warning", "newest", "LAreaWarnings$Version;", false)
def TT_Mo : u_T := fun k => match k with
  | 0 => ("AreaWarningsModel", "thrown", "I", false)
  | 1 => ("AreaWarningsModel", "clock", "I", false)
  | 2 => ("AreaWarningsModel", "cells", "I", false)
  | 3 => ("AreaWarningsModel", "cellX", "[I", true)
  | 4 => ("AreaWarningsModel", "cellY", "[I", true)
  | 5 => ("AreaWarningsModel", "cellR", "[I", true)
  | 6 => ("AreaWarningsModel", "cut", "[Z", true)
  | 7 => ("AreaWarningsModel", "listCount", "[I", true)
  | 8 => ("AreaWarningsModel", "lists", "[I", true)
  | 9 => ("AreaWarningsModel", "newList", "[I", true)
  | 10 => ("AreaWarningsModel", "sentCount", "[I", true)
  | 11 => ("AreaWarningsModel", "sentVersion", "[I", true)
  | 12 => ("AreaWarningsModel", "sentLanguage", "[I", true)
  | 13 => ("AreaWarningsModel", "sentNumber", "[I", true)
  | 14 => ("AreaWarningsModel", "corners", "I", false)
  | 15 => ("AreaWarningsModel", "cornerX", "[I", true)
  | 16 => ("AreaWarningsModel", "cornerY", "[I", true)
  | 17 => ("AreaWarningsModel", "lengths", "[I", true)
  | 18 => ("AreaWarningsModel", "typed", "[I", true)
  | 19 => ("AreaWarningsModel", "warnings", "I", false)
  | 20 => ("AreaWarningsModel", "ids", "[I", true)
  | 21 => ("AreaWarningsModel", "newest", "[I", true)
  | 22 => ("AreaWarningsModel", "versions", "I", false)
  | 23 => ("AreaWarningsModel", "warningOf", "[I", true)
  | 24 => ("AreaWarningsModel", "numberOf", "[I", true)
  | 25 => ("AreaWarningsModel", "severities", "[I", true)
  | 26 => ("AreaWarningsModel", "ends", "[I", true)
  | 27 => ("AreaWarningsModel", "spoken", "[Z", true)
  | 28 => ("AreaWarningsModel", "begins", "[I", true)
  | 29 => ("AreaWarningsModel", "spans", "[I", true)
  | 30 => ("AreaWarningsModel", "sides", "[I", true)
  | 31 => ("AreaWarningsModel", "areaX", "[I", true)
  | 32 => ("AreaWarningsModel", "areaY", "[I", true)
  | 33 => ("AreaWarningsModel", "textLengths", "[I", true)
  | 34 => ("AreaWarningsModel", "bytes", "[I", true)
  | 35 => ("AreaWarningsModel", "handsets", "I", false)
  | 36 => ("AreaWarningsModel", "thresholds", "[I", true)
  | 37 => ("AreaWarningsModel", "likeCount", "[I", true)
  | 38 => ("AreaWarningsModel", "likes", "[I", true)
  | 39 => ("AreaWarningsModel", "camps", "[I", true)
  | 40 => ("AreaWarningsModel", "misses", "[I", true)
  | 41 => ("AreaWarningsModel", "alarms", "[I", true)
  | 42 => ("AreaWarningsModel", "heard", "[I", true)
  | 43 => ("AreaWarningsModel", "held", "[I", true)
  | 44 => ("AreaWarningsModel", "isShown", "[Z", true)
  | 45 => ("AreaWarningsModel", "shownCount", "[I", true)
  | 46 => ("AreaWarningsModel", "shownVersion", "[I", true)
  | 47 => ("AreaWarningsModel", "shownLanguage", "[I", true)
  | _ => ("AreaWarningsModel", "shownMinute", "[I", true)
def YT_AW : Nat → FieldType := fun k => match k with
  | 0 => .int
  | 1 => .array (.object "AreaWarnings$Cell")
  | 2 => .int
  | 3 => .array (.object "AreaWarnings$Warning")
  | 4 => .int
  | 5 => .int
  | 6 => .array (.object "AreaWarnings$Handset")
  | 7 => .int
  | _ => .object "AreaWarnings$Message"
def YT_Ar : Nat → FieldType := fun k => match k with
  | 0 => .array .int
  | 1 => .array .int
  | _ => .int
def YT_Ca : Nat → FieldType := fun k => match k with
  | 0 => .object "AreaWarnings$Warning"
  | 1 => .int
  | 2 => .int
  | _ => .int
def YT_Ce : Nat → FieldType := fun k => match k with
  | 0 => .int
  | 1 => .int
  | 2 => .int
  | 3 => .int
  | 4 => .boolean
  | 5 => .array (.object "AreaWarnings$Version")
  | 6 => .int
  | 7 => .array (.object "AreaWarnings$Version")
  | 8 => .array (.object "AreaWarnings$Version")
  | 9 => .array .int
  | 10 => .array .int
  | _ => .int
def YT_Ha : Nat → FieldType := fun k => match k with
  | 0 => .int
  | 1 => .array .int
  | 2 => .int
  | 3 => .int
  | 4 => .int
  | 5 => .int
  | 6 => .array (.object "AreaWarnings$Version")
  | 7 => .array .int
  | 8 => .array .boolean
  | 9 => .array (.object "AreaWarnings$Spoken")
  | 10 => .array .int
  | 11 => .array .int
  | _ => .int
def YT_Me : Nat → FieldType := fun k => match k with
  | 0 => .object "AreaWarnings$Area"
  | _ => .object "AreaWarnings$Texts"
def YT_Sp : Nat → FieldType := fun k => match k with
  | 0 => .object "AreaWarnings$Warning"
  | 1 => .int
  | 2 => .int
  | 3 => .int
  | 4 => .int
  | 5 => .int
  | 6 => .object "AreaWarnings$Area"
  | 7 => .object "AreaWarnings$Texts"
  | _ => .array .boolean
def YT_Te : Nat → FieldType := fun k => match k with
  | 0 => .array (.array .int)
  | _ => .array .int
def YT_Wa : Nat → FieldType := fun k => match k with
  | 0 => .int
  | 1 => .int
  | _ => .object "AreaWarnings$Version"
def YT_Mo : Nat → FieldType := fun k => match k with
  | 0 => .int
  | 1 => .int
  | 2 => .int
  | 3 => .array .int
  | 4 => .array .int
  | 5 => .array .int
  | 6 => .array .boolean
  | 7 => .array .int
  | 8 => .array .int
  | 9 => .array .int
  | 10 => .array .int
  | 11 => .array .int
  | 12 => .array .int
  | 13 => .array .int
  | 14 => .int
  | 15 => .array .int
  | 16 => .array .int
  | 17 => .array .int
  | 18 => .array .int
  | 19 => .int
  | 20 => .array .int
  | 21 => .array .int
  | 22 => .int
  | 23 => .array .int
  | 24 => .array .int
  | 25 => .array .int
  | 26 => .array .int
  | 27 => .array .boolean
  | 28 => .array .int
  | 29 => .array .int
  | 30 => .array .int
  | 31 => .array .int
  | 32 => .array .int
  | 33 => .array .int
  | 34 => .array .int
  | 35 => .int
  | 36 => .array .int
  | 37 => .array .int
  | 38 => .array .int
  | 39 => .array .int
  | 40 => .array .int
  | 41 => .array .int
  | 42 => .array .int
  | 43 => .array .int
  | 44 => .array .boolean
  | 45 => .array .int
  | 46 => .array .int
  | 47 => .array .int
  | _ => .array .int
def clS : List vw_C := [("AreaWarnings", TT_AW, 9), ("AreaWarnings$Area", TT_Ar, 3), ("AreaWarnings$Cancel", TT_Ca, 4), ("AreaWarnings$Cell", TT_Ce, 12), ("AreaWarnings$Handset", TT_Ha, 13), ("AreaWarnings$Message", TT_Me, 2), ("AreaWarnings$Spoken", TT_Sp, 9), ("AreaWarnings$Texts", TT_Te, 2), ("AreaWarnings$Warning", TT_Wa, 3), ("AreaWarningsModel", TT_Mo, 49)]
/-- array kinds: int, boolean, long, int[], Cell, Warning, Handset, Version, Spoken -/
def taS : List FieldType := [.int, .boolean, .long, .array .int, .object "AreaWarnings$Cell", .object "AreaWarnings$Warning", .object "AreaWarnings$Handset", .object "AreaWarnings$Version", .object "AreaWarnings$Spoken"]
theorem in_AW : ∀ w ∈ u_ws "AreaWarnings" TT_AW 9, w ∈ WS := in_places _ [96, 98, 100, 102, 104, 106, 108, 110, 112] (by decide +kernel)
theorem yt_AW : ∀ j, j < 9 → parseFieldDescriptor (TT_AW j).2.2.1 = some (YT_AW j) := by decide +kernel
theorem nm_AW : ∀ a, a < 9 → ∀ b, b < 9 → a ≠ b → (TT_AW a).2.1 ≠ (TT_AW b).2.1 := by decide +kernel
theorem in_Ar : ∀ w ∈ u_ws "AreaWarnings$Area" TT_Ar 3, w ∈ WS := in_places _ [50, 52, 54] (by decide +kernel)
theorem yt_Ar : ∀ j, j < 3 → parseFieldDescriptor (TT_Ar j).2.2.1 = some (YT_Ar j) := by decide +kernel
theorem nm_Ar : ∀ a, a < 3 → ∀ b, b < 3 → a ≠ b → (TT_Ar a).2.1 ≠ (TT_Ar b).2.1 := by decide +kernel
theorem in_Ca : ∀ w ∈ u_ws "AreaWarnings$Cancel" TT_Ca 4, w ∈ WS := in_places _ [594, 595, 596, 597] (by decide +kernel)
theorem yt_Ca : ∀ j, j < 4 → parseFieldDescriptor (TT_Ca j).2.2.1 = some (YT_Ca j) := by decide +kernel
theorem nm_Ca : ∀ a, a < 4 → ∀ b, b < 4 → a ≠ b → (TT_Ca a).2.1 ≠ (TT_Ca b).2.1 := by decide +kernel
theorem in_Ce : ∀ w ∈ u_ws "AreaWarnings$Cell" TT_Ce 12, w ∈ WS := in_places _ [344, 346, 348, 350, 352, 354, 356, 358, 360, 362, 364, 366] (by decide +kernel)
theorem yt_Ce : ∀ j, j < 12 → parseFieldDescriptor (TT_Ce j).2.2.1 = some (YT_Ce j) := by decide +kernel
theorem nm_Ce : ∀ a, a < 12 → ∀ b, b < 12 → a ≠ b → (TT_Ce a).2.1 ≠ (TT_Ce b).2.1 := by decide +kernel
theorem in_Ha : ∀ w ∈ u_ws "AreaWarnings$Handset" TT_Ha 13, w ∈ WS := in_places _ [656, 658, 660, 662, 664, 666, 668, 670, 672, 674, 676, 678, 680] (by decide +kernel)
theorem yt_Ha : ∀ j, j < 13 → parseFieldDescriptor (TT_Ha j).2.2.1 = some (YT_Ha j) := by decide +kernel
theorem nm_Ha : ∀ a, a < 13 → ∀ b, b < 13 → a ≠ b → (TT_Ha a).2.1 ≠ (TT_Ha b).2.1 := by decide +kernel
theorem in_Me : ∀ w ∈ u_ws "AreaWarnings$Message" TT_Me 2, w ∈ WS := in_places _ [82, 84] (by decide +kernel)
theorem yt_Me : ∀ j, j < 2 → parseFieldDescriptor (TT_Me j).2.2.1 = some (YT_Me j) := by decide +kernel
theorem nm_Me : ∀ a, a < 2 → ∀ b, b < 2 → a ≠ b → (TT_Me a).2.1 ≠ (TT_Me b).2.1 := by decide +kernel
theorem in_Sp : ∀ w ∈ u_ws "AreaWarnings$Spoken" TT_Sp 9, w ∈ WS := in_places _ [556, 558, 560, 562, 546, 548, 550, 552, 554] (by decide +kernel)
theorem yt_Sp : ∀ j, j < 9 → parseFieldDescriptor (TT_Sp j).2.2.1 = some (YT_Sp j) := by decide +kernel
theorem nm_Sp : ∀ a, a < 9 → ∀ b, b < 9 → a ≠ b → (TT_Sp a).2.1 ≠ (TT_Sp b).2.1 := by decide +kernel
theorem in_Te : ∀ w ∈ u_ws "AreaWarnings$Texts" TT_Te 2, w ∈ WS := in_places _ [71, 73] (by decide +kernel)
theorem yt_Te : ∀ j, j < 2 → parseFieldDescriptor (TT_Te j).2.2.1 = some (YT_Te j) := by decide +kernel
theorem nm_Te : ∀ a, a < 2 → ∀ b, b < 2 → a ≠ b → (TT_Te a).2.1 ≠ (TT_Te b).2.1 := by decide +kernel
theorem in_Wa : ∀ w ∈ u_ws "AreaWarnings$Warning" TT_Wa 3, w ∈ WS := in_places _ [495, 497, 499] (by decide +kernel)
theorem yt_Wa : ∀ j, j < 3 → parseFieldDescriptor (TT_Wa j).2.2.1 = some (YT_Wa j) := by decide +kernel
theorem nm_Wa : ∀ a, a < 3 → ∀ b, b < 3 → a ≠ b → (TT_Wa a).2.1 ≠ (TT_Wa b).2.1 := by decide +kernel
theorem in_Mo : ∀ w ∈ u_ws "AreaWarningsModel" TT_Mo 49, w ∈ WS := in_places _ [819, 821, 823, 825, 827, 829, 831, 833, 835, 837, 839, 841, 843, 845, 847, 849, 851, 853, 855, 857, 859, 861, 863, 865, 867, 869, 871, 873, 875, 877, 879, 881, 883, 885, 887, 889, 891, 893, 895, 897, 899, 901, 903, 905, 907, 909, 911, 913, 915] (by decide +kernel)
theorem yt_Mo : ∀ j, j < 49 → parseFieldDescriptor (TT_Mo j).2.2.1 = some (YT_Mo j) := by decide +kernel
theorem nm_Mo : ∀ a, a < 49 → ∀ b, b < 49 → a ≠ b → (TT_Mo a).2.1 ≠ (TT_Mo b).2.1 := by decide +kernel
theorem fg_AW_9_AW : FR WS clS "AreaWarnings" 9 0 0 := ⟨by decide, "AreaWarnings", TT_AW, 9, "AreaWarnings", rfl, by decide, in_AW, Or.inl (in_at 87 (by decide +kernel)), Or.inl rfl⟩
theorem fp_AW_9_AW : FP WS clS "AreaWarnings" 9 0 0 (.int) false := ⟨by decide, "AreaWarnings", TT_AW, 9, "AreaWarnings", YT_AW, rfl, by decide, in_AW, Or.inl (in_at 87 (by decide +kernel)), Or.inl rfl, yt_AW, nm_AW, by decide +kernel, rfl, fun h => by cases h⟩
theorem fg_AW_15_AW : FR WS clS "AreaWarnings" 15 0 1 := ⟨by decide, "AreaWarnings", TT_AW, 9, "AreaWarnings", rfl, by decide, in_AW, Or.inl (in_at 88 (by decide +kernel)), Or.inl rfl⟩
theorem fp_AW_15_AW : FP WS clS "AreaWarnings" 15 0 1 (.array (.object "AreaWarnings$Cell")) true := ⟨by decide, "AreaWarnings", TT_AW, 9, "AreaWarnings", YT_AW, rfl, by decide, in_AW, Or.inl (in_at 88 (by decide +kernel)), Or.inl rfl, yt_AW, nm_AW, by decide +kernel, rfl, fun _ => rfl⟩
theorem fg_AW_19_AW : FR WS clS "AreaWarnings" 19 0 2 := ⟨by decide, "AreaWarnings", TT_AW, 9, "AreaWarnings", rfl, by decide, in_AW, Or.inl (in_at 89 (by decide +kernel)), Or.inl rfl⟩
theorem fp_AW_19_AW : FP WS clS "AreaWarnings" 19 0 2 (.int) false := ⟨by decide, "AreaWarnings", TT_AW, 9, "AreaWarnings", YT_AW, rfl, by decide, in_AW, Or.inl (in_at 89 (by decide +kernel)), Or.inl rfl, yt_AW, nm_AW, by decide +kernel, rfl, fun h => by cases h⟩
theorem fg_AW_24_AW : FR WS clS "AreaWarnings" 24 0 3 := ⟨by decide, "AreaWarnings", TT_AW, 9, "AreaWarnings", rfl, by decide, in_AW, Or.inl (in_at 90 (by decide +kernel)), Or.inl rfl⟩
theorem fp_AW_24_AW : FP WS clS "AreaWarnings" 24 0 3 (.array (.object "AreaWarnings$Warning")) true := ⟨by decide, "AreaWarnings", TT_AW, 9, "AreaWarnings", YT_AW, rfl, by decide, in_AW, Or.inl (in_at 90 (by decide +kernel)), Or.inl rfl, yt_AW, nm_AW, by decide +kernel, rfl, fun _ => rfl⟩
theorem fg_AW_28_AW : FR WS clS "AreaWarnings" 28 0 4 := ⟨by decide, "AreaWarnings", TT_AW, 9, "AreaWarnings", rfl, by decide, in_AW, Or.inl (in_at 91 (by decide +kernel)), Or.inl rfl⟩
theorem fp_AW_28_AW : FP WS clS "AreaWarnings" 28 0 4 (.int) false := ⟨by decide, "AreaWarnings", TT_AW, 9, "AreaWarnings", YT_AW, rfl, by decide, in_AW, Or.inl (in_at 91 (by decide +kernel)), Or.inl rfl, yt_AW, nm_AW, by decide +kernel, rfl, fun h => by cases h⟩
theorem fg_AW_31_AW : FR WS clS "AreaWarnings" 31 0 5 := ⟨by decide, "AreaWarnings", TT_AW, 9, "AreaWarnings", rfl, by decide, in_AW, Or.inl (in_at 92 (by decide +kernel)), Or.inl rfl⟩
theorem fp_AW_31_AW : FP WS clS "AreaWarnings" 31 0 5 (.int) false := ⟨by decide, "AreaWarnings", TT_AW, 9, "AreaWarnings", YT_AW, rfl, by decide, in_AW, Or.inl (in_at 92 (by decide +kernel)), Or.inl rfl, yt_AW, nm_AW, by decide +kernel, rfl, fun h => by cases h⟩
theorem fg_AW_36_AW : FR WS clS "AreaWarnings" 36 0 6 := ⟨by decide, "AreaWarnings", TT_AW, 9, "AreaWarnings", rfl, by decide, in_AW, Or.inl (in_at 93 (by decide +kernel)), Or.inl rfl⟩
theorem fp_AW_36_AW : FP WS clS "AreaWarnings" 36 0 6 (.array (.object "AreaWarnings$Handset")) true := ⟨by decide, "AreaWarnings", TT_AW, 9, "AreaWarnings", YT_AW, rfl, by decide, in_AW, Or.inl (in_at 93 (by decide +kernel)), Or.inl rfl, yt_AW, nm_AW, by decide +kernel, rfl, fun _ => rfl⟩
theorem fg_AW_40_AW : FR WS clS "AreaWarnings" 40 0 7 := ⟨by decide, "AreaWarnings", TT_AW, 9, "AreaWarnings", rfl, by decide, in_AW, Or.inl (in_at 94 (by decide +kernel)), Or.inl rfl⟩
theorem fp_AW_40_AW : FP WS clS "AreaWarnings" 40 0 7 (.int) false := ⟨by decide, "AreaWarnings", TT_AW, 9, "AreaWarnings", YT_AW, rfl, by decide, in_AW, Or.inl (in_at 94 (by decide +kernel)), Or.inl rfl, yt_AW, nm_AW, by decide +kernel, rfl, fun h => by cases h⟩
theorem fg_AW_46_AW : FR WS clS "AreaWarnings" 46 0 8 := ⟨by decide, "AreaWarnings", TT_AW, 9, "AreaWarnings", rfl, by decide, in_AW, Or.inl (in_at 95 (by decide +kernel)), Or.inl rfl⟩
theorem fp_AW_46_AW : FP WS clS "AreaWarnings" 46 0 8 (.object "AreaWarnings$Message") false := ⟨by decide, "AreaWarnings", TT_AW, 9, "AreaWarnings", YT_AW, rfl, by decide, in_AW, Or.inl (in_at 95 (by decide +kernel)), Or.inl rfl, yt_AW, nm_AW, by decide +kernel, rfl, fun h => by cases h⟩
theorem fg_AW_63_Wa : FR WS clS "AreaWarnings" 63 8 2 := ⟨by decide, "AreaWarnings$Warning", TT_Wa, 3, "AreaWarnings$Warning", rfl, by decide, in_Wa, Or.inl (in_at 494 (by decide +kernel)), Or.inl rfl⟩
theorem fp_AW_63_Wa : FP WS clS "AreaWarnings" 63 8 2 (.object "AreaWarnings$Version") false := ⟨by decide, "AreaWarnings$Warning", TT_Wa, 3, "AreaWarnings$Warning", YT_Wa, rfl, by decide, in_Wa, Or.inl (in_at 494 (by decide +kernel)), Or.inl rfl, yt_Wa, nm_Wa, by decide +kernel, rfl, fun h => by cases h⟩
theorem fg_AW_73_Ce : FR WS clS "AreaWarnings" 73 3 0 := ⟨by decide, "AreaWarnings$Cell", TT_Ce, 12, "AreaWarnings$Cell", rfl, by decide, in_Ce, Or.inl (in_at 318 (by decide +kernel)), Or.inl rfl⟩
theorem fg_AW_76_Me : FR WS clS "AreaWarnings" 76 5 0 := ⟨by decide, "AreaWarnings$Message", TT_Me, 2, "AreaWarnings$Message", rfl, by decide, in_Me, Or.inl (in_at 78 (by decide +kernel)), Or.inl rfl⟩
theorem fg_AW_80_Ar : FR WS clS "AreaWarnings" 80 1 2 := ⟨by decide, "AreaWarnings$Area", TT_Ar, 3, "AreaWarnings$Area", rfl, by decide, in_Ar, Or.inl (in_at 49 (by decide +kernel)), Or.inl rfl⟩
theorem fg_AW_92_Me : FR WS clS "AreaWarnings" 92 5 1 := ⟨by decide, "AreaWarnings$Message", TT_Me, 2, "AreaWarnings$Message", rfl, by decide, in_Me, Or.inl (in_at 81 (by decide +kernel)), Or.inl rfl⟩
theorem fg_AW_96_Te : FR WS clS "AreaWarnings" 96 7 1 := ⟨by decide, "AreaWarnings$Texts", TT_Te, 2, "AreaWarnings$Texts", rfl, by decide, in_Te, Or.inl (in_at 69 (by decide +kernel)), Or.inl rfl⟩
theorem fg_AW_151_Ca : FR WS clS "AreaWarnings" 151 2 2 := ⟨by decide, "AreaWarnings$Cancel", TT_Ca, 4, "AreaWarnings$Version", rfl, by decide, in_Ca, Or.inl (in_at 540 (by decide +kernel)), Or.inl rfl⟩
theorem fg_AW_151_Sp : FR WS clS "AreaWarnings" 151 6 2 := ⟨by decide, "AreaWarnings$Spoken", TT_Sp, 9, "AreaWarnings$Version", rfl, by decide, in_Sp, Or.inl (in_at 540 (by decide +kernel)), Or.inl rfl⟩
theorem fg_AW_156_Ca : FR WS clS "AreaWarnings" 156 2 3 := ⟨by decide, "AreaWarnings$Cancel", TT_Ca, 4, "AreaWarnings$Version", rfl, by decide, in_Ca, Or.inl (in_at 545 (by decide +kernel)), Or.inl rfl⟩
theorem fg_AW_156_Sp : FR WS clS "AreaWarnings" 156 6 3 := ⟨by decide, "AreaWarnings$Spoken", TT_Sp, 9, "AreaWarnings$Version", rfl, by decide, in_Sp, Or.inl (in_at 545 (by decide +kernel)), Or.inl rfl⟩
theorem fg_AW_162_Ca : FR WS clS "AreaWarnings" 162 2 1 := ⟨by decide, "AreaWarnings$Cancel", TT_Ca, 4, "AreaWarnings$Version", rfl, by decide, in_Ca, Or.inl (in_at 533 (by decide +kernel)), Or.inl rfl⟩
theorem fg_AW_162_Sp : FR WS clS "AreaWarnings" 162 6 1 := ⟨by decide, "AreaWarnings$Spoken", TT_Sp, 9, "AreaWarnings$Version", rfl, by decide, in_Sp, Or.inl (in_at 533 (by decide +kernel)), Or.inl rfl⟩
theorem fg_AW_165_Ce : FR WS clS "AreaWarnings" 165 3 4 := ⟨by decide, "AreaWarnings$Cell", TT_Ce, 12, "AreaWarnings$Cell", rfl, by decide, in_Ce, Or.inl (in_at 326 (by decide +kernel)), Or.inl rfl⟩
theorem fp_AW_165_Ce : FP WS clS "AreaWarnings" 165 3 4 (.boolean) false := ⟨by decide, "AreaWarnings$Cell", TT_Ce, 12, "AreaWarnings$Cell", YT_Ce, rfl, by decide, in_Ce, Or.inl (in_at 326 (by decide +kernel)), Or.inl rfl, yt_Ce, nm_Ce, by decide +kernel, rfl, fun h => by cases h⟩
theorem fg_AW_180_Ce : FR WS clS "AreaWarnings" 180 3 11 := ⟨by decide, "AreaWarnings$Cell", TT_Ce, 12, "AreaWarnings$Cell", rfl, by decide, in_Ce, Or.inl (in_at 343 (by decide +kernel)), Or.inl rfl⟩
theorem fg_AW_183_Ha : FR WS clS "AreaWarnings" 183 4 3 := ⟨by decide, "AreaWarnings$Handset", TT_Ha, 13, "AreaWarnings$Handset", rfl, by decide, in_Ha, Or.inl (in_at 640 (by decide +kernel)), Or.inl rfl⟩
theorem fp_AW_183_Ha : FP WS clS "AreaWarnings" 183 4 3 (.int) false := ⟨by decide, "AreaWarnings$Handset", TT_Ha, 13, "AreaWarnings$Handset", YT_Ha, rfl, by decide, in_Ha, Or.inl (in_at 640 (by decide +kernel)), Or.inl rfl, yt_Ha, nm_Ha, by decide +kernel, rfl, fun h => by cases h⟩
theorem fg_AW_201_Ha : FR WS clS "AreaWarnings" 201 4 2 := ⟨by decide, "AreaWarnings$Handset", TT_Ha, 13, "AreaWarnings$Handset", rfl, by decide, in_Ha, Or.inl (in_at 638 (by decide +kernel)), Or.inl rfl⟩
theorem fg_AW_208_Ha : FR WS clS "AreaWarnings" 208 4 4 := ⟨by decide, "AreaWarnings$Handset", TT_Ha, 13, "AreaWarnings$Handset", rfl, by decide, in_Ha, Or.inl (in_at 642 (by decide +kernel)), Or.inl rfl⟩
theorem fp_AW_208_Ha : FP WS clS "AreaWarnings" 208 4 4 (.int) false := ⟨by decide, "AreaWarnings$Handset", TT_Ha, 13, "AreaWarnings$Handset", YT_Ha, rfl, by decide, in_Ha, Or.inl (in_at 642 (by decide +kernel)), Or.inl rfl, yt_Ha, nm_Ha, by decide +kernel, rfl, fun h => by cases h⟩
theorem fg_AW_211_Sp : FR WS clS "AreaWarnings" 211 6 8 := ⟨by decide, "AreaWarnings$Spoken", TT_Sp, 9, "AreaWarnings$Spoken", rfl, by decide, in_Sp, Or.inl (in_at 523 (by decide +kernel)), Or.inl rfl⟩
theorem fg_AW_215_Ce : FR WS clS "AreaWarnings" 215 3 6 := ⟨by decide, "AreaWarnings$Cell", TT_Ce, 12, "AreaWarnings$Cell", rfl, by decide, in_Ce, Or.inl (in_at 330 (by decide +kernel)), Or.inl rfl⟩
theorem fg_AW_218_Ce : FR WS clS "AreaWarnings" 218 3 5 := ⟨by decide, "AreaWarnings$Cell", TT_Ce, 12, "AreaWarnings$Cell", rfl, by decide, in_Ce, Or.inl (in_at 328 (by decide +kernel)), Or.inl rfl⟩
theorem fg_AW_222_Ca : FR WS clS "AreaWarnings" 222 2 0 := ⟨by decide, "AreaWarnings$Cancel", TT_Ca, 4, "AreaWarnings$Version", rfl, by decide, in_Ca, Or.inl (in_at 529 (by decide +kernel)), Or.inl rfl⟩
theorem fg_AW_222_Sp : FR WS clS "AreaWarnings" 222 6 0 := ⟨by decide, "AreaWarnings$Spoken", TT_Sp, 9, "AreaWarnings$Version", rfl, by decide, in_Sp, Or.inl (in_at 529 (by decide +kernel)), Or.inl rfl⟩
theorem fg_AW_226_Wa : FR WS clS "AreaWarnings" 226 8 0 := ⟨by decide, "AreaWarnings$Warning", TT_Wa, 3, "AreaWarnings$Warning", rfl, by decide, in_Wa, Or.inl (in_at 488 (by decide +kernel)), Or.inl rfl⟩
theorem fg_AW_229_Ce : FR WS clS "AreaWarnings" 229 3 8 := ⟨by decide, "AreaWarnings$Cell", TT_Ce, 12, "AreaWarnings$Cell", rfl, by decide, in_Ce, Or.inl (in_at 334 (by decide +kernel)), Or.inl rfl⟩
theorem fg_AW_232_Ce : FR WS clS "AreaWarnings" 232 3 9 := ⟨by decide, "AreaWarnings$Cell", TT_Ce, 12, "AreaWarnings$Cell", rfl, by decide, in_Ce, Or.inl (in_at 337 (by decide +kernel)), Or.inl rfl⟩
theorem fg_AW_235_Ce : FR WS clS "AreaWarnings" 235 3 10 := ⟨by decide, "AreaWarnings$Cell", TT_Ce, 12, "AreaWarnings$Cell", rfl, by decide, in_Ce, Or.inl (in_at 340 (by decide +kernel)), Or.inl rfl⟩
theorem fg_AW_241_Ha : FR WS clS "AreaWarnings" 241 4 12 := ⟨by decide, "AreaWarnings$Handset", TT_Ha, 13, "AreaWarnings$Handset", rfl, by decide, in_Ha, Or.inl (in_at 655 (by decide +kernel)), Or.inl rfl⟩
theorem fg_AW_244_Ha : FR WS clS "AreaWarnings" 244 4 9 := ⟨by decide, "AreaWarnings$Handset", TT_Ha, 13, "AreaWarnings$Handset", rfl, by decide, in_Ha, Or.inl (in_at 649 (by decide +kernel)), Or.inl rfl⟩
theorem fg_AW_248_Sp : FR WS clS "AreaWarnings" 248 6 0 := ⟨by decide, "AreaWarnings$Spoken", TT_Sp, 9, "AreaWarnings$Spoken", rfl, by decide, in_Sp, Or.inl (in_at 530 (by decide +kernel)), Or.inr (in_at 528 (by decide +kernel))⟩
theorem fg_AW_249_Sp : FR WS clS "AreaWarnings" 249 6 1 := ⟨by decide, "AreaWarnings$Spoken", TT_Sp, 9, "AreaWarnings$Spoken", rfl, by decide, in_Sp, Or.inl (in_at 534 (by decide +kernel)), Or.inr (in_at 535 (by decide +kernel))⟩
theorem fg_AW_250_Ha : FR WS clS "AreaWarnings" 250 4 10 := ⟨by decide, "AreaWarnings$Handset", TT_Ha, 13, "AreaWarnings$Handset", rfl, by decide, in_Ha, Or.inl (in_at 651 (by decide +kernel)), Or.inl rfl⟩
theorem fg_AW_253_Ha : FR WS clS "AreaWarnings" 253 4 11 := ⟨by decide, "AreaWarnings$Handset", TT_Ha, 13, "AreaWarnings$Handset", rfl, by decide, in_Ha, Or.inl (in_at 653 (by decide +kernel)), Or.inl rfl⟩
theorem fg_AW_263_Sp : FR WS clS "AreaWarnings" 263 6 7 := ⟨by decide, "AreaWarnings$Spoken", TT_Sp, 9, "AreaWarnings$Spoken", rfl, by decide, in_Sp, Or.inl (in_at 520 (by decide +kernel)), Or.inl rfl⟩
theorem fg_AW_264_Te : FR WS clS "AreaWarnings" 264 7 0 := ⟨by decide, "AreaWarnings$Texts", TT_Te, 2, "AreaWarnings$Texts", rfl, by decide, in_Te, Or.inl (in_at 67 (by decide +kernel)), Or.inl rfl⟩
theorem fg_AW_268_Ha : FR WS clS "AreaWarnings" 268 4 5 := ⟨by decide, "AreaWarnings$Handset", TT_Ha, 13, "AreaWarnings$Handset", rfl, by decide, in_Ha, Or.inl (in_at 644 (by decide +kernel)), Or.inl rfl⟩
theorem fg_Ar_9_Ar : FR WS clS "AreaWarnings$Area" 9 1 0 := ⟨by decide, "AreaWarnings$Area", TT_Ar, 3, "AreaWarnings$Area", rfl, by decide, in_Ar, Or.inl (in_at 46 (by decide +kernel)), Or.inl rfl⟩
theorem fp_Ar_9_Ar : FP WS clS "AreaWarnings$Area" 9 1 0 (.array .int) true := ⟨by decide, "AreaWarnings$Area", TT_Ar, 3, "AreaWarnings$Area", YT_Ar, rfl, by decide, in_Ar, Or.inl (in_at 46 (by decide +kernel)), Or.inl rfl, yt_Ar, nm_Ar, by decide +kernel, rfl, fun _ => rfl⟩
theorem fg_Ar_15_Ar : FR WS clS "AreaWarnings$Area" 15 1 1 := ⟨by decide, "AreaWarnings$Area", TT_Ar, 3, "AreaWarnings$Area", rfl, by decide, in_Ar, Or.inl (in_at 47 (by decide +kernel)), Or.inl rfl⟩
theorem fp_Ar_15_Ar : FP WS clS "AreaWarnings$Area" 15 1 1 (.array .int) true := ⟨by decide, "AreaWarnings$Area", TT_Ar, 3, "AreaWarnings$Area", YT_Ar, rfl, by decide, in_Ar, Or.inl (in_at 47 (by decide +kernel)), Or.inl rfl, yt_Ar, nm_Ar, by decide +kernel, rfl, fun _ => rfl⟩
theorem fg_Ar_18_Ar : FR WS clS "AreaWarnings$Area" 18 1 2 := ⟨by decide, "AreaWarnings$Area", TT_Ar, 3, "AreaWarnings$Area", rfl, by decide, in_Ar, Or.inl (in_at 48 (by decide +kernel)), Or.inl rfl⟩
theorem fp_Ar_18_Ar : FP WS clS "AreaWarnings$Area" 18 1 2 (.int) false := ⟨by decide, "AreaWarnings$Area", TT_Ar, 3, "AreaWarnings$Area", YT_Ar, rfl, by decide, in_Ar, Or.inl (in_at 48 (by decide +kernel)), Or.inl rfl, yt_Ar, nm_Ar, by decide +kernel, rfl, fun h => by cases h⟩
theorem fg_Ce_9_Ce : FR WS clS "AreaWarnings$Cell" 9 3 0 := ⟨by decide, "AreaWarnings$Cell", TT_Ce, 12, "AreaWarnings$Cell", rfl, by decide, in_Ce, Or.inl (in_at 316 (by decide +kernel)), Or.inl rfl⟩
theorem fp_Ce_9_Ce : FP WS clS "AreaWarnings$Cell" 9 3 0 (.int) true := ⟨by decide, "AreaWarnings$Cell", TT_Ce, 12, "AreaWarnings$Cell", YT_Ce, rfl, by decide, in_Ce, Or.inl (in_at 316 (by decide +kernel)), Or.inl rfl, yt_Ce, nm_Ce, by decide +kernel, rfl, fun _ => rfl⟩
theorem fp_Ce_15_Ce : FP WS clS "AreaWarnings$Cell" 15 3 1 (.int) true := ⟨by decide, "AreaWarnings$Cell", TT_Ce, 12, "AreaWarnings$Cell", YT_Ce, rfl, by decide, in_Ce, Or.inl (in_at 319 (by decide +kernel)), Or.inl rfl, yt_Ce, nm_Ce, by decide +kernel, rfl, fun _ => rfl⟩
theorem fp_Ce_18_Ce : FP WS clS "AreaWarnings$Cell" 18 3 2 (.int) true := ⟨by decide, "AreaWarnings$Cell", TT_Ce, 12, "AreaWarnings$Cell", YT_Ce, rfl, by decide, in_Ce, Or.inl (in_at 321 (by decide +kernel)), Or.inl rfl, yt_Ce, nm_Ce, by decide +kernel, rfl, fun _ => rfl⟩
theorem fp_Ce_21_Ce : FP WS clS "AreaWarnings$Cell" 21 3 3 (.int) true := ⟨by decide, "AreaWarnings$Cell", TT_Ce, 12, "AreaWarnings$Cell", YT_Ce, rfl, by decide, in_Ce, Or.inl (in_at 323 (by decide +kernel)), Or.inl rfl, yt_Ce, nm_Ce, by decide +kernel, rfl, fun _ => rfl⟩
theorem fp_Ce_24_Ce : FP WS clS "AreaWarnings$Cell" 24 3 4 (.boolean) false := ⟨by decide, "AreaWarnings$Cell", TT_Ce, 12, "AreaWarnings$Cell", YT_Ce, rfl, by decide, in_Ce, Or.inl (in_at 325 (by decide +kernel)), Or.inl rfl, yt_Ce, nm_Ce, by decide +kernel, rfl, fun h => by cases h⟩
theorem fg_Ce_30_Ce : FR WS clS "AreaWarnings$Cell" 30 3 5 := ⟨by decide, "AreaWarnings$Cell", TT_Ce, 12, "AreaWarnings$Cell", rfl, by decide, in_Ce, Or.inl (in_at 327 (by decide +kernel)), Or.inl rfl⟩
theorem fp_Ce_30_Ce : FP WS clS "AreaWarnings$Cell" 30 3 5 (.array (.object "AreaWarnings$Version")) false := ⟨by decide, "AreaWarnings$Cell", TT_Ce, 12, "AreaWarnings$Cell", YT_Ce, rfl, by decide, in_Ce, Or.inl (in_at 327 (by decide +kernel)), Or.inl rfl, yt_Ce, nm_Ce, by decide +kernel, rfl, fun h => by cases h⟩
theorem fg_Ce_34_Ce : FR WS clS "AreaWarnings$Cell" 34 3 6 := ⟨by decide, "AreaWarnings$Cell", TT_Ce, 12, "AreaWarnings$Cell", rfl, by decide, in_Ce, Or.inl (in_at 329 (by decide +kernel)), Or.inl rfl⟩
theorem fp_Ce_34_Ce : FP WS clS "AreaWarnings$Cell" 34 3 6 (.int) false := ⟨by decide, "AreaWarnings$Cell", TT_Ce, 12, "AreaWarnings$Cell", YT_Ce, rfl, by decide, in_Ce, Or.inl (in_at 329 (by decide +kernel)), Or.inl rfl, yt_Ce, nm_Ce, by decide +kernel, rfl, fun h => by cases h⟩
theorem fg_Ce_37_Ce : FR WS clS "AreaWarnings$Cell" 37 3 7 := ⟨by decide, "AreaWarnings$Cell", TT_Ce, 12, "AreaWarnings$Cell", rfl, by decide, in_Ce, Or.inl (in_at 331 (by decide +kernel)), Or.inl rfl⟩
theorem fp_Ce_37_Ce : FP WS clS "AreaWarnings$Cell" 37 3 7 (.array (.object "AreaWarnings$Version")) false := ⟨by decide, "AreaWarnings$Cell", TT_Ce, 12, "AreaWarnings$Cell", YT_Ce, rfl, by decide, in_Ce, Or.inl (in_at 331 (by decide +kernel)), Or.inl rfl, yt_Ce, nm_Ce, by decide +kernel, rfl, fun h => by cases h⟩
theorem fg_Ce_40_Ce : FR WS clS "AreaWarnings$Cell" 40 3 8 := ⟨by decide, "AreaWarnings$Cell", TT_Ce, 12, "AreaWarnings$Cell", rfl, by decide, in_Ce, Or.inl (in_at 332 (by decide +kernel)), Or.inl rfl⟩
theorem fp_Ce_40_Ce : FP WS clS "AreaWarnings$Cell" 40 3 8 (.array (.object "AreaWarnings$Version")) true := ⟨by decide, "AreaWarnings$Cell", TT_Ce, 12, "AreaWarnings$Cell", YT_Ce, rfl, by decide, in_Ce, Or.inl (in_at 332 (by decide +kernel)), Or.inl rfl, yt_Ce, nm_Ce, by decide +kernel, rfl, fun _ => rfl⟩
theorem fg_Ce_43_Ce : FR WS clS "AreaWarnings$Cell" 43 3 9 := ⟨by decide, "AreaWarnings$Cell", TT_Ce, 12, "AreaWarnings$Cell", rfl, by decide, in_Ce, Or.inl (in_at 335 (by decide +kernel)), Or.inl rfl⟩
theorem fp_Ce_43_Ce : FP WS clS "AreaWarnings$Cell" 43 3 9 (.array .int) true := ⟨by decide, "AreaWarnings$Cell", TT_Ce, 12, "AreaWarnings$Cell", YT_Ce, rfl, by decide, in_Ce, Or.inl (in_at 335 (by decide +kernel)), Or.inl rfl, yt_Ce, nm_Ce, by decide +kernel, rfl, fun _ => rfl⟩
theorem fg_Ce_47_Ce : FR WS clS "AreaWarnings$Cell" 47 3 10 := ⟨by decide, "AreaWarnings$Cell", TT_Ce, 12, "AreaWarnings$Cell", rfl, by decide, in_Ce, Or.inl (in_at 338 (by decide +kernel)), Or.inl rfl⟩
theorem fp_Ce_47_Ce : FP WS clS "AreaWarnings$Cell" 47 3 10 (.array .int) true := ⟨by decide, "AreaWarnings$Cell", TT_Ce, 12, "AreaWarnings$Cell", YT_Ce, rfl, by decide, in_Ce, Or.inl (in_at 338 (by decide +kernel)), Or.inl rfl, yt_Ce, nm_Ce, by decide +kernel, rfl, fun _ => rfl⟩
theorem fg_Ce_50_Ce : FR WS clS "AreaWarnings$Cell" 50 3 11 := ⟨by decide, "AreaWarnings$Cell", TT_Ce, 12, "AreaWarnings$Cell", rfl, by decide, in_Ce, Or.inl (in_at 341 (by decide +kernel)), Or.inl rfl⟩
theorem fp_Ce_50_Ce : FP WS clS "AreaWarnings$Cell" 50 3 11 (.int) false := ⟨by decide, "AreaWarnings$Cell", TT_Ce, 12, "AreaWarnings$Cell", YT_Ce, rfl, by decide, in_Ce, Or.inl (in_at 341 (by decide +kernel)), Or.inl rfl, yt_Ce, nm_Ce, by decide +kernel, rfl, fun h => by cases h⟩
theorem fg_Ce_53_Wa : FR WS clS "AreaWarnings$Cell" 53 8 2 := ⟨by decide, "AreaWarnings$Warning", TT_Wa, 3, "AreaWarnings$Warning", rfl, by decide, in_Wa, Or.inl (in_at 493 (by decide +kernel)), Or.inl rfl⟩
theorem fg_Ce_59_Ca : FR WS clS "AreaWarnings$Cell" 59 2 3 := ⟨by decide, "AreaWarnings$Cancel", TT_Ca, 4, "AreaWarnings$Version", rfl, by decide, in_Ca, Or.inl (in_at 542 (by decide +kernel)), Or.inl rfl⟩
theorem fg_Ce_59_Sp : FR WS clS "AreaWarnings$Cell" 59 6 3 := ⟨by decide, "AreaWarnings$Spoken", TT_Sp, 9, "AreaWarnings$Version", rfl, by decide, in_Sp, Or.inl (in_at 542 (by decide +kernel)), Or.inl rfl⟩
theorem fg_Ce_68_Sp : FR WS clS "AreaWarnings$Cell" 68 6 8 := ⟨by decide, "AreaWarnings$Spoken", TT_Sp, 9, "AreaWarnings$Spoken", rfl, by decide, in_Sp, Or.inl (in_at 522 (by decide +kernel)), Or.inl rfl⟩
theorem fg_Ce_72_Ca : FR WS clS "AreaWarnings$Cell" 72 2 0 := ⟨by decide, "AreaWarnings$Cancel", TT_Ca, 4, "AreaWarnings$Version", rfl, by decide, in_Ca, Or.inl (in_at 525 (by decide +kernel)), Or.inl rfl⟩
theorem fg_Ce_72_Sp : FR WS clS "AreaWarnings$Cell" 72 6 0 := ⟨by decide, "AreaWarnings$Spoken", TT_Sp, 9, "AreaWarnings$Version", rfl, by decide, in_Sp, Or.inl (in_at 525 (by decide +kernel)), Or.inl rfl⟩
theorem fg_Ce_80_Ca : FR WS clS "AreaWarnings$Cell" 80 2 2 := ⟨by decide, "AreaWarnings$Cancel", TT_Ca, 4, "AreaWarnings$Version", rfl, by decide, in_Ca, Or.inl (in_at 537 (by decide +kernel)), Or.inl rfl⟩
theorem fg_Ce_80_Sp : FR WS clS "AreaWarnings$Cell" 80 6 2 := ⟨by decide, "AreaWarnings$Spoken", TT_Sp, 9, "AreaWarnings$Version", rfl, by decide, in_Sp, Or.inl (in_at 537 (by decide +kernel)), Or.inl rfl⟩
theorem fg_Ce_99_Sp : FR WS clS "AreaWarnings$Cell" 99 6 7 := ⟨by decide, "AreaWarnings$Spoken", TT_Sp, 9, "AreaWarnings$Spoken", rfl, by decide, in_Sp, Or.inl (in_at 519 (by decide +kernel)), Or.inl rfl⟩
theorem fg_Ha_9_Ha : FR WS clS "AreaWarnings$Handset" 9 4 0 := ⟨by decide, "AreaWarnings$Handset", TT_Ha, 13, "AreaWarnings$Handset", rfl, by decide, in_Ha, Or.inl (in_at 635 (by decide +kernel)), Or.inl rfl⟩
theorem fp_Ha_9_Ha : FP WS clS "AreaWarnings$Handset" 9 4 0 (.int) true := ⟨by decide, "AreaWarnings$Handset", TT_Ha, 13, "AreaWarnings$Handset", YT_Ha, rfl, by decide, in_Ha, Or.inl (in_at 635 (by decide +kernel)), Or.inl rfl, yt_Ha, nm_Ha, by decide +kernel, rfl, fun _ => rfl⟩
theorem fg_Ha_15_Ha : FR WS clS "AreaWarnings$Handset" 15 4 1 := ⟨by decide, "AreaWarnings$Handset", TT_Ha, 13, "AreaWarnings$Handset", rfl, by decide, in_Ha, Or.inl (in_at 636 (by decide +kernel)), Or.inl rfl⟩
theorem fp_Ha_15_Ha : FP WS clS "AreaWarnings$Handset" 15 4 1 (.array .int) true := ⟨by decide, "AreaWarnings$Handset", TT_Ha, 13, "AreaWarnings$Handset", YT_Ha, rfl, by decide, in_Ha, Or.inl (in_at 636 (by decide +kernel)), Or.inl rfl, yt_Ha, nm_Ha, by decide +kernel, rfl, fun _ => rfl⟩
theorem fg_Ha_19_Ha : FR WS clS "AreaWarnings$Handset" 19 4 2 := ⟨by decide, "AreaWarnings$Handset", TT_Ha, 13, "AreaWarnings$Handset", rfl, by decide, in_Ha, Or.inl (in_at 637 (by decide +kernel)), Or.inl rfl⟩
theorem fp_Ha_19_Ha : FP WS clS "AreaWarnings$Handset" 19 4 2 (.int) false := ⟨by decide, "AreaWarnings$Handset", TT_Ha, 13, "AreaWarnings$Handset", YT_Ha, rfl, by decide, in_Ha, Or.inl (in_at 637 (by decide +kernel)), Or.inl rfl, yt_Ha, nm_Ha, by decide +kernel, rfl, fun h => by cases h⟩
theorem fp_Ha_22_Ha : FP WS clS "AreaWarnings$Handset" 22 4 3 (.int) false := ⟨by decide, "AreaWarnings$Handset", TT_Ha, 13, "AreaWarnings$Handset", YT_Ha, rfl, by decide, in_Ha, Or.inl (in_at 639 (by decide +kernel)), Or.inl rfl, yt_Ha, nm_Ha, by decide +kernel, rfl, fun h => by cases h⟩
theorem fg_Ha_25_Ha : FR WS clS "AreaWarnings$Handset" 25 4 4 := ⟨by decide, "AreaWarnings$Handset", TT_Ha, 13, "AreaWarnings$Handset", rfl, by decide, in_Ha, Or.inl (in_at 641 (by decide +kernel)), Or.inl rfl⟩
theorem fp_Ha_25_Ha : FP WS clS "AreaWarnings$Handset" 25 4 4 (.int) false := ⟨by decide, "AreaWarnings$Handset", TT_Ha, 13, "AreaWarnings$Handset", YT_Ha, rfl, by decide, in_Ha, Or.inl (in_at 641 (by decide +kernel)), Or.inl rfl, yt_Ha, nm_Ha, by decide +kernel, rfl, fun h => by cases h⟩
theorem fg_Ha_28_Ha : FR WS clS "AreaWarnings$Handset" 28 4 5 := ⟨by decide, "AreaWarnings$Handset", TT_Ha, 13, "AreaWarnings$Handset", rfl, by decide, in_Ha, Or.inl (in_at 643 (by decide +kernel)), Or.inl rfl⟩
theorem fp_Ha_28_Ha : FP WS clS "AreaWarnings$Handset" 28 4 5 (.int) false := ⟨by decide, "AreaWarnings$Handset", TT_Ha, 13, "AreaWarnings$Handset", YT_Ha, rfl, by decide, in_Ha, Or.inl (in_at 643 (by decide +kernel)), Or.inl rfl, yt_Ha, nm_Ha, by decide +kernel, rfl, fun h => by cases h⟩
theorem fg_Ha_33_Ha : FR WS clS "AreaWarnings$Handset" 33 4 6 := ⟨by decide, "AreaWarnings$Handset", TT_Ha, 13, "AreaWarnings$Handset", rfl, by decide, in_Ha, Or.inl (in_at 645 (by decide +kernel)), Or.inl rfl⟩
theorem fp_Ha_33_Ha : FP WS clS "AreaWarnings$Handset" 33 4 6 (.array (.object "AreaWarnings$Version")) true := ⟨by decide, "AreaWarnings$Handset", TT_Ha, 13, "AreaWarnings$Handset", YT_Ha, rfl, by decide, in_Ha, Or.inl (in_at 645 (by decide +kernel)), Or.inl rfl, yt_Ha, nm_Ha, by decide +kernel, rfl, fun _ => rfl⟩
theorem fg_Ha_37_Ha : FR WS clS "AreaWarnings$Handset" 37 4 7 := ⟨by decide, "AreaWarnings$Handset", TT_Ha, 13, "AreaWarnings$Handset", rfl, by decide, in_Ha, Or.inl (in_at 646 (by decide +kernel)), Or.inl rfl⟩
theorem fp_Ha_37_Ha : FP WS clS "AreaWarnings$Handset" 37 4 7 (.array .int) true := ⟨by decide, "AreaWarnings$Handset", TT_Ha, 13, "AreaWarnings$Handset", YT_Ha, rfl, by decide, in_Ha, Or.inl (in_at 646 (by decide +kernel)), Or.inl rfl, yt_Ha, nm_Ha, by decide +kernel, rfl, fun _ => rfl⟩
theorem fg_Ha_40_Ha : FR WS clS "AreaWarnings$Handset" 40 4 8 := ⟨by decide, "AreaWarnings$Handset", TT_Ha, 13, "AreaWarnings$Handset", rfl, by decide, in_Ha, Or.inl (in_at 647 (by decide +kernel)), Or.inl rfl⟩
theorem fp_Ha_40_Ha : FP WS clS "AreaWarnings$Handset" 40 4 8 (.array .boolean) true := ⟨by decide, "AreaWarnings$Handset", TT_Ha, 13, "AreaWarnings$Handset", YT_Ha, rfl, by decide, in_Ha, Or.inl (in_at 647 (by decide +kernel)), Or.inl rfl, yt_Ha, nm_Ha, by decide +kernel, rfl, fun _ => rfl⟩
theorem fg_Ha_46_Ha : FR WS clS "AreaWarnings$Handset" 46 4 9 := ⟨by decide, "AreaWarnings$Handset", TT_Ha, 13, "AreaWarnings$Handset", rfl, by decide, in_Ha, Or.inl (in_at 648 (by decide +kernel)), Or.inl rfl⟩
theorem fp_Ha_46_Ha : FP WS clS "AreaWarnings$Handset" 46 4 9 (.array (.object "AreaWarnings$Spoken")) true := ⟨by decide, "AreaWarnings$Handset", TT_Ha, 13, "AreaWarnings$Handset", YT_Ha, rfl, by decide, in_Ha, Or.inl (in_at 648 (by decide +kernel)), Or.inl rfl, yt_Ha, nm_Ha, by decide +kernel, rfl, fun _ => rfl⟩
theorem fg_Ha_50_Ha : FR WS clS "AreaWarnings$Handset" 50 4 10 := ⟨by decide, "AreaWarnings$Handset", TT_Ha, 13, "AreaWarnings$Handset", rfl, by decide, in_Ha, Or.inl (in_at 650 (by decide +kernel)), Or.inl rfl⟩
theorem fp_Ha_50_Ha : FP WS clS "AreaWarnings$Handset" 50 4 10 (.array .int) true := ⟨by decide, "AreaWarnings$Handset", TT_Ha, 13, "AreaWarnings$Handset", YT_Ha, rfl, by decide, in_Ha, Or.inl (in_at 650 (by decide +kernel)), Or.inl rfl, yt_Ha, nm_Ha, by decide +kernel, rfl, fun _ => rfl⟩
theorem fg_Ha_53_Ha : FR WS clS "AreaWarnings$Handset" 53 4 11 := ⟨by decide, "AreaWarnings$Handset", TT_Ha, 13, "AreaWarnings$Handset", rfl, by decide, in_Ha, Or.inl (in_at 652 (by decide +kernel)), Or.inl rfl⟩
theorem fp_Ha_53_Ha : FP WS clS "AreaWarnings$Handset" 53 4 11 (.array .int) true := ⟨by decide, "AreaWarnings$Handset", TT_Ha, 13, "AreaWarnings$Handset", YT_Ha, rfl, by decide, in_Ha, Or.inl (in_at 652 (by decide +kernel)), Or.inl rfl, yt_Ha, nm_Ha, by decide +kernel, rfl, fun _ => rfl⟩
theorem fg_Ha_56_Ha : FR WS clS "AreaWarnings$Handset" 56 4 12 := ⟨by decide, "AreaWarnings$Handset", TT_Ha, 13, "AreaWarnings$Handset", rfl, by decide, in_Ha, Or.inl (in_at 654 (by decide +kernel)), Or.inl rfl⟩
theorem fp_Ha_56_Ha : FP WS clS "AreaWarnings$Handset" 56 4 12 (.int) false := ⟨by decide, "AreaWarnings$Handset", TT_Ha, 13, "AreaWarnings$Handset", YT_Ha, rfl, by decide, in_Ha, Or.inl (in_at 654 (by decide +kernel)), Or.inl rfl, yt_Ha, nm_Ha, by decide +kernel, rfl, fun h => by cases h⟩
theorem fg_Ha_59_Ce : FR WS clS "AreaWarnings$Handset" 59 3 11 := ⟨by decide, "AreaWarnings$Cell", TT_Ce, 12, "AreaWarnings$Cell", rfl, by decide, in_Ce, Or.inl (in_at 342 (by decide +kernel)), Or.inl rfl⟩
theorem fg_Ha_64_Ce : FR WS clS "AreaWarnings$Handset" 64 3 8 := ⟨by decide, "AreaWarnings$Cell", TT_Ce, 12, "AreaWarnings$Cell", rfl, by decide, in_Ce, Or.inl (in_at 333 (by decide +kernel)), Or.inl rfl⟩
theorem fg_Ha_67_Ce : FR WS clS "AreaWarnings$Handset" 67 3 9 := ⟨by decide, "AreaWarnings$Cell", TT_Ce, 12, "AreaWarnings$Cell", rfl, by decide, in_Ce, Or.inl (in_at 336 (by decide +kernel)), Or.inl rfl⟩
theorem fg_Ha_70_Ce : FR WS clS "AreaWarnings$Handset" 70 3 10 := ⟨by decide, "AreaWarnings$Cell", TT_Ce, 12, "AreaWarnings$Cell", rfl, by decide, in_Ce, Or.inl (in_at 339 (by decide +kernel)), Or.inl rfl⟩
theorem fg_Ha_77_Ca : FR WS clS "AreaWarnings$Handset" 77 2 0 := ⟨by decide, "AreaWarnings$Cancel", TT_Ca, 4, "AreaWarnings$Version", rfl, by decide, in_Ca, Or.inl (in_at 526 (by decide +kernel)), Or.inl rfl⟩
theorem fg_Ha_77_Sp : FR WS clS "AreaWarnings$Handset" 77 6 0 := ⟨by decide, "AreaWarnings$Spoken", TT_Sp, 9, "AreaWarnings$Version", rfl, by decide, in_Sp, Or.inl (in_at 526 (by decide +kernel)), Or.inl rfl⟩
theorem fg_Ha_81_Wa : FR WS clS "AreaWarnings$Handset" 81 8 1 := ⟨by decide, "AreaWarnings$Warning", TT_Wa, 3, "AreaWarnings$Warning", rfl, by decide, in_Wa, Or.inl (in_at 490 (by decide +kernel)), Or.inl rfl⟩
theorem fg_Ha_86_Ca : FR WS clS "AreaWarnings$Handset" 86 2 1 := ⟨by decide, "AreaWarnings$Cancel", TT_Ca, 4, "AreaWarnings$Version", rfl, by decide, in_Ca, Or.inl (in_at 532 (by decide +kernel)), Or.inl rfl⟩
theorem fg_Ha_86_Sp : FR WS clS "AreaWarnings$Handset" 86 6 1 := ⟨by decide, "AreaWarnings$Spoken", TT_Sp, 9, "AreaWarnings$Version", rfl, by decide, in_Sp, Or.inl (in_at 532 (by decide +kernel)), Or.inl rfl⟩
theorem fg_Ha_97_Sp : FR WS clS "AreaWarnings$Handset" 97 6 0 := ⟨by decide, "AreaWarnings$Spoken", TT_Sp, 9, "AreaWarnings$Spoken", rfl, by decide, in_Sp, Or.inl (in_at 527 (by decide +kernel)), Or.inr (in_at 528 (by decide +kernel))⟩
theorem fg_Ha_98_Sp : FR WS clS "AreaWarnings$Handset" 98 6 7 := ⟨by decide, "AreaWarnings$Spoken", TT_Sp, 9, "AreaWarnings$Spoken", rfl, by decide, in_Sp, Or.inl (in_at 518 (by decide +kernel)), Or.inl rfl⟩
theorem fg_Ha_112_Sp : FR WS clS "AreaWarnings$Handset" 112 6 2 := ⟨by decide, "AreaWarnings$Spoken", TT_Sp, 9, "AreaWarnings$Spoken", rfl, by decide, in_Sp, Or.inl (in_at 538 (by decide +kernel)), Or.inr (in_at 539 (by decide +kernel))⟩
theorem fg_Ha_119_Sp : FR WS clS "AreaWarnings$Handset" 119 6 3 := ⟨by decide, "AreaWarnings$Spoken", TT_Sp, 9, "AreaWarnings$Spoken", rfl, by decide, in_Sp, Or.inl (in_at 543 (by decide +kernel)), Or.inr (in_at 544 (by decide +kernel))⟩
theorem fg_Ha_122_Te : FR WS clS "AreaWarnings$Handset" 122 7 1 := ⟨by decide, "AreaWarnings$Texts", TT_Te, 2, "AreaWarnings$Texts", rfl, by decide, in_Te, Or.inl (in_at 70 (by decide +kernel)), Or.inl rfl⟩
theorem fg_Me_10_Me : FR WS clS "AreaWarnings$Message" 10 5 0 := ⟨by decide, "AreaWarnings$Message", TT_Me, 2, "AreaWarnings$Message", rfl, by decide, in_Me, Or.inl (in_at 76 (by decide +kernel)), Or.inl rfl⟩
theorem fp_Me_10_Me : FP WS clS "AreaWarnings$Message" 10 5 0 (.object "AreaWarnings$Area") true := ⟨by decide, "AreaWarnings$Message", TT_Me, 2, "AreaWarnings$Message", YT_Me, rfl, by decide, in_Me, Or.inl (in_at 76 (by decide +kernel)), Or.inl rfl, yt_Me, nm_Me, by decide +kernel, rfl, fun _ => rfl⟩
theorem fg_Me_19_Me : FR WS clS "AreaWarnings$Message" 19 5 1 := ⟨by decide, "AreaWarnings$Message", TT_Me, 2, "AreaWarnings$Message", rfl, by decide, in_Me, Or.inl (in_at 79 (by decide +kernel)), Or.inl rfl⟩
theorem fp_Me_19_Me : FP WS clS "AreaWarnings$Message" 19 5 1 (.object "AreaWarnings$Texts") true := ⟨by decide, "AreaWarnings$Message", TT_Me, 2, "AreaWarnings$Message", YT_Me, rfl, by decide, in_Me, Or.inl (in_at 79 (by decide +kernel)), Or.inl rfl, yt_Me, nm_Me, by decide +kernel, rfl, fun _ => rfl⟩
theorem fg_Sp_9_Sp : FR WS clS "AreaWarnings$Spoken" 9 6 4 := ⟨by decide, "AreaWarnings$Spoken", TT_Sp, 9, "AreaWarnings$Spoken", rfl, by decide, in_Sp, Or.inl (in_at 514 (by decide +kernel)), Or.inl rfl⟩
theorem fp_Sp_9_Sp : FP WS clS "AreaWarnings$Spoken" 9 6 4 (.int) true := ⟨by decide, "AreaWarnings$Spoken", TT_Sp, 9, "AreaWarnings$Spoken", YT_Sp, rfl, by decide, in_Sp, Or.inl (in_at 514 (by decide +kernel)), Or.inl rfl, yt_Sp, nm_Sp, by decide +kernel, rfl, fun _ => rfl⟩
theorem fg_Sp_15_Sp : FR WS clS "AreaWarnings$Spoken" 15 6 5 := ⟨by decide, "AreaWarnings$Spoken", TT_Sp, 9, "AreaWarnings$Spoken", rfl, by decide, in_Sp, Or.inl (in_at 515 (by decide +kernel)), Or.inl rfl⟩
theorem fp_Sp_15_Sp : FP WS clS "AreaWarnings$Spoken" 15 6 5 (.int) true := ⟨by decide, "AreaWarnings$Spoken", TT_Sp, 9, "AreaWarnings$Spoken", YT_Sp, rfl, by decide, in_Sp, Or.inl (in_at 515 (by decide +kernel)), Or.inl rfl, yt_Sp, nm_Sp, by decide +kernel, rfl, fun _ => rfl⟩
theorem fg_Sp_18_Me : FR WS clS "AreaWarnings$Spoken" 18 5 0 := ⟨by decide, "AreaWarnings$Message", TT_Me, 2, "AreaWarnings$Message", rfl, by decide, in_Me, Or.inl (in_at 77 (by decide +kernel)), Or.inl rfl⟩
theorem fg_Sp_24_Sp : FR WS clS "AreaWarnings$Spoken" 24 6 6 := ⟨by decide, "AreaWarnings$Spoken", TT_Sp, 9, "AreaWarnings$Spoken", rfl, by decide, in_Sp, Or.inl (in_at 516 (by decide +kernel)), Or.inl rfl⟩
theorem fp_Sp_24_Sp : FP WS clS "AreaWarnings$Spoken" 24 6 6 (.object "AreaWarnings$Area") true := ⟨by decide, "AreaWarnings$Spoken", TT_Sp, 9, "AreaWarnings$Spoken", YT_Sp, rfl, by decide, in_Sp, Or.inl (in_at 516 (by decide +kernel)), Or.inl rfl, yt_Sp, nm_Sp, by decide +kernel, rfl, fun _ => rfl⟩
theorem fg_Sp_25_Me : FR WS clS "AreaWarnings$Spoken" 25 5 1 := ⟨by decide, "AreaWarnings$Message", TT_Me, 2, "AreaWarnings$Message", rfl, by decide, in_Me, Or.inl (in_at 80 (by decide +kernel)), Or.inl rfl⟩
theorem fp_Sp_29_Sp : FP WS clS "AreaWarnings$Spoken" 29 6 7 (.object "AreaWarnings$Texts") true := ⟨by decide, "AreaWarnings$Spoken", TT_Sp, 9, "AreaWarnings$Spoken", YT_Sp, rfl, by decide, in_Sp, Or.inl (in_at 517 (by decide +kernel)), Or.inl rfl, yt_Sp, nm_Sp, by decide +kernel, rfl, fun _ => rfl⟩
theorem fg_Sp_30_Sp : FR WS clS "AreaWarnings$Spoken" 30 6 8 := ⟨by decide, "AreaWarnings$Spoken", TT_Sp, 9, "AreaWarnings$Spoken", rfl, by decide, in_Sp, Or.inl (in_at 521 (by decide +kernel)), Or.inl rfl⟩
theorem fp_Sp_30_Sp : FP WS clS "AreaWarnings$Spoken" 30 6 8 (.array .boolean) true := ⟨by decide, "AreaWarnings$Spoken", TT_Sp, 9, "AreaWarnings$Spoken", YT_Sp, rfl, by decide, in_Sp, Or.inl (in_at 521 (by decide +kernel)), Or.inl rfl, yt_Sp, nm_Sp, by decide +kernel, rfl, fun _ => rfl⟩
theorem fg_Sp_34_Ce : FR WS clS "AreaWarnings$Spoken" 34 3 0 := ⟨by decide, "AreaWarnings$Cell", TT_Ce, 12, "AreaWarnings$Cell", rfl, by decide, in_Ce, Or.inl (in_at 317 (by decide +kernel)), Or.inl rfl⟩
theorem fg_Sp_39_Ce : FR WS clS "AreaWarnings$Spoken" 39 3 1 := ⟨by decide, "AreaWarnings$Cell", TT_Ce, 12, "AreaWarnings$Cell", rfl, by decide, in_Ce, Or.inl (in_at 320 (by decide +kernel)), Or.inl rfl⟩
theorem fg_Sp_42_Ce : FR WS clS "AreaWarnings$Spoken" 42 3 2 := ⟨by decide, "AreaWarnings$Cell", TT_Ce, 12, "AreaWarnings$Cell", rfl, by decide, in_Ce, Or.inl (in_at 322 (by decide +kernel)), Or.inl rfl⟩
theorem fg_Sp_45_Ce : FR WS clS "AreaWarnings$Spoken" 45 3 3 := ⟨by decide, "AreaWarnings$Cell", TT_Ce, 12, "AreaWarnings$Cell", rfl, by decide, in_Ce, Or.inl (in_at 324 (by decide +kernel)), Or.inl rfl⟩
theorem fg_Te_11_Te : FR WS clS "AreaWarnings$Texts" 11 7 0 := ⟨by decide, "AreaWarnings$Texts", TT_Te, 2, "AreaWarnings$Texts", rfl, by decide, in_Te, Or.inl (in_at 66 (by decide +kernel)), Or.inl rfl⟩
theorem fp_Te_11_Te : FP WS clS "AreaWarnings$Texts" 11 7 0 (.array (.array .int)) true := ⟨by decide, "AreaWarnings$Texts", TT_Te, 2, "AreaWarnings$Texts", YT_Te, rfl, by decide, in_Te, Or.inl (in_at 66 (by decide +kernel)), Or.inl rfl, yt_Te, nm_Te, by decide +kernel, rfl, fun _ => rfl⟩
theorem fg_Te_16_Te : FR WS clS "AreaWarnings$Texts" 16 7 1 := ⟨by decide, "AreaWarnings$Texts", TT_Te, 2, "AreaWarnings$Texts", rfl, by decide, in_Te, Or.inl (in_at 68 (by decide +kernel)), Or.inl rfl⟩
theorem fp_Te_16_Te : FP WS clS "AreaWarnings$Texts" 16 7 1 (.array .int) true := ⟨by decide, "AreaWarnings$Texts", TT_Te, 2, "AreaWarnings$Texts", YT_Te, rfl, by decide, in_Te, Or.inl (in_at 68 (by decide +kernel)), Or.inl rfl, yt_Te, nm_Te, by decide +kernel, rfl, fun _ => rfl⟩
theorem fp_Ve_7_Ca : FP WS clS "AreaWarnings$Version" 7 2 0 (.object "AreaWarnings$Warning") true := ⟨by decide, "AreaWarnings$Cancel", TT_Ca, 4, "AreaWarnings$Version", YT_Ca, rfl, by decide, in_Ca, Or.inl (in_at 524 (by decide +kernel)), Or.inl rfl, yt_Ca, nm_Ca, by decide +kernel, rfl, fun _ => rfl⟩
theorem fp_Ve_7_Sp : FP WS clS "AreaWarnings$Version" 7 6 0 (.object "AreaWarnings$Warning") true := ⟨by decide, "AreaWarnings$Spoken", TT_Sp, 9, "AreaWarnings$Version", YT_Sp, rfl, by decide, in_Sp, Or.inl (in_at 524 (by decide +kernel)), Or.inl rfl, yt_Sp, nm_Sp, by decide +kernel, rfl, fun _ => rfl⟩
theorem fg_Ve_13_Wa : FR WS clS "AreaWarnings$Version" 13 8 2 := ⟨by decide, "AreaWarnings$Warning", TT_Wa, 3, "AreaWarnings$Warning", rfl, by decide, in_Wa, Or.inl (in_at 491 (by decide +kernel)), Or.inl rfl⟩
theorem fg_Ve_19_Ca : FR WS clS "AreaWarnings$Version" 19 2 1 := ⟨by decide, "AreaWarnings$Cancel", TT_Ca, 4, "AreaWarnings$Version", rfl, by decide, in_Ca, Or.inl (in_at 531 (by decide +kernel)), Or.inl rfl⟩
theorem fp_Ve_19_Ca : FP WS clS "AreaWarnings$Version" 19 2 1 (.int) true := ⟨by decide, "AreaWarnings$Cancel", TT_Ca, 4, "AreaWarnings$Version", YT_Ca, rfl, by decide, in_Ca, Or.inl (in_at 531 (by decide +kernel)), Or.inl rfl, yt_Ca, nm_Ca, by decide +kernel, rfl, fun _ => rfl⟩
theorem fg_Ve_19_Sp : FR WS clS "AreaWarnings$Version" 19 6 1 := ⟨by decide, "AreaWarnings$Spoken", TT_Sp, 9, "AreaWarnings$Version", rfl, by decide, in_Sp, Or.inl (in_at 531 (by decide +kernel)), Or.inl rfl⟩
theorem fp_Ve_19_Sp : FP WS clS "AreaWarnings$Version" 19 6 1 (.int) true := ⟨by decide, "AreaWarnings$Spoken", TT_Sp, 9, "AreaWarnings$Version", YT_Sp, rfl, by decide, in_Sp, Or.inl (in_at 531 (by decide +kernel)), Or.inl rfl, yt_Sp, nm_Sp, by decide +kernel, rfl, fun _ => rfl⟩
theorem fp_Ve_23_Ca : FP WS clS "AreaWarnings$Version" 23 2 2 (.int) true := ⟨by decide, "AreaWarnings$Cancel", TT_Ca, 4, "AreaWarnings$Version", YT_Ca, rfl, by decide, in_Ca, Or.inl (in_at 536 (by decide +kernel)), Or.inl rfl, yt_Ca, nm_Ca, by decide +kernel, rfl, fun _ => rfl⟩
theorem fp_Ve_23_Sp : FP WS clS "AreaWarnings$Version" 23 6 2 (.int) true := ⟨by decide, "AreaWarnings$Spoken", TT_Sp, 9, "AreaWarnings$Version", YT_Sp, rfl, by decide, in_Sp, Or.inl (in_at 536 (by decide +kernel)), Or.inl rfl, yt_Sp, nm_Sp, by decide +kernel, rfl, fun _ => rfl⟩
theorem fp_Ve_26_Ca : FP WS clS "AreaWarnings$Version" 26 2 3 (.int) true := ⟨by decide, "AreaWarnings$Cancel", TT_Ca, 4, "AreaWarnings$Version", YT_Ca, rfl, by decide, in_Ca, Or.inl (in_at 541 (by decide +kernel)), Or.inl rfl, yt_Ca, nm_Ca, by decide +kernel, rfl, fun _ => rfl⟩
theorem fp_Ve_26_Sp : FP WS clS "AreaWarnings$Version" 26 6 3 (.int) true := ⟨by decide, "AreaWarnings$Spoken", TT_Sp, 9, "AreaWarnings$Version", YT_Sp, rfl, by decide, in_Sp, Or.inl (in_at 541 (by decide +kernel)), Or.inl rfl, yt_Sp, nm_Sp, by decide +kernel, rfl, fun _ => rfl⟩
theorem fp_Wa_7_Wa : FP WS clS "AreaWarnings$Warning" 7 8 0 (.int) true := ⟨by decide, "AreaWarnings$Warning", TT_Wa, 3, "AreaWarnings$Warning", YT_Wa, rfl, by decide, in_Wa, Or.inl (in_at 487 (by decide +kernel)), Or.inl rfl, yt_Wa, nm_Wa, by decide +kernel, rfl, fun _ => rfl⟩
theorem fp_Wa_13_Wa : FP WS clS "AreaWarnings$Warning" 13 8 1 (.int) true := ⟨by decide, "AreaWarnings$Warning", TT_Wa, 3, "AreaWarnings$Warning", YT_Wa, rfl, by decide, in_Wa, Or.inl (in_at 489 (by decide +kernel)), Or.inl rfl, yt_Wa, nm_Wa, by decide +kernel, rfl, fun _ => rfl⟩
theorem fp_Wa_16_Wa : FP WS clS "AreaWarnings$Warning" 16 8 2 (.object "AreaWarnings$Version") false := ⟨by decide, "AreaWarnings$Warning", TT_Wa, 3, "AreaWarnings$Warning", YT_Wa, rfl, by decide, in_Wa, Or.inl (in_at 492 (by decide +kernel)), Or.inl rfl, yt_Wa, nm_Wa, by decide +kernel, rfl, fun h => by cases h⟩
theorem fg_Mo_7_Mo : FR WS clS "AreaWarningsModel" 7 9 3 := ⟨by decide, "AreaWarningsModel", TT_Mo, 49, "AreaWarningsModel", rfl, by decide, in_Mo, Or.inl (in_at 773 (by decide +kernel)), Or.inl rfl⟩
theorem fp_Mo_7_Mo : FP WS clS "AreaWarningsModel" 7 9 3 (.array .int) true := ⟨by decide, "AreaWarningsModel", TT_Mo, 49, "AreaWarningsModel", YT_Mo, rfl, by decide, in_Mo, Or.inl (in_at 773 (by decide +kernel)), Or.inl rfl, yt_Mo, nm_Mo, by decide +kernel, rfl, fun _ => rfl⟩
theorem fg_Mo_13_Mo : FR WS clS "AreaWarningsModel" 13 9 4 := ⟨by decide, "AreaWarningsModel", TT_Mo, 49, "AreaWarningsModel", rfl, by decide, in_Mo, Or.inl (in_at 774 (by decide +kernel)), Or.inl rfl⟩
theorem fp_Mo_13_Mo : FP WS clS "AreaWarningsModel" 13 9 4 (.array .int) true := ⟨by decide, "AreaWarningsModel", TT_Mo, 49, "AreaWarningsModel", YT_Mo, rfl, by decide, in_Mo, Or.inl (in_at 774 (by decide +kernel)), Or.inl rfl, yt_Mo, nm_Mo, by decide +kernel, rfl, fun _ => rfl⟩
theorem fg_Mo_16_Mo : FR WS clS "AreaWarningsModel" 16 9 5 := ⟨by decide, "AreaWarningsModel", TT_Mo, 49, "AreaWarningsModel", rfl, by decide, in_Mo, Or.inl (in_at 775 (by decide +kernel)), Or.inl rfl⟩
theorem fp_Mo_16_Mo : FP WS clS "AreaWarningsModel" 16 9 5 (.array .int) true := ⟨by decide, "AreaWarningsModel", TT_Mo, 49, "AreaWarningsModel", YT_Mo, rfl, by decide, in_Mo, Or.inl (in_at 775 (by decide +kernel)), Or.inl rfl, yt_Mo, nm_Mo, by decide +kernel, rfl, fun _ => rfl⟩
theorem fg_Mo_19_Mo : FR WS clS "AreaWarningsModel" 19 9 6 := ⟨by decide, "AreaWarningsModel", TT_Mo, 49, "AreaWarningsModel", rfl, by decide, in_Mo, Or.inl (in_at 776 (by decide +kernel)), Or.inl rfl⟩
theorem fp_Mo_19_Mo : FP WS clS "AreaWarningsModel" 19 9 6 (.array .boolean) true := ⟨by decide, "AreaWarningsModel", TT_Mo, 49, "AreaWarningsModel", YT_Mo, rfl, by decide, in_Mo, Or.inl (in_at 776 (by decide +kernel)), Or.inl rfl, yt_Mo, nm_Mo, by decide +kernel, rfl, fun _ => rfl⟩
theorem fg_Mo_23_Mo : FR WS clS "AreaWarningsModel" 23 9 7 := ⟨by decide, "AreaWarningsModel", TT_Mo, 49, "AreaWarningsModel", rfl, by decide, in_Mo, Or.inl (in_at 777 (by decide +kernel)), Or.inl rfl⟩
theorem fp_Mo_23_Mo : FP WS clS "AreaWarningsModel" 23 9 7 (.array .int) true := ⟨by decide, "AreaWarningsModel", TT_Mo, 49, "AreaWarningsModel", YT_Mo, rfl, by decide, in_Mo, Or.inl (in_at 777 (by decide +kernel)), Or.inl rfl, yt_Mo, nm_Mo, by decide +kernel, rfl, fun _ => rfl⟩
theorem fg_Mo_26_Mo : FR WS clS "AreaWarningsModel" 26 9 8 := ⟨by decide, "AreaWarningsModel", TT_Mo, 49, "AreaWarningsModel", rfl, by decide, in_Mo, Or.inl (in_at 778 (by decide +kernel)), Or.inl rfl⟩
theorem fp_Mo_26_Mo : FP WS clS "AreaWarningsModel" 26 9 8 (.array .int) true := ⟨by decide, "AreaWarningsModel", TT_Mo, 49, "AreaWarningsModel", YT_Mo, rfl, by decide, in_Mo, Or.inl (in_at 778 (by decide +kernel)), Or.inl rfl, yt_Mo, nm_Mo, by decide +kernel, rfl, fun _ => rfl⟩
theorem fg_Mo_29_Mo : FR WS clS "AreaWarningsModel" 29 9 9 := ⟨by decide, "AreaWarningsModel", TT_Mo, 49, "AreaWarningsModel", rfl, by decide, in_Mo, Or.inl (in_at 779 (by decide +kernel)), Or.inl rfl⟩
theorem fp_Mo_29_Mo : FP WS clS "AreaWarningsModel" 29 9 9 (.array .int) true := ⟨by decide, "AreaWarningsModel", TT_Mo, 49, "AreaWarningsModel", YT_Mo, rfl, by decide, in_Mo, Or.inl (in_at 779 (by decide +kernel)), Or.inl rfl, yt_Mo, nm_Mo, by decide +kernel, rfl, fun _ => rfl⟩
theorem fg_Mo_32_Mo : FR WS clS "AreaWarningsModel" 32 9 10 := ⟨by decide, "AreaWarningsModel", TT_Mo, 49, "AreaWarningsModel", rfl, by decide, in_Mo, Or.inl (in_at 780 (by decide +kernel)), Or.inl rfl⟩
theorem fp_Mo_32_Mo : FP WS clS "AreaWarningsModel" 32 9 10 (.array .int) true := ⟨by decide, "AreaWarningsModel", TT_Mo, 49, "AreaWarningsModel", YT_Mo, rfl, by decide, in_Mo, Or.inl (in_at 780 (by decide +kernel)), Or.inl rfl, yt_Mo, nm_Mo, by decide +kernel, rfl, fun _ => rfl⟩
theorem fg_Mo_35_Mo : FR WS clS "AreaWarningsModel" 35 9 11 := ⟨by decide, "AreaWarningsModel", TT_Mo, 49, "AreaWarningsModel", rfl, by decide, in_Mo, Or.inl (in_at 781 (by decide +kernel)), Or.inl rfl⟩
theorem fp_Mo_35_Mo : FP WS clS "AreaWarningsModel" 35 9 11 (.array .int) true := ⟨by decide, "AreaWarningsModel", TT_Mo, 49, "AreaWarningsModel", YT_Mo, rfl, by decide, in_Mo, Or.inl (in_at 781 (by decide +kernel)), Or.inl rfl, yt_Mo, nm_Mo, by decide +kernel, rfl, fun _ => rfl⟩
theorem fg_Mo_38_Mo : FR WS clS "AreaWarningsModel" 38 9 12 := ⟨by decide, "AreaWarningsModel", TT_Mo, 49, "AreaWarningsModel", rfl, by decide, in_Mo, Or.inl (in_at 782 (by decide +kernel)), Or.inl rfl⟩
theorem fp_Mo_38_Mo : FP WS clS "AreaWarningsModel" 38 9 12 (.array .int) true := ⟨by decide, "AreaWarningsModel", TT_Mo, 49, "AreaWarningsModel", YT_Mo, rfl, by decide, in_Mo, Or.inl (in_at 782 (by decide +kernel)), Or.inl rfl, yt_Mo, nm_Mo, by decide +kernel, rfl, fun _ => rfl⟩
theorem fg_Mo_41_Mo : FR WS clS "AreaWarningsModel" 41 9 13 := ⟨by decide, "AreaWarningsModel", TT_Mo, 49, "AreaWarningsModel", rfl, by decide, in_Mo, Or.inl (in_at 783 (by decide +kernel)), Or.inl rfl⟩
theorem fp_Mo_41_Mo : FP WS clS "AreaWarningsModel" 41 9 13 (.array .int) true := ⟨by decide, "AreaWarningsModel", TT_Mo, 49, "AreaWarningsModel", YT_Mo, rfl, by decide, in_Mo, Or.inl (in_at 783 (by decide +kernel)), Or.inl rfl, yt_Mo, nm_Mo, by decide +kernel, rfl, fun _ => rfl⟩
theorem fg_Mo_44_Mo : FR WS clS "AreaWarningsModel" 44 9 15 := ⟨by decide, "AreaWarningsModel", TT_Mo, 49, "AreaWarningsModel", rfl, by decide, in_Mo, Or.inl (in_at 785 (by decide +kernel)), Or.inl rfl⟩
theorem fp_Mo_44_Mo : FP WS clS "AreaWarningsModel" 44 9 15 (.array .int) true := ⟨by decide, "AreaWarningsModel", TT_Mo, 49, "AreaWarningsModel", YT_Mo, rfl, by decide, in_Mo, Or.inl (in_at 785 (by decide +kernel)), Or.inl rfl, yt_Mo, nm_Mo, by decide +kernel, rfl, fun _ => rfl⟩
theorem fg_Mo_47_Mo : FR WS clS "AreaWarningsModel" 47 9 16 := ⟨by decide, "AreaWarningsModel", TT_Mo, 49, "AreaWarningsModel", rfl, by decide, in_Mo, Or.inl (in_at 786 (by decide +kernel)), Or.inl rfl⟩
theorem fp_Mo_47_Mo : FP WS clS "AreaWarningsModel" 47 9 16 (.array .int) true := ⟨by decide, "AreaWarningsModel", TT_Mo, 49, "AreaWarningsModel", YT_Mo, rfl, by decide, in_Mo, Or.inl (in_at 786 (by decide +kernel)), Or.inl rfl, yt_Mo, nm_Mo, by decide +kernel, rfl, fun _ => rfl⟩
theorem fg_Mo_50_Mo : FR WS clS "AreaWarningsModel" 50 9 17 := ⟨by decide, "AreaWarningsModel", TT_Mo, 49, "AreaWarningsModel", rfl, by decide, in_Mo, Or.inl (in_at 787 (by decide +kernel)), Or.inl rfl⟩
theorem fp_Mo_50_Mo : FP WS clS "AreaWarningsModel" 50 9 17 (.array .int) true := ⟨by decide, "AreaWarningsModel", TT_Mo, 49, "AreaWarningsModel", YT_Mo, rfl, by decide, in_Mo, Or.inl (in_at 787 (by decide +kernel)), Or.inl rfl, yt_Mo, nm_Mo, by decide +kernel, rfl, fun _ => rfl⟩
theorem fg_Mo_53_Mo : FR WS clS "AreaWarningsModel" 53 9 18 := ⟨by decide, "AreaWarningsModel", TT_Mo, 49, "AreaWarningsModel", rfl, by decide, in_Mo, Or.inl (in_at 788 (by decide +kernel)), Or.inl rfl⟩
theorem fp_Mo_53_Mo : FP WS clS "AreaWarningsModel" 53 9 18 (.array .int) true := ⟨by decide, "AreaWarningsModel", TT_Mo, 49, "AreaWarningsModel", YT_Mo, rfl, by decide, in_Mo, Or.inl (in_at 788 (by decide +kernel)), Or.inl rfl, yt_Mo, nm_Mo, by decide +kernel, rfl, fun _ => rfl⟩
theorem fg_Mo_56_Mo : FR WS clS "AreaWarningsModel" 56 9 20 := ⟨by decide, "AreaWarningsModel", TT_Mo, 49, "AreaWarningsModel", rfl, by decide, in_Mo, Or.inl (in_at 790 (by decide +kernel)), Or.inl rfl⟩
theorem fp_Mo_56_Mo : FP WS clS "AreaWarningsModel" 56 9 20 (.array .int) true := ⟨by decide, "AreaWarningsModel", TT_Mo, 49, "AreaWarningsModel", YT_Mo, rfl, by decide, in_Mo, Or.inl (in_at 790 (by decide +kernel)), Or.inl rfl, yt_Mo, nm_Mo, by decide +kernel, rfl, fun _ => rfl⟩
theorem fg_Mo_59_Mo : FR WS clS "AreaWarningsModel" 59 9 21 := ⟨by decide, "AreaWarningsModel", TT_Mo, 49, "AreaWarningsModel", rfl, by decide, in_Mo, Or.inl (in_at 791 (by decide +kernel)), Or.inl rfl⟩
theorem fp_Mo_59_Mo : FP WS clS "AreaWarningsModel" 59 9 21 (.array .int) true := ⟨by decide, "AreaWarningsModel", TT_Mo, 49, "AreaWarningsModel", YT_Mo, rfl, by decide, in_Mo, Or.inl (in_at 791 (by decide +kernel)), Or.inl rfl, yt_Mo, nm_Mo, by decide +kernel, rfl, fun _ => rfl⟩
theorem fg_Mo_62_Mo : FR WS clS "AreaWarningsModel" 62 9 23 := ⟨by decide, "AreaWarningsModel", TT_Mo, 49, "AreaWarningsModel", rfl, by decide, in_Mo, Or.inl (in_at 793 (by decide +kernel)), Or.inl rfl⟩
theorem fp_Mo_62_Mo : FP WS clS "AreaWarningsModel" 62 9 23 (.array .int) true := ⟨by decide, "AreaWarningsModel", TT_Mo, 49, "AreaWarningsModel", YT_Mo, rfl, by decide, in_Mo, Or.inl (in_at 793 (by decide +kernel)), Or.inl rfl, yt_Mo, nm_Mo, by decide +kernel, rfl, fun _ => rfl⟩
theorem fg_Mo_65_Mo : FR WS clS "AreaWarningsModel" 65 9 24 := ⟨by decide, "AreaWarningsModel", TT_Mo, 49, "AreaWarningsModel", rfl, by decide, in_Mo, Or.inl (in_at 794 (by decide +kernel)), Or.inl rfl⟩
theorem fp_Mo_65_Mo : FP WS clS "AreaWarningsModel" 65 9 24 (.array .int) true := ⟨by decide, "AreaWarningsModel", TT_Mo, 49, "AreaWarningsModel", YT_Mo, rfl, by decide, in_Mo, Or.inl (in_at 794 (by decide +kernel)), Or.inl rfl, yt_Mo, nm_Mo, by decide +kernel, rfl, fun _ => rfl⟩
theorem fg_Mo_68_Mo : FR WS clS "AreaWarningsModel" 68 9 25 := ⟨by decide, "AreaWarningsModel", TT_Mo, 49, "AreaWarningsModel", rfl, by decide, in_Mo, Or.inl (in_at 795 (by decide +kernel)), Or.inl rfl⟩
theorem fp_Mo_68_Mo : FP WS clS "AreaWarningsModel" 68 9 25 (.array .int) true := ⟨by decide, "AreaWarningsModel", TT_Mo, 49, "AreaWarningsModel", YT_Mo, rfl, by decide, in_Mo, Or.inl (in_at 795 (by decide +kernel)), Or.inl rfl, yt_Mo, nm_Mo, by decide +kernel, rfl, fun _ => rfl⟩
theorem fg_Mo_71_Mo : FR WS clS "AreaWarningsModel" 71 9 26 := ⟨by decide, "AreaWarningsModel", TT_Mo, 49, "AreaWarningsModel", rfl, by decide, in_Mo, Or.inl (in_at 796 (by decide +kernel)), Or.inl rfl⟩
theorem fp_Mo_71_Mo : FP WS clS "AreaWarningsModel" 71 9 26 (.array .int) true := ⟨by decide, "AreaWarningsModel", TT_Mo, 49, "AreaWarningsModel", YT_Mo, rfl, by decide, in_Mo, Or.inl (in_at 796 (by decide +kernel)), Or.inl rfl, yt_Mo, nm_Mo, by decide +kernel, rfl, fun _ => rfl⟩
theorem fg_Mo_74_Mo : FR WS clS "AreaWarningsModel" 74 9 27 := ⟨by decide, "AreaWarningsModel", TT_Mo, 49, "AreaWarningsModel", rfl, by decide, in_Mo, Or.inl (in_at 797 (by decide +kernel)), Or.inl rfl⟩
theorem fp_Mo_74_Mo : FP WS clS "AreaWarningsModel" 74 9 27 (.array .boolean) true := ⟨by decide, "AreaWarningsModel", TT_Mo, 49, "AreaWarningsModel", YT_Mo, rfl, by decide, in_Mo, Or.inl (in_at 797 (by decide +kernel)), Or.inl rfl, yt_Mo, nm_Mo, by decide +kernel, rfl, fun _ => rfl⟩
theorem fg_Mo_77_Mo : FR WS clS "AreaWarningsModel" 77 9 28 := ⟨by decide, "AreaWarningsModel", TT_Mo, 49, "AreaWarningsModel", rfl, by decide, in_Mo, Or.inl (in_at 798 (by decide +kernel)), Or.inl rfl⟩
theorem fp_Mo_77_Mo : FP WS clS "AreaWarningsModel" 77 9 28 (.array .int) true := ⟨by decide, "AreaWarningsModel", TT_Mo, 49, "AreaWarningsModel", YT_Mo, rfl, by decide, in_Mo, Or.inl (in_at 798 (by decide +kernel)), Or.inl rfl, yt_Mo, nm_Mo, by decide +kernel, rfl, fun _ => rfl⟩
theorem fg_Mo_80_Mo : FR WS clS "AreaWarningsModel" 80 9 29 := ⟨by decide, "AreaWarningsModel", TT_Mo, 49, "AreaWarningsModel", rfl, by decide, in_Mo, Or.inl (in_at 799 (by decide +kernel)), Or.inl rfl⟩
theorem fp_Mo_80_Mo : FP WS clS "AreaWarningsModel" 80 9 29 (.array .int) true := ⟨by decide, "AreaWarningsModel", TT_Mo, 49, "AreaWarningsModel", YT_Mo, rfl, by decide, in_Mo, Or.inl (in_at 799 (by decide +kernel)), Or.inl rfl, yt_Mo, nm_Mo, by decide +kernel, rfl, fun _ => rfl⟩
theorem fg_Mo_83_Mo : FR WS clS "AreaWarningsModel" 83 9 30 := ⟨by decide, "AreaWarningsModel", TT_Mo, 49, "AreaWarningsModel", rfl, by decide, in_Mo, Or.inl (in_at 800 (by decide +kernel)), Or.inl rfl⟩
theorem fp_Mo_83_Mo : FP WS clS "AreaWarningsModel" 83 9 30 (.array .int) true := ⟨by decide, "AreaWarningsModel", TT_Mo, 49, "AreaWarningsModel", YT_Mo, rfl, by decide, in_Mo, Or.inl (in_at 800 (by decide +kernel)), Or.inl rfl, yt_Mo, nm_Mo, by decide +kernel, rfl, fun _ => rfl⟩
theorem fg_Mo_86_Mo : FR WS clS "AreaWarningsModel" 86 9 31 := ⟨by decide, "AreaWarningsModel", TT_Mo, 49, "AreaWarningsModel", rfl, by decide, in_Mo, Or.inl (in_at 801 (by decide +kernel)), Or.inl rfl⟩
theorem fp_Mo_86_Mo : FP WS clS "AreaWarningsModel" 86 9 31 (.array .int) true := ⟨by decide, "AreaWarningsModel", TT_Mo, 49, "AreaWarningsModel", YT_Mo, rfl, by decide, in_Mo, Or.inl (in_at 801 (by decide +kernel)), Or.inl rfl, yt_Mo, nm_Mo, by decide +kernel, rfl, fun _ => rfl⟩
theorem fg_Mo_89_Mo : FR WS clS "AreaWarningsModel" 89 9 32 := ⟨by decide, "AreaWarningsModel", TT_Mo, 49, "AreaWarningsModel", rfl, by decide, in_Mo, Or.inl (in_at 802 (by decide +kernel)), Or.inl rfl⟩
theorem fp_Mo_89_Mo : FP WS clS "AreaWarningsModel" 89 9 32 (.array .int) true := ⟨by decide, "AreaWarningsModel", TT_Mo, 49, "AreaWarningsModel", YT_Mo, rfl, by decide, in_Mo, Or.inl (in_at 802 (by decide +kernel)), Or.inl rfl, yt_Mo, nm_Mo, by decide +kernel, rfl, fun _ => rfl⟩
theorem fg_Mo_92_Mo : FR WS clS "AreaWarningsModel" 92 9 33 := ⟨by decide, "AreaWarningsModel", TT_Mo, 49, "AreaWarningsModel", rfl, by decide, in_Mo, Or.inl (in_at 803 (by decide +kernel)), Or.inl rfl⟩
theorem fp_Mo_92_Mo : FP WS clS "AreaWarningsModel" 92 9 33 (.array .int) true := ⟨by decide, "AreaWarningsModel", TT_Mo, 49, "AreaWarningsModel", YT_Mo, rfl, by decide, in_Mo, Or.inl (in_at 803 (by decide +kernel)), Or.inl rfl, yt_Mo, nm_Mo, by decide +kernel, rfl, fun _ => rfl⟩
theorem fg_Mo_95_Mo : FR WS clS "AreaWarningsModel" 95 9 34 := ⟨by decide, "AreaWarningsModel", TT_Mo, 49, "AreaWarningsModel", rfl, by decide, in_Mo, Or.inl (in_at 804 (by decide +kernel)), Or.inl rfl⟩
theorem fp_Mo_95_Mo : FP WS clS "AreaWarningsModel" 95 9 34 (.array .int) true := ⟨by decide, "AreaWarningsModel", TT_Mo, 49, "AreaWarningsModel", YT_Mo, rfl, by decide, in_Mo, Or.inl (in_at 804 (by decide +kernel)), Or.inl rfl, yt_Mo, nm_Mo, by decide +kernel, rfl, fun _ => rfl⟩
theorem fg_Mo_98_Mo : FR WS clS "AreaWarningsModel" 98 9 36 := ⟨by decide, "AreaWarningsModel", TT_Mo, 49, "AreaWarningsModel", rfl, by decide, in_Mo, Or.inl (in_at 806 (by decide +kernel)), Or.inl rfl⟩
theorem fp_Mo_98_Mo : FP WS clS "AreaWarningsModel" 98 9 36 (.array .int) true := ⟨by decide, "AreaWarningsModel", TT_Mo, 49, "AreaWarningsModel", YT_Mo, rfl, by decide, in_Mo, Or.inl (in_at 806 (by decide +kernel)), Or.inl rfl, yt_Mo, nm_Mo, by decide +kernel, rfl, fun _ => rfl⟩
theorem fg_Mo_101_Mo : FR WS clS "AreaWarningsModel" 101 9 37 := ⟨by decide, "AreaWarningsModel", TT_Mo, 49, "AreaWarningsModel", rfl, by decide, in_Mo, Or.inl (in_at 807 (by decide +kernel)), Or.inl rfl⟩
theorem fp_Mo_101_Mo : FP WS clS "AreaWarningsModel" 101 9 37 (.array .int) true := ⟨by decide, "AreaWarningsModel", TT_Mo, 49, "AreaWarningsModel", YT_Mo, rfl, by decide, in_Mo, Or.inl (in_at 807 (by decide +kernel)), Or.inl rfl, yt_Mo, nm_Mo, by decide +kernel, rfl, fun _ => rfl⟩
theorem fg_Mo_104_Mo : FR WS clS "AreaWarningsModel" 104 9 38 := ⟨by decide, "AreaWarningsModel", TT_Mo, 49, "AreaWarningsModel", rfl, by decide, in_Mo, Or.inl (in_at 808 (by decide +kernel)), Or.inl rfl⟩
theorem fp_Mo_104_Mo : FP WS clS "AreaWarningsModel" 104 9 38 (.array .int) true := ⟨by decide, "AreaWarningsModel", TT_Mo, 49, "AreaWarningsModel", YT_Mo, rfl, by decide, in_Mo, Or.inl (in_at 808 (by decide +kernel)), Or.inl rfl, yt_Mo, nm_Mo, by decide +kernel, rfl, fun _ => rfl⟩
theorem fg_Mo_107_Mo : FR WS clS "AreaWarningsModel" 107 9 39 := ⟨by decide, "AreaWarningsModel", TT_Mo, 49, "AreaWarningsModel", rfl, by decide, in_Mo, Or.inl (in_at 809 (by decide +kernel)), Or.inl rfl⟩
theorem fp_Mo_107_Mo : FP WS clS "AreaWarningsModel" 107 9 39 (.array .int) true := ⟨by decide, "AreaWarningsModel", TT_Mo, 49, "AreaWarningsModel", YT_Mo, rfl, by decide, in_Mo, Or.inl (in_at 809 (by decide +kernel)), Or.inl rfl, yt_Mo, nm_Mo, by decide +kernel, rfl, fun _ => rfl⟩
theorem fg_Mo_110_Mo : FR WS clS "AreaWarningsModel" 110 9 40 := ⟨by decide, "AreaWarningsModel", TT_Mo, 49, "AreaWarningsModel", rfl, by decide, in_Mo, Or.inl (in_at 810 (by decide +kernel)), Or.inl rfl⟩
theorem fp_Mo_110_Mo : FP WS clS "AreaWarningsModel" 110 9 40 (.array .int) true := ⟨by decide, "AreaWarningsModel", TT_Mo, 49, "AreaWarningsModel", YT_Mo, rfl, by decide, in_Mo, Or.inl (in_at 810 (by decide +kernel)), Or.inl rfl, yt_Mo, nm_Mo, by decide +kernel, rfl, fun _ => rfl⟩
theorem fg_Mo_113_Mo : FR WS clS "AreaWarningsModel" 113 9 41 := ⟨by decide, "AreaWarningsModel", TT_Mo, 49, "AreaWarningsModel", rfl, by decide, in_Mo, Or.inl (in_at 811 (by decide +kernel)), Or.inl rfl⟩
theorem fp_Mo_113_Mo : FP WS clS "AreaWarningsModel" 113 9 41 (.array .int) true := ⟨by decide, "AreaWarningsModel", TT_Mo, 49, "AreaWarningsModel", YT_Mo, rfl, by decide, in_Mo, Or.inl (in_at 811 (by decide +kernel)), Or.inl rfl, yt_Mo, nm_Mo, by decide +kernel, rfl, fun _ => rfl⟩
theorem fg_Mo_116_Mo : FR WS clS "AreaWarningsModel" 116 9 42 := ⟨by decide, "AreaWarningsModel", TT_Mo, 49, "AreaWarningsModel", rfl, by decide, in_Mo, Or.inl (in_at 812 (by decide +kernel)), Or.inl rfl⟩
theorem fp_Mo_116_Mo : FP WS clS "AreaWarningsModel" 116 9 42 (.array .int) true := ⟨by decide, "AreaWarningsModel", TT_Mo, 49, "AreaWarningsModel", YT_Mo, rfl, by decide, in_Mo, Or.inl (in_at 812 (by decide +kernel)), Or.inl rfl, yt_Mo, nm_Mo, by decide +kernel, rfl, fun _ => rfl⟩
theorem fg_Mo_119_Mo : FR WS clS "AreaWarningsModel" 119 9 43 := ⟨by decide, "AreaWarningsModel", TT_Mo, 49, "AreaWarningsModel", rfl, by decide, in_Mo, Or.inl (in_at 813 (by decide +kernel)), Or.inl rfl⟩
theorem fp_Mo_119_Mo : FP WS clS "AreaWarningsModel" 119 9 43 (.array .int) true := ⟨by decide, "AreaWarningsModel", TT_Mo, 49, "AreaWarningsModel", YT_Mo, rfl, by decide, in_Mo, Or.inl (in_at 813 (by decide +kernel)), Or.inl rfl, yt_Mo, nm_Mo, by decide +kernel, rfl, fun _ => rfl⟩
theorem fg_Mo_122_Mo : FR WS clS "AreaWarningsModel" 122 9 44 := ⟨by decide, "AreaWarningsModel", TT_Mo, 49, "AreaWarningsModel", rfl, by decide, in_Mo, Or.inl (in_at 814 (by decide +kernel)), Or.inl rfl⟩
theorem fp_Mo_122_Mo : FP WS clS "AreaWarningsModel" 122 9 44 (.array .boolean) true := ⟨by decide, "AreaWarningsModel", TT_Mo, 49, "AreaWarningsModel", YT_Mo, rfl, by decide, in_Mo, Or.inl (in_at 814 (by decide +kernel)), Or.inl rfl, yt_Mo, nm_Mo, by decide +kernel, rfl, fun _ => rfl⟩
theorem fg_Mo_125_Mo : FR WS clS "AreaWarningsModel" 125 9 45 := ⟨by decide, "AreaWarningsModel", TT_Mo, 49, "AreaWarningsModel", rfl, by decide, in_Mo, Or.inl (in_at 815 (by decide +kernel)), Or.inl rfl⟩
theorem fp_Mo_125_Mo : FP WS clS "AreaWarningsModel" 125 9 45 (.array .int) true := ⟨by decide, "AreaWarningsModel", TT_Mo, 49, "AreaWarningsModel", YT_Mo, rfl, by decide, in_Mo, Or.inl (in_at 815 (by decide +kernel)), Or.inl rfl, yt_Mo, nm_Mo, by decide +kernel, rfl, fun _ => rfl⟩
theorem fg_Mo_128_Mo : FR WS clS "AreaWarningsModel" 128 9 46 := ⟨by decide, "AreaWarningsModel", TT_Mo, 49, "AreaWarningsModel", rfl, by decide, in_Mo, Or.inl (in_at 816 (by decide +kernel)), Or.inl rfl⟩
theorem fp_Mo_128_Mo : FP WS clS "AreaWarningsModel" 128 9 46 (.array .int) true := ⟨by decide, "AreaWarningsModel", TT_Mo, 49, "AreaWarningsModel", YT_Mo, rfl, by decide, in_Mo, Or.inl (in_at 816 (by decide +kernel)), Or.inl rfl, yt_Mo, nm_Mo, by decide +kernel, rfl, fun _ => rfl⟩
theorem fg_Mo_131_Mo : FR WS clS "AreaWarningsModel" 131 9 47 := ⟨by decide, "AreaWarningsModel", TT_Mo, 49, "AreaWarningsModel", rfl, by decide, in_Mo, Or.inl (in_at 817 (by decide +kernel)), Or.inl rfl⟩
theorem fp_Mo_131_Mo : FP WS clS "AreaWarningsModel" 131 9 47 (.array .int) true := ⟨by decide, "AreaWarningsModel", TT_Mo, 49, "AreaWarningsModel", YT_Mo, rfl, by decide, in_Mo, Or.inl (in_at 817 (by decide +kernel)), Or.inl rfl, yt_Mo, nm_Mo, by decide +kernel, rfl, fun _ => rfl⟩
theorem fg_Mo_134_Mo : FR WS clS "AreaWarningsModel" 134 9 48 := ⟨by decide, "AreaWarningsModel", TT_Mo, 49, "AreaWarningsModel", rfl, by decide, in_Mo, Or.inl (in_at 818 (by decide +kernel)), Or.inl rfl⟩
theorem fp_Mo_134_Mo : FP WS clS "AreaWarningsModel" 134 9 48 (.array .int) true := ⟨by decide, "AreaWarningsModel", TT_Mo, 49, "AreaWarningsModel", YT_Mo, rfl, by decide, in_Mo, Or.inl (in_at 818 (by decide +kernel)), Or.inl rfl, yt_Mo, nm_Mo, by decide +kernel, rfl, fun _ => rfl⟩
theorem fg_Mo_137_Mo : FR WS clS "AreaWarningsModel" 137 9 0 := ⟨by decide, "AreaWarningsModel", TT_Mo, 49, "AreaWarningsModel", rfl, by decide, in_Mo, Or.inl (in_at 770 (by decide +kernel)), Or.inl rfl⟩
theorem fp_Mo_137_Mo : FP WS clS "AreaWarningsModel" 137 9 0 (.int) false := ⟨by decide, "AreaWarningsModel", TT_Mo, 49, "AreaWarningsModel", YT_Mo, rfl, by decide, in_Mo, Or.inl (in_at 770 (by decide +kernel)), Or.inl rfl, yt_Mo, nm_Mo, by decide +kernel, rfl, fun h => by cases h⟩
theorem fg_Mo_145_Mo : FR WS clS "AreaWarningsModel" 145 9 2 := ⟨by decide, "AreaWarningsModel", TT_Mo, 49, "AreaWarningsModel", rfl, by decide, in_Mo, Or.inl (in_at 772 (by decide +kernel)), Or.inl rfl⟩
theorem fp_Mo_145_Mo : FP WS clS "AreaWarningsModel" 145 9 2 (.int) false := ⟨by decide, "AreaWarningsModel", TT_Mo, 49, "AreaWarningsModel", YT_Mo, rfl, by decide, in_Mo, Or.inl (in_at 772 (by decide +kernel)), Or.inl rfl, yt_Mo, nm_Mo, by decide +kernel, rfl, fun h => by cases h⟩
theorem fg_Mo_148_Mo : FR WS clS "AreaWarningsModel" 148 9 14 := ⟨by decide, "AreaWarningsModel", TT_Mo, 49, "AreaWarningsModel", rfl, by decide, in_Mo, Or.inl (in_at 784 (by decide +kernel)), Or.inl rfl⟩
theorem fp_Mo_148_Mo : FP WS clS "AreaWarningsModel" 148 9 14 (.int) false := ⟨by decide, "AreaWarningsModel", TT_Mo, 49, "AreaWarningsModel", YT_Mo, rfl, by decide, in_Mo, Or.inl (in_at 784 (by decide +kernel)), Or.inl rfl, yt_Mo, nm_Mo, by decide +kernel, rfl, fun h => by cases h⟩
theorem fg_Mo_184_Mo : FR WS clS "AreaWarningsModel" 184 9 19 := ⟨by decide, "AreaWarningsModel", TT_Mo, 49, "AreaWarningsModel", rfl, by decide, in_Mo, Or.inl (in_at 789 (by decide +kernel)), Or.inl rfl⟩
theorem fp_Mo_184_Mo : FP WS clS "AreaWarningsModel" 184 9 19 (.int) false := ⟨by decide, "AreaWarningsModel", TT_Mo, 49, "AreaWarningsModel", YT_Mo, rfl, by decide, in_Mo, Or.inl (in_at 789 (by decide +kernel)), Or.inl rfl, yt_Mo, nm_Mo, by decide +kernel, rfl, fun h => by cases h⟩
theorem fg_Mo_187_Mo : FR WS clS "AreaWarningsModel" 187 9 1 := ⟨by decide, "AreaWarningsModel", TT_Mo, 49, "AreaWarningsModel", rfl, by decide, in_Mo, Or.inl (in_at 771 (by decide +kernel)), Or.inl rfl⟩
theorem fp_Mo_187_Mo : FP WS clS "AreaWarningsModel" 187 9 1 (.int) false := ⟨by decide, "AreaWarningsModel", TT_Mo, 49, "AreaWarningsModel", YT_Mo, rfl, by decide, in_Mo, Or.inl (in_at 771 (by decide +kernel)), Or.inl rfl, yt_Mo, nm_Mo, by decide +kernel, rfl, fun h => by cases h⟩
theorem fg_Mo_194_Mo : FR WS clS "AreaWarningsModel" 194 9 22 := ⟨by decide, "AreaWarningsModel", TT_Mo, 49, "AreaWarningsModel", rfl, by decide, in_Mo, Or.inl (in_at 792 (by decide +kernel)), Or.inl rfl⟩
theorem fp_Mo_194_Mo : FP WS clS "AreaWarningsModel" 194 9 22 (.int) false := ⟨by decide, "AreaWarningsModel", TT_Mo, 49, "AreaWarningsModel", YT_Mo, rfl, by decide, in_Mo, Or.inl (in_at 792 (by decide +kernel)), Or.inl rfl, yt_Mo, nm_Mo, by decide +kernel, rfl, fun h => by cases h⟩
theorem fg_Mo_248_Mo : FR WS clS "AreaWarningsModel" 248 9 35 := ⟨by decide, "AreaWarningsModel", TT_Mo, 49, "AreaWarningsModel", rfl, by decide, in_Mo, Or.inl (in_at 805 (by decide +kernel)), Or.inl rfl⟩
theorem fp_Mo_248_Mo : FP WS clS "AreaWarningsModel" 248 9 35 (.int) false := ⟨by decide, "AreaWarningsModel", TT_Mo, 49, "AreaWarningsModel", YT_Mo, rfl, by decide, in_Mo, Or.inl (in_at 805 (by decide +kernel)), Or.inl rfl, yt_Mo, nm_Mo, by decide +kernel, rfl, fun h => by cases h⟩
theorem nw_AW_13 : NW WS clS "AreaWarnings" 13 3 [.int 0, .int 0, .int 0, .int 0, .int 0, .null, .int 0, .null, .null, .null, .null, .int 0] := ⟨by decide, "AreaWarnings$Cell", TT_Ce, 12, YT_Ce, rfl, in_Ce, yt_Ce, in_at 28 (by decide +kernel), in_at 142 (by decide +kernel), in_at 11 (by decide +kernel), rfl, by decide +kernel⟩
theorem nq_AW_13 : Cond.classLink "AreaWarnings" 13 "AreaWarnings$Cell" ∈ WS ∧ Cond.arrayOver (.object "AreaWarnings$Cell") ∈ WS := ⟨in_at 28 (by decide +kernel), in_at 29 (by decide +kernel)⟩
theorem nw_AW_22 : NW WS clS "AreaWarnings" 22 8 [.int 0, .int 0, .null] := ⟨by decide, "AreaWarnings$Warning", TT_Wa, 3, YT_Wa, rfl, in_Wa, yt_Wa, in_at 30 (by decide +kernel), in_at 482 (by decide +kernel), in_at 14 (by decide +kernel), rfl, by decide +kernel⟩
theorem nq_AW_22 : Cond.classLink "AreaWarnings" 22 "AreaWarnings$Warning" ∈ WS ∧ Cond.arrayOver (.object "AreaWarnings$Warning") ∈ WS := ⟨in_at 30 (by decide +kernel), in_at 31 (by decide +kernel)⟩
theorem nw_AW_34 : NW WS clS "AreaWarnings" 34 4 [.int 0, .null, .int 0, .int 0, .int 0, .int 0, .null, .null, .null, .null, .null, .null, .int 0] := ⟨by decide, "AreaWarnings$Handset", TT_Ha, 13, YT_Ha, rfl, in_Ha, yt_Ha, in_at 32 (by decide +kernel), in_at 188 (by decide +kernel), in_at 18 (by decide +kernel), rfl, by decide +kernel⟩
theorem nq_AW_34 : Cond.classLink "AreaWarnings" 34 "AreaWarnings$Handset" ∈ WS ∧ Cond.arrayOver (.object "AreaWarnings$Handset") ∈ WS := ⟨in_at 32 (by decide +kernel), in_at 33 (by decide +kernel)⟩
theorem nw_AW_43 : NW WS clS "AreaWarnings" 43 5 [.null, .null] := ⟨by decide, "AreaWarnings$Message", TT_Me, 2, YT_Me, rfl, in_Me, yt_Me, in_at 34 (by decide +kernel), in_at 35 (by decide +kernel), in_at 2 (by decide +kernel), rfl, by decide +kernel⟩
theorem nw_AW_67 : NW WS clS "AreaWarnings" 67 6 [.null, .int 0, .int 0, .int 0, .int 0, .int 0, .null, .null, .null] := ⟨by decide, "AreaWarnings$Spoken", TT_Sp, 9, YT_Sp, rfl, in_Sp, yt_Sp, in_at 369 (by decide +kernel), in_at 506 (by decide +kernel), in_at 16 (by decide +kernel), rfl, by decide +kernel⟩
theorem nw_AW_149 : NW WS clS "AreaWarnings" 149 2 [.null, .int 0, .int 0, .int 0] := ⟨by decide, "AreaWarnings$Cancel", TT_Ca, 4, YT_Ca, rfl, in_Ca, yt_Ca, in_at 581 (by decide +kernel), in_at 589 (by decide +kernel), in_at 17 (by decide +kernel), rfl, by decide +kernel⟩
theorem nq_Ce_28 : Cond.classLink "AreaWarnings$Cell" 28 "AreaWarnings$Version" ∈ WS ∧ Cond.arrayOver (.object "AreaWarnings$Version") ∈ WS := ⟨in_at 314 (by decide +kernel), in_at 315 (by decide +kernel)⟩
theorem nq_Ha_31 : Cond.classLink "AreaWarnings$Handset" 31 "AreaWarnings$Version" ∈ WS ∧ Cond.arrayOver (.object "AreaWarnings$Version") ∈ WS := ⟨in_at 633 (by decide +kernel), in_at 315 (by decide +kernel)⟩
theorem nq_Ha_44 : Cond.classLink "AreaWarnings$Handset" 44 "AreaWarnings$Spoken" ∈ WS ∧ Cond.arrayOver (.object "AreaWarnings$Spoken") ∈ WS := ⟨in_at 190 (by decide +kernel), in_at 634 (by decide +kernel)⟩
theorem nw_Me_7 : NW WS clS "AreaWarnings$Message" 7 1 [.null, .null, .int 0] := ⟨by decide, "AreaWarnings$Area", TT_Ar, 3, YT_Ar, rfl, in_Ar, yt_Ar, in_at 40 (by decide +kernel), in_at 41 (by decide +kernel), in_at 3 (by decide +kernel), rfl, by decide +kernel⟩
theorem nw_Me_16 : NW WS clS "AreaWarnings$Message" 16 7 [.null, .null] := ⟨by decide, "AreaWarnings$Texts", TT_Te, 2, YT_Te, rfl, in_Te, yt_Te, in_at 58 (by decide +kernel), in_at 59 (by decide +kernel), in_at 4 (by decide +kernel), rfl, by decide +kernel⟩
theorem nw_La_8 : NW WS clS "AreaWarningsLaw" 8 0 [.int 0, .null, .int 0, .null, .int 0, .int 0, .null, .int 0, .null] := ⟨by decide, "AreaWarnings", TT_AW, 9, YT_AW, rfl, in_AW, yt_AW, in_at 20 (by decide +kernel), in_at 21 (by decide +kernel), in_at 1 (by decide +kernel), rfl, by decide +kernel⟩
theorem nw_La_73 : NW WS clS "AreaWarningsLaw" 73 9 [.int 0, .int 0, .int 0, .null, .null, .null, .null, .null, .null, .null, .null, .null, .null, .null, .int 0, .null, .null, .null, .null, .int 0, .null, .null, .int 0, .null, .null, .null, .null, .null, .null, .null, .null, .null, .null, .null, .null, .int 0, .null, .null, .null, .null, .null, .null, .null, .null, .null, .null, .null, .null, .null] := ⟨by decide, "AreaWarningsModel", TT_Mo, 49, YT_Mo, rfl, in_Mo, yt_Mo, in_at 764 (by decide +kernel), in_at 765 (by decide +kernel), in_at 5 (by decide +kernel), rfl, by decide +kernel⟩
theorem iy_AW_67_Sp : IW WS clS "AreaWarnings" 67 6 := ⟨by decide, _, "AreaWarnings$Spoken", rfl, in_at 369 (by decide +kernel), Or.inl rfl⟩
theorem in_AW_67_Ca : IN WS clS "AreaWarnings" 67 2 := ⟨by decide, _, "AreaWarnings$Spoken", rfl, in_at 369 (by decide +kernel), in_at 1169 (by decide +kernel)⟩
theorem in_AW_149_Sp : IN WS clS "AreaWarnings" 149 6 := ⟨by decide, _, "AreaWarnings$Cancel", rfl, in_at 581 (by decide +kernel), in_at 1170 (by decide +kernel)⟩
theorem iy_AW_149_Ca : IW WS clS "AreaWarnings" 149 2 := ⟨by decide, _, "AreaWarnings$Cancel", rfl, in_at 581 (by decide +kernel), Or.inl rfl⟩
theorem iy_Ce_66_Sp : IW WS clS "AreaWarnings$Cell" 66 6 := ⟨by decide, _, "AreaWarnings$Spoken", rfl, in_at 144 (by decide +kernel), Or.inl rfl⟩
theorem in_Ce_66_Ca : IN WS clS "AreaWarnings$Cell" 66 2 := ⟨by decide, _, "AreaWarnings$Spoken", rfl, in_at 144 (by decide +kernel), in_at 1169 (by decide +kernel)⟩
theorem iy_Ha_44_Sp : IW WS clS "AreaWarnings$Handset" 44 6 := ⟨by decide, _, "AreaWarnings$Spoken", rfl, in_at 190 (by decide +kernel), Or.inl rfl⟩
theorem in_Ha_44_Ca : IN WS clS "AreaWarnings$Handset" 44 2 := ⟨by decide, _, "AreaWarnings$Spoken", rfl, in_at 190 (by decide +kernel), in_at 1169 (by decide +kernel)⟩
theorem as_4_Ce : AS WS clS taS 4 3 := ⟨by decide, by decide, "AreaWarnings$Cell", _, rfl, rfl, Or.inl rfl⟩
theorem as_5_Wa : AS WS clS taS 5 8 := ⟨by decide, by decide, "AreaWarnings$Warning", _, rfl, rfl, Or.inl rfl⟩
theorem as_6_Ha : AS WS clS taS 6 4 := ⟨by decide, by decide, "AreaWarnings$Handset", _, rfl, rfl, Or.inl rfl⟩
theorem as_7_Sp : AS WS clS taS 7 6 := ⟨by decide, by decide, "AreaWarnings$Version", _, rfl, rfl, Or.inr (in_at 1120 (by decide +kernel))⟩
theorem as_7_Ca : AS WS clS taS 7 2 := ⟨by decide, by decide, "AreaWarnings$Version", _, rfl, rfl, Or.inr (in_at 1119 (by decide +kernel))⟩
theorem as_8_Sp : AS WS clS taS 8 6 := ⟨by decide, by decide, "AreaWarnings$Spoken", _, rfl, rfl, Or.inl rfl⟩
def mm_AW_init : MT := (⟨"AreaWarnings", "<init>", "()V"⟩, prog_1_method_1_code, 1, none, [])
def mm_AW_cell : MT := (⟨"AreaWarnings", "cell", "(III)I"⟩, prog_1_method_2_code, 8, (some .int), [])
def mm_AW_corner : MT := (⟨"AreaWarnings", "corner", "(II)I"⟩, prog_1_method_3_code, 3, (some .int), [])
def mm_AW_text : MT := (⟨"AreaWarnings", "text", "(II)I"⟩, prog_1_method_4_code, 3, (some .int), [])
def mm_AW_clear : MT := (⟨"AreaWarnings", "clear", "()I"⟩, prog_1_method_5_code, 2, (some .int), [])
def mm_AW_issue : MT := (⟨"AreaWarnings", "issue", "(IIIII)I"⟩, prog_1_method_6_code, 7, (some .int), [])
def mm_AW_update : MT := (⟨"AreaWarnings", "update", "(IIII)I"⟩, prog_1_method_7_code, 7, (some .int), [])
def mm_AW_cancel : MT := (⟨"AreaWarnings", "cancel", "(I)I"⟩, prog_1_method_8_code, 3, (some .int), [])
def mm_AW_minute : MT := (⟨"AreaWarnings", "minute", "()I"⟩, prog_1_method_9_code, 4, (some .int), [])
def mm_AW_line : MT := (⟨"AreaWarnings", "line", "(IZ)Z"⟩, prog_1_method_10_code, 4, (some .boolean), [])
def mm_AW_handset : MT := (⟨"AreaWarnings", "handset", "(I)I"⟩, prog_1_method_11_code, 2, (some .int), [])
def mm_AW_likes : MT := (⟨"AreaWarnings", "likes", "(II)I"⟩, prog_1_method_12_code, 3, (some .int), [])
def mm_AW_camp : MT := (⟨"AreaWarnings", "camp", "(II)I"⟩, prog_1_method_13_code, 4, (some .int), [])
def mm_AW_miss : MT := (⟨"AreaWarnings", "miss", "(II)I"⟩, prog_1_method_14_code, 3, (some .int), [])
def mm_AW_covers : MT := (⟨"AreaWarnings", "covers", "(II)Z"⟩, prog_1_method_15_code, 6, (some .boolean), [])
def mm_AW_version : MT := (⟨"AreaWarnings", "version", "(I)I"⟩, prog_1_method_16_code, 3, (some .int), [])
def mm_AW_listed : MT := (⟨"AreaWarnings", "listed", "(III)I"⟩, prog_1_method_17_code, 5, (some .int), [])
def mm_AW_sent : MT := (⟨"AreaWarnings", "sent", "(III)I"⟩, prog_1_method_18_code, 5, (some .int), [])
def mm_AW_shown : MT := (⟨"AreaWarnings", "shown", "(III)I"⟩, prog_1_method_19_code, 5, (some .int), [])
def mm_AW_shownByte : MT := (⟨"AreaWarnings", "shownByte", "(III)I"⟩, prog_1_method_20_code, 5, (some .int), [])
def mm_AW_total : MT := (⟨"AreaWarnings", "total", "(I)I"⟩, prog_1_method_21_code, 2, (some .int), [])
def mm_AW_isCoordinate : MT := (⟨"AreaWarnings", "isCoordinate", "(I)Z"⟩, prog_1_method_22_code, 1, (some .boolean), [])
def mm_AW_isLanguage : MT := (⟨"AreaWarnings", "isLanguage", "(I)Z"⟩, prog_1_method_23_code, 1, (some .boolean), [])
def mm_AW_isSeverity : MT := (⟨"AreaWarnings", "isSeverity", "(I)Z"⟩, prog_1_method_24_code, 1, (some .boolean), [])
def mm_AW_isSpan : MT := (⟨"AreaWarnings", "isSpan", "(I)Z"⟩, prog_1_method_25_code, 1, (some .boolean), [])
def mm_AW_isCell : MT := (⟨"AreaWarnings", "isCell", "(I)Z"⟩, prog_1_method_26_code, 2, (some .boolean), [])
def mm_AW_isHandset : MT := (⟨"AreaWarnings", "isHandset", "(I)Z"⟩, prog_1_method_27_code, 2, (some .boolean), [])
def mm_AW_findWarning : MT := (⟨"AreaWarnings", "findWarning", "(I)LAreaWarnings$Warning;"⟩, prog_1_method_28_code, 3, (some (.object "AreaWarnings$Warning")), [])
def mm_AW_findLive : MT := (⟨"AreaWarnings", "findLive", "(I)LAreaWarnings$Warning;"⟩, prog_1_method_29_code, 3, (some (.object "AreaWarnings$Warning")), [])
def mm_AW_insertById : MT := (⟨"AreaWarnings", "insertById", "(LAreaWarnings$Warning;)V"⟩, prog_1_method_30_code, 3, none, [])
def mm_AW_speak : MT := (⟨"AreaWarnings", "speak", "(LAreaWarnings$Warning;LAreaWarnings$Spoken;)I"⟩, prog_1_method_31_code, 5, (some .int), [])
def mm_Mo_init : MT := (⟨"AreaWarningsModel", "<init>", "()V"⟩, prog_12_method_1_code, 1, none, [])
def mm_Mo_thrown : MT := (⟨"AreaWarningsModel", "thrown", "()I"⟩, prog_12_method_2_code, 1, (some .int), [])
def mm_Mo_isPlace : MT := (⟨"AreaWarningsModel", "isPlace", "(I)Z"⟩, prog_12_method_3_code, 1, (some .boolean), [])
def mm_Mo_cell : MT := (⟨"AreaWarningsModel", "cell", "(III)I"⟩, prog_12_method_4_code, 4, (some .int), [])
def mm_Mo_corner : MT := (⟨"AreaWarningsModel", "corner", "(II)I"⟩, prog_12_method_5_code, 3, (some .int), [])
def mm_Mo_text : MT := (⟨"AreaWarningsModel", "text", "(II)I"⟩, prog_12_method_6_code, 3, (some .int), [])
def mm_Mo_clear : MT := (⟨"AreaWarningsModel", "clear", "()I"⟩, prog_12_method_7_code, 3, (some .int), [])
def mm_Mo_sign : MT := (⟨"AreaWarningsModel", "sign", "(I)I"⟩, prog_12_method_8_code, 1, (some .int), [])
def mm_Mo_turn : MT := (⟨"AreaWarningsModel", "turn", "(III)I"⟩, prog_12_method_9_code, 4, (some .int), [])
def mm_Mo_isBetween : MT := (⟨"AreaWarningsModel", "isBetween", "(III)Z"⟩, prog_12_method_10_code, 5, (some .boolean), [])
def mm_Mo_meet : MT := (⟨"AreaWarningsModel", "meet", "(IIII)Z"⟩, prog_12_method_11_code, 6, (some .boolean), [])
def mm_Mo_fold : MT := (⟨"AreaWarningsModel", "fold", "(III)Z"⟩, prog_12_method_12_code, 5, (some .boolean), [])
def mm_Mo_isSimple : MT := (⟨"AreaWarningsModel", "isSimple", "()Z"⟩, prog_12_method_13_code, 7, (some .boolean), [])
def mm_Mo_square : MT := (⟨"AreaWarningsModel", "square", "(J)J"⟩, prog_12_method_14_code, 2, (some .long), [])
def mm_Mo_isNear : MT := (⟨"AreaWarningsModel", "isNear", "(III)Z"⟩, prog_12_method_15_code, 20, (some .boolean), [])
def mm_Mo_isIn : MT := (⟨"AreaWarningsModel", "isIn", "(II)Z"⟩, prog_12_method_16_code, 10, (some .boolean), [])
def mm_Mo_isCovered : MT := (⟨"AreaWarningsModel", "isCovered", "(II)Z"⟩, prog_12_method_17_code, 5, (some .boolean), [])
def mm_Mo_covered : MT := (⟨"AreaWarningsModel", "covered", "(I)I"⟩, prog_12_method_18_code, 4, (some .int), [])
def mm_Mo_find : MT := (⟨"AreaWarningsModel", "find", "(I)I"⟩, prog_12_method_19_code, 4, (some .int), [])
def mm_Mo_isLive : MT := (⟨"AreaWarningsModel", "isLive", "(I)Z"⟩, prog_12_method_20_code, 2, (some .boolean), [])
def mm_Mo_isSpan : MT := (⟨"AreaWarningsModel", "isSpan", "(II)Z"⟩, prog_12_method_21_code, 2, (some .boolean), [])
def mm_Mo_isSaid : MT := (⟨"AreaWarningsModel", "isSaid", "()Z"⟩, prog_12_method_22_code, 1, (some .boolean), [])
def mm_Mo_make : MT := (⟨"AreaWarningsModel", "make", "(IIIIZ)I"⟩, prog_12_method_23_code, 7, (some .int), [])
def mm_Mo_fill : MT := (⟨"AreaWarningsModel", "fill", "(III)I"⟩, prog_12_method_24_code, 5, (some .int), [])
def mm_Mo_issue : MT := (⟨"AreaWarningsModel", "issue", "(IIIII)I"⟩, prog_12_method_25_code, 7, (some .int), [])
def mm_Mo_update : MT := (⟨"AreaWarningsModel", "update", "(IIII)I"⟩, prog_12_method_26_code, 7, (some .int), [])
def mm_Mo_cancel : MT := (⟨"AreaWarningsModel", "cancel", "(I)I"⟩, prog_12_method_27_code, 4, (some .int), [])
def mm_Mo_isListed : MT := (⟨"AreaWarningsModel", "isListed", "(II)Z"⟩, prog_12_method_28_code, 5, (some .boolean), [])
def mm_Mo_insert : MT := (⟨"AreaWarningsModel", "insert", "(II)V"⟩, prog_12_method_29_code, 4, none, [])
def mm_Mo_relist : MT := (⟨"AreaWarningsModel", "relist", "(I)V"⟩, prog_12_method_30_code, 5, none, [])
def mm_Mo_page : MT := (⟨"AreaWarningsModel", "page", "(IIII)V"⟩, prog_12_method_31_code, 6, none, [])
def mm_Mo_pagesOf : MT := (⟨"AreaWarningsModel", "pagesOf", "(II)I"⟩, prog_12_method_32_code, 3, (some .int), [])
def mm_Mo_sendAll : MT := (⟨"AreaWarningsModel", "sendAll", "(I)V"⟩, prog_12_method_33_code, 8, none, [])
def mm_Mo_chosen : MT := (⟨"AreaWarningsModel", "chosen", "(II)I"⟩, prog_12_method_34_code, 6, (some .int), [])
def mm_Mo_hear : MT := (⟨"AreaWarningsModel", "hear", "(IIII)V"⟩, prog_12_method_35_code, 9, none, [])
def mm_Mo_minute : MT := (⟨"AreaWarningsModel", "minute", "()I"⟩, prog_12_method_36_code, 6, (some .int), [])
def mm_Mo_isCell : MT := (⟨"AreaWarningsModel", "isCell", "(I)Z"⟩, prog_12_method_37_code, 2, (some .boolean), [])
def mm_Mo_isHandset : MT := (⟨"AreaWarningsModel", "isHandset", "(I)Z"⟩, prog_12_method_38_code, 2, (some .boolean), [])
def mm_Mo_line : MT := (⟨"AreaWarningsModel", "line", "(IZ)Z"⟩, prog_12_method_39_code, 4, (some .boolean), [])
def mm_Mo_handset : MT := (⟨"AreaWarningsModel", "handset", "(I)I"⟩, prog_12_method_40_code, 2, (some .int), [])
def mm_Mo_likes : MT := (⟨"AreaWarningsModel", "likes", "(II)I"⟩, prog_12_method_41_code, 3, (some .int), [])
def mm_Mo_camp : MT := (⟨"AreaWarningsModel", "camp", "(II)I"⟩, prog_12_method_42_code, 4, (some .int), [])
def mm_Mo_miss : MT := (⟨"AreaWarningsModel", "miss", "(II)I"⟩, prog_12_method_43_code, 3, (some .int), [])
def mm_Mo_covers : MT := (⟨"AreaWarningsModel", "covers", "(II)Z"⟩, prog_12_method_44_code, 4, (some .boolean), [])
def mm_Mo_version : MT := (⟨"AreaWarningsModel", "version", "(I)I"⟩, prog_12_method_45_code, 3, (some .int), [])
def mm_Mo_listed : MT := (⟨"AreaWarningsModel", "listed", "(III)I"⟩, prog_12_method_46_code, 5, (some .int), [])
def mm_Mo_sent : MT := (⟨"AreaWarningsModel", "sent", "(III)I"⟩, prog_12_method_47_code, 8, (some .int), [])
def mm_Mo_isCurrent : MT := (⟨"AreaWarningsModel", "isCurrent", "(II)Z"⟩, prog_12_method_48_code, 3, (some .boolean), [])
def mm_Mo_shown : MT := (⟨"AreaWarningsModel", "shown", "(III)I"⟩, prog_12_method_49_code, 7, (some .int), [])
def mm_Mo_shownByte : MT := (⟨"AreaWarningsModel", "shownByte", "(III)I"⟩, prog_12_method_50_code, 6, (some .int), [])
def mm_Mo_total : MT := (⟨"AreaWarningsModel", "total", "(I)I"⟩, prog_12_method_51_code, 2, (some .int), [])
def mm_Ar_init : MT := (⟨"AreaWarnings$Area", "<init>", "()V"⟩, prog_2_method_1_code, 1, none, [])
def mm_Ar_addCorner : MT := (⟨"AreaWarnings$Area", "addCorner", "(II)I"⟩, prog_2_method_2_code, 3, (some .int), [])
def mm_Ar_dropCorners : MT := (⟨"AreaWarnings$Area", "dropCorners", "()V"⟩, prog_2_method_3_code, 1, none, [])
def mm_Ar_isSimple : MT := (⟨"AreaWarnings$Area", "isSimple", "()Z"⟩, prog_2_method_4_code, 3, (some .boolean), [])
def mm_Ar_reaches : MT := (⟨"AreaWarnings$Area", "reaches", "(III)Z"⟩, prog_2_method_5_code, 5, (some .boolean), [])
def mm_Ar_next : MT := (⟨"AreaWarnings$Area", "next", "(I)I"⟩, prog_2_method_6_code, 2, (some .int), [])
def mm_Ar_sidesClash : MT := (⟨"AreaWarnings$Area", "sidesClash", "(II)Z"⟩, prog_2_method_7_code, 3, (some .boolean), [])
def mm_Ar_foldsBack : MT := (⟨"AreaWarnings$Area", "foldsBack", "(III)Z"⟩, prog_2_method_8_code, 12, (some .boolean), [])
def mm_Ar_sidesMeet : MT := (⟨"AreaWarnings$Area", "sidesMeet", "(II)Z"⟩, prog_2_method_9_code, 5, (some .boolean), [])
def mm_Ar_rangesMeet : MT := (⟨"AreaWarnings$Area", "rangesMeet", "(IIII)Z"⟩, prog_2_method_10_code, 4, (some .boolean), [])
def mm_Ar_turn : MT := (⟨"AreaWarnings$Area", "turn", "(III)J"⟩, prog_2_method_11_code, 9, (some .long), [])
def mm_Ar_sideReaches : MT := (⟨"AreaWarnings$Area", "sideReaches", "(IIII)Z"⟩, prog_2_method_12_code, 18, (some .boolean), [])
def mm_Ar_squareToCorner : MT := (⟨"AreaWarnings$Area", "squareToCorner", "(III)J"⟩, prog_2_method_13_code, 8, (some .long), [])
def mm_Ar_surrounds : MT := (⟨"AreaWarnings$Area", "surrounds", "(II)Z"⟩, prog_2_method_14_code, 7, (some .boolean), [])
def mm_Ca_init : MT := (⟨"AreaWarnings$Cancel", "<init>", "(LAreaWarnings$Warning;II)V"⟩, prog_3_method_1_code, 4, none, [])
def mm_Ce_init : MT := (⟨"AreaWarnings$Cell", "<init>", "(IIII)V"⟩, prog_4_method_1_code, 5, none, [])
def mm_Ce_makeListAnew : MT := (⟨"AreaWarnings$Cell", "makeListAnew", "([LAreaWarnings$Warning;II)V"⟩, prog_4_method_2_code, 7, none, [])
def mm_Ce_belongsHere : MT := (⟨"AreaWarnings$Cell", "belongsHere", "(LAreaWarnings$Version;)Z"⟩, prog_4_method_3_code, 3, (some .boolean), [])
def mm_Ce_listsWarning : MT := (⟨"AreaWarnings$Cell", "listsWarning", "(LAreaWarnings$Warning;)Z"⟩, prog_4_method_4_code, 3, (some .boolean), [])
def mm_Ce_dropEnded : MT := (⟨"AreaWarnings$Cell", "dropEnded", "(I)V"⟩, prog_4_method_5_code, 4, none, [])
def mm_Ce_sendPages : MT := (⟨"AreaWarnings$Cell", "sendPages", "(I)V"⟩, prog_4_method_6_code, 4, none, [])
def mm_Ce_sendVersion : MT := (⟨"AreaWarnings$Cell", "sendVersion", "(LAreaWarnings$Version;I)V"⟩, prog_4_method_7_code, 4, none, [])
def mm_Ce_sendTexts : MT := (⟨"AreaWarnings$Cell", "sendTexts", "(LAreaWarnings$Spoken;)V"⟩, prog_4_method_8_code, 5, none, [])
def mm_Ce_sendPage : MT := (⟨"AreaWarnings$Cell", "sendPage", "(LAreaWarnings$Version;II)V"⟩, prog_4_method_9_code, 4, none, [])
def mm_Ce_bytesOfPage : MT := (⟨"AreaWarnings$Cell", "bytesOfPage", "(I)I"⟩, prog_4_method_10_code, 4, (some .int), [])
def mm_Ha_init : MT := (⟨"AreaWarnings$Handset", "<init>", "(I)V"⟩, prog_5_method_1_code, 2, none, [])
def mm_Ha_addLiked : MT := (⟨"AreaWarnings$Handset", "addLiked", "(I)I"⟩, prog_5_method_2_code, 2, (some .int), [])
def mm_Ha_listen : MT := (⟨"AreaWarnings$Handset", "listen", "(LAreaWarnings$Cell;I)V"⟩, prog_5_method_3_code, 4, none, [])
def mm_Ha_hear : MT := (⟨"AreaWarnings$Handset", "hear", "(LAreaWarnings$Version;III)V"⟩, prog_5_method_4_code, 7, none, [])
def mm_Ha_pageBits : MT := (⟨"AreaWarnings$Handset", "pageBits", "(II)I"⟩, prog_5_method_5_code, 2, (some .int), [])
def mm_Ha_showIfWhole : MT := (⟨"AreaWarnings$Handset", "showIfWhole", "(LAreaWarnings$Spoken;I)V"⟩, prog_5_method_6_code, 6, none, [])
def mm_Ha_choose : MT := (⟨"AreaWarnings$Handset", "choose", "(LAreaWarnings$Texts;)I"⟩, prog_5_method_7_code, 3, (some .int), [])
def mm_Ha_isCurrent : MT := (⟨"AreaWarnings$Handset", "isCurrent", "(II)Z"⟩, prog_5_method_8_code, 4, (some .boolean), [])
def mm_Ha_bytesOfShown : MT := (⟨"AreaWarnings$Handset", "bytesOfShown", "(I)I"⟩, prog_5_method_9_code, 2, (some .int), [])
def mm_Me_init : MT := (⟨"AreaWarnings$Message", "<init>", "()V"⟩, prog_6_method_1_code, 1, none, [])
def mm_Me_canBeSpoken : MT := (⟨"AreaWarnings$Message", "canBeSpoken", "()Z"⟩, prog_6_method_2_code, 1, (some .boolean), [])
def mm_Sp_init : MT := (⟨"AreaWarnings$Spoken", "<init>", "(LAreaWarnings$Warning;IIIILAreaWarnings$Message;)V"⟩, prog_7_method_1_code, 7, none, [])
def mm_Sp_measure : MT := (⟨"AreaWarnings$Spoken", "measure", "(LAreaWarnings$Cell;)Z"⟩, prog_7_method_2_code, 2, (some .boolean), [])
def mm_Sp_isDue : MT := (⟨"AreaWarnings$Spoken", "isDue", "(I)Z"⟩, prog_7_method_3_code, 2, (some .boolean), [])
def mm_Te_init : MT := (⟨"AreaWarnings$Texts", "<init>", "()V"⟩, prog_8_method_1_code, 1, none, [])
def mm_Te_addByte : MT := (⟨"AreaWarnings$Texts", "addByte", "(II)I"⟩, prog_8_method_2_code, 3, (some .int), [])
def mm_Te_dropBytes : MT := (⟨"AreaWarnings$Texts", "dropBytes", "()V"⟩, prog_8_method_3_code, 2, none, [])
def mm_Te_byteCount : MT := (⟨"AreaWarnings$Texts", "byteCount", "()I"⟩, prog_8_method_4_code, 3, (some .int), [])
def mm_Te_offers : MT := (⟨"AreaWarnings$Texts", "offers", "(I)Z"⟩, prog_8_method_5_code, 2, (some .boolean), [])
def mm_Te_pagesOf : MT := (⟨"AreaWarnings$Texts", "pagesOf", "(I)I"⟩, prog_8_method_6_code, 2, (some .int), [])
def mm_Te_bytesOfPage : MT := (⟨"AreaWarnings$Texts", "bytesOfPage", "(II)I"⟩, prog_8_method_7_code, 3, (some .int), [])
def mm_Ve_init : MT := (⟨"AreaWarnings$Version", "<init>", "(LAreaWarnings$Warning;II)V"⟩, prog_9_method_1_code, 4, none, [])
def mm_Wa_init : MT := (⟨"AreaWarnings$Warning", "<init>", "(II)V"⟩, prog_10_method_1_code, 3, none, [])
def mm_La_cell : MT := (⟨"AreaWarningsLaw", "cell", "(LAreaWarnings;III[J)I"⟩, method_3_code, 6, (some .int), [(0, 12, 15, 13), (0, 12, 19, 15)])
def mm_La_corner : MT := (⟨"AreaWarningsLaw", "corner", "(LAreaWarnings;II[J)I"⟩, method_4_code, 5, (some .int), [(0, 10, 13, 13), (0, 10, 17, 15)])
def mm_La_text : MT := (⟨"AreaWarningsLaw", "text", "(LAreaWarnings;II[J)I"⟩, method_5_code, 5, (some .int), [(0, 10, 13, 13), (0, 10, 17, 15)])
def mm_La_issue : MT := (⟨"AreaWarningsLaw", "issue", "(LAreaWarnings;IIIII[J)I"⟩, method_6_code, 8, (some .int), [(0, 16, 19, 13), (0, 16, 23, 28), (0, 16, 27, 15)])
def mm_La_update : MT := (⟨"AreaWarningsLaw", "update", "(LAreaWarnings;IIII[J)I"⟩, method_7_code, 7, (some .int), [(0, 14, 17, 13), (0, 14, 21, 28), (0, 14, 25, 15)])
def mm_La_cancel : MT := (⟨"AreaWarningsLaw", "cancel", "(LAreaWarnings;I[J)I"⟩, method_8_code, 4, (some .int), [(0, 9, 12, 15)])
def mm_La_line : MT := (⟨"AreaWarningsLaw", "line", "(LAreaWarnings;IZ[J)I"⟩, method_9_code, 5, (some .int), [(0, 17, 20, 42)])
def mm_La_handset : MT := (⟨"AreaWarningsLaw", "handset", "(LAreaWarnings;I[J)I"⟩, method_10_code, 4, (some .int), [(0, 9, 12, 13), (0, 9, 15, 15)])
def mm_La_likes : MT := (⟨"AreaWarningsLaw", "likes", "(LAreaWarnings;II[J)I"⟩, method_11_code, 5, (some .int), [(0, 10, 13, 42), (0, 10, 17, 13), (0, 10, 21, 15)])
def mm_La_camp : MT := (⟨"AreaWarningsLaw", "camp", "(LAreaWarnings;II[J)I"⟩, method_12_code, 5, (some .int), [(0, 10, 13, 42)])
def mm_La_miss : MT := (⟨"AreaWarningsLaw", "miss", "(LAreaWarnings;II[J)I"⟩, method_13_code, 5, (some .int), [(0, 10, 13, 42), (0, 10, 17, 13)])
def mm_La_covers : MT := (⟨"AreaWarningsLaw", "covers", "(LAreaWarnings;II[J)I"⟩, method_14_code, 5, (some .int), [(0, 17, 20, 42), (0, 17, 24, 15)])
def mm_La_listed : MT := (⟨"AreaWarningsLaw", "listed", "(LAreaWarnings;III[J)I"⟩, method_15_code, 6, (some .int), [(0, 12, 15, 42), (0, 12, 19, 13)])
def mm_La_sent : MT := (⟨"AreaWarningsLaw", "sent", "(LAreaWarnings;III[J)I"⟩, method_16_code, 6, (some .int), [(0, 12, 15, 42), (0, 12, 19, 13)])
def mm_La_shown : MT := (⟨"AreaWarningsLaw", "shown", "(LAreaWarnings;III[J)I"⟩, method_17_code, 6, (some .int), [(0, 12, 15, 42), (0, 12, 19, 13)])
def mm_La_shownByte : MT := (⟨"AreaWarningsLaw", "shownByte", "(LAreaWarnings;III[J)I"⟩, method_18_code, 6, (some .int), [(0, 12, 15, 42)])
theorem ob_AW_3 : Cond.methodLink "AreaWarnings" 3 Lib.objectInit ∈ WS ∧ Cond.instanceMethod Lib.objectInit ∈ WS ∧ Cond.code Lib.objectInit ⟨#[0xb1]⟩ 1 none ∈ WS := ⟨in_at 25 (by decide +kernel), in_at 26 (by decide +kernel), in_at 27 (by decide +kernel)⟩
theorem ci_AW_45 : CW WS "AreaWarnings" 45 mm_Me_init 0 ∧ Cond.instanceMethod mm_Me_init.1 ∈ WS ∧ mm_Me_init.1.name = "<init>" ∧ mm_Me_init.2.2.2.1 = none := ⟨⟨Or.inl (in_at 36 (by decide +kernel)), in_at 38 (by decide +kernel), rfl, by decide +kernel, by decide, ⟨by decide +kernel, by decide +kernel⟩, by decide +kernel⟩, in_at 37 (by decide +kernel), rfl, rfl⟩
theorem cs_AW_50 : CW WS "AreaWarnings" 50 mm_AW_isCoordinate 1 ∧ Cond.static mm_AW_isCoordinate.1 ∈ WS ∧ Cond.initialized mm_AW_isCoordinate.1.cls ∈ WS := ⟨⟨Or.inl (in_at 228 (by decide +kernel)), in_at 230 (by decide +kernel), rfl, by decide +kernel, by decide, ⟨by decide +kernel, by decide +kernel⟩, by decide +kernel⟩, in_at 229 (by decide +kernel), in_at 1 (by decide +kernel)⟩
theorem ci_AW_60 : CW WS "AreaWarnings" 60 mm_Ce_init 4 ∧ Cond.instanceMethod mm_Ce_init.1 ∈ WS ∧ mm_Ce_init.1.name = "<init>" ∧ mm_Ce_init.2.2.2.1 = none := ⟨⟨Or.inl (in_at 310 (by decide +kernel)), in_at 312 (by decide +kernel), rfl, by decide +kernel, by decide, ⟨by decide +kernel, by decide +kernel⟩, by decide +kernel⟩, in_at 311 (by decide +kernel), rfl, rfl⟩
theorem cv_AW_69 : CW WS "AreaWarnings" 69 mm_Sp_measure 1 ∧ Cond.instanceMethod mm_Sp_measure.1 ∈ WS ∧ Cond.selects "AreaWarnings$Spoken" mm_Sp_measure.1 mm_Sp_measure.1 ∈ WS ∧ 6 < 100 := ⟨⟨Or.inl (in_at 370 (by decide +kernel)), in_at 373 (by decide +kernel), rfl, by decide +kernel, by decide, ⟨by decide +kernel, by decide +kernel⟩, by decide +kernel⟩, in_at 371 (by decide +kernel), in_at 372 (by decide +kernel), by decide⟩
theorem cv_AW_85 : CW WS "AreaWarnings" 85 mm_Ar_addCorner 2 ∧ Cond.instanceMethod mm_Ar_addCorner.1 ∈ WS ∧ Cond.selects "AreaWarnings$Area" mm_Ar_addCorner.1 mm_Ar_addCorner.1 ∈ WS ∧ 1 < 100 := ⟨⟨Or.inl (in_at 405 (by decide +kernel)), in_at 408 (by decide +kernel), rfl, by decide +kernel, by decide, ⟨by decide +kernel, by decide +kernel⟩, by decide +kernel⟩, in_at 406 (by decide +kernel), in_at 407 (by decide +kernel), by decide⟩
theorem cs_AW_89 : CW WS "AreaWarnings" 89 mm_AW_isLanguage 1 ∧ Cond.static mm_AW_isLanguage.1 ∈ WS ∧ Cond.initialized mm_AW_isLanguage.1.cls ∈ WS := ⟨⟨Or.inl (in_at 416 (by decide +kernel)), in_at 418 (by decide +kernel), rfl, by decide +kernel, by decide, ⟨by decide +kernel, by decide +kernel⟩, by decide +kernel⟩, in_at 417 (by decide +kernel), in_at 1 (by decide +kernel)⟩
theorem cv_AW_102 : CW WS "AreaWarnings" 102 mm_Te_addByte 2 ∧ Cond.instanceMethod mm_Te_addByte.1 ∈ WS ∧ Cond.selects "AreaWarnings$Texts" mm_Te_addByte.1 mm_Te_addByte.1 ∈ WS ∧ 7 < 100 := ⟨⟨Or.inl (in_at 419 (by decide +kernel)), in_at 422 (by decide +kernel), rfl, by decide +kernel, by decide, ⟨by decide +kernel, by decide +kernel⟩, by decide +kernel⟩, in_at 420 (by decide +kernel), in_at 421 (by decide +kernel), by decide⟩
theorem cv_AW_105 : CW WS "AreaWarnings" 105 mm_Te_byteCount 0 ∧ Cond.instanceMethod mm_Te_byteCount.1 ∈ WS ∧ Cond.selects "AreaWarnings$Texts" mm_Te_byteCount.1 mm_Te_byteCount.1 ∈ WS ∧ 7 < 100 := ⟨⟨Or.inl (in_at 119 (by decide +kernel)), in_at 122 (by decide +kernel), rfl, by decide +kernel, by decide, ⟨by decide +kernel, by decide +kernel⟩, by decide +kernel⟩, in_at 120 (by decide +kernel), in_at 121 (by decide +kernel), by decide⟩
theorem cv_AW_109 : CW WS "AreaWarnings" 109 mm_Ar_dropCorners 0 ∧ Cond.instanceMethod mm_Ar_dropCorners.1 ∈ WS ∧ Cond.selects "AreaWarnings$Area" mm_Ar_dropCorners.1 mm_Ar_dropCorners.1 ∈ WS ∧ 1 < 100 := ⟨⟨Or.inl (in_at 123 (by decide +kernel)), in_at 126 (by decide +kernel), rfl, by decide +kernel, by decide, ⟨by decide +kernel, by decide +kernel⟩, by decide +kernel⟩, in_at 124 (by decide +kernel), in_at 125 (by decide +kernel), by decide⟩
theorem cv_AW_112 : CW WS "AreaWarnings" 112 mm_Te_dropBytes 0 ∧ Cond.instanceMethod mm_Te_dropBytes.1 ∈ WS ∧ Cond.selects "AreaWarnings$Texts" mm_Te_dropBytes.1 mm_Te_dropBytes.1 ∈ WS ∧ 7 < 100 := ⟨⟨Or.inl (in_at 127 (by decide +kernel)), in_at 130 (by decide +kernel), rfl, by decide +kernel, by decide, ⟨by decide +kernel, by decide +kernel⟩, by decide +kernel⟩, in_at 128 (by decide +kernel), in_at 129 (by decide +kernel), by decide⟩
theorem cs_AW_115 : CW WS "AreaWarnings" 115 mm_AW_isSeverity 1 ∧ Cond.static mm_AW_isSeverity.1 ∈ WS ∧ Cond.initialized mm_AW_isSeverity.1.cls ∈ WS := ⟨⟨Or.inl (in_at 431 (by decide +kernel)), in_at 433 (by decide +kernel), rfl, by decide +kernel, by decide, ⟨by decide +kernel, by decide +kernel⟩, by decide +kernel⟩, in_at 432 (by decide +kernel), in_at 1 (by decide +kernel)⟩
theorem cs_AW_118 : CW WS "AreaWarnings" 118 mm_AW_isSpan 1 ∧ Cond.static mm_AW_isSpan.1 ∈ WS ∧ Cond.initialized mm_AW_isSpan.1.cls ∈ WS := ⟨⟨Or.inl (in_at 434 (by decide +kernel)), in_at 436 (by decide +kernel), rfl, by decide +kernel, by decide, ⟨by decide +kernel, by decide +kernel⟩, by decide +kernel⟩, in_at 435 (by decide +kernel), in_at 1 (by decide +kernel)⟩
theorem cv_AW_121 : CW WS "AreaWarnings" 121 mm_Me_canBeSpoken 0 ∧ Cond.instanceMethod mm_Me_canBeSpoken.1 ∈ WS ∧ Cond.selects "AreaWarnings$Message" mm_Me_canBeSpoken.1 mm_Me_canBeSpoken.1 ∈ WS ∧ 5 < 100 := ⟨⟨Or.inl (in_at 437 (by decide +kernel)), in_at 440 (by decide +kernel), rfl, by decide +kernel, by decide, ⟨by decide +kernel, by decide +kernel⟩, by decide +kernel⟩, in_at 438 (by decide +kernel), in_at 439 (by decide +kernel), by decide⟩
theorem cv_AW_128 : CW WS "AreaWarnings" 128 mm_AW_findWarning 1 ∧ Cond.instanceMethod mm_AW_findWarning.1 ∈ WS ∧ Cond.selects "AreaWarnings" mm_AW_findWarning.1 mm_AW_findWarning.1 ∈ WS ∧ 0 < 100 := ⟨⟨Or.inl (in_at 211 (by decide +kernel)), in_at 214 (by decide +kernel), rfl, by decide +kernel, by decide, ⟨by decide +kernel, by decide +kernel⟩, by decide +kernel⟩, in_at 213 (by decide +kernel), in_at 1130 (by decide +kernel), by decide⟩
theorem ci_AW_132 : CW WS "AreaWarnings" 132 mm_Wa_init 2 ∧ Cond.instanceMethod mm_Wa_init.1 ∈ WS ∧ mm_Wa_init.1.name = "<init>" ∧ mm_Wa_init.2.2.2.1 = none := ⟨⟨Or.inl (in_at 483 (by decide +kernel)), in_at 485 (by decide +kernel), rfl, by decide +kernel, by decide, ⟨by decide +kernel, by decide +kernel⟩, by decide +kernel⟩, in_at 484 (by decide +kernel), rfl, rfl⟩
theorem cv_AW_135 : CW WS "AreaWarnings" 135 mm_AW_insertById 1 ∧ Cond.instanceMethod mm_AW_insertById.1 ∈ WS ∧ Cond.selects "AreaWarnings" mm_AW_insertById.1 mm_AW_insertById.1 ∈ WS ∧ 0 < 100 := ⟨⟨Or.inl (in_at 502 (by decide +kernel)), in_at 505 (by decide +kernel), rfl, by decide +kernel, by decide, ⟨by decide +kernel, by decide +kernel⟩, by decide +kernel⟩, in_at 504 (by decide +kernel), in_at 1140 (by decide +kernel), by decide⟩
theorem ci_AW_139 : CW WS "AreaWarnings" 139 mm_Sp_init 6 ∧ Cond.instanceMethod mm_Sp_init.1 ∈ WS ∧ mm_Sp_init.1.name = "<init>" ∧ mm_Sp_init.2.2.2.1 = none := ⟨⟨Or.inl (in_at 507 (by decide +kernel)), in_at 509 (by decide +kernel), rfl, by decide +kernel, by decide, ⟨by decide +kernel, by decide +kernel⟩, by decide +kernel⟩, in_at 508 (by decide +kernel), rfl, rfl⟩
theorem cv_AW_142 : CW WS "AreaWarnings" 142 mm_AW_speak 2 ∧ Cond.instanceMethod mm_AW_speak.1 ∈ WS ∧ Cond.selects "AreaWarnings" mm_AW_speak.1 mm_AW_speak.1 ∈ WS ∧ 0 < 100 := ⟨⟨Or.inl (in_at 566 (by decide +kernel)), in_at 569 (by decide +kernel), rfl, by decide +kernel, by decide, ⟨by decide +kernel, by decide +kernel⟩, by decide +kernel⟩, in_at 568 (by decide +kernel), in_at 1141 (by decide +kernel), by decide⟩
theorem cv_AW_146 : CW WS "AreaWarnings" 146 mm_AW_findLive 1 ∧ Cond.instanceMethod mm_AW_findLive.1 ∈ WS ∧ Cond.selects "AreaWarnings" mm_AW_findLive.1 mm_AW_findLive.1 ∈ WS ∧ 0 < 100 := ⟨⟨Or.inl (in_at 577 (by decide +kernel)), in_at 580 (by decide +kernel), rfl, by decide +kernel, by decide, ⟨by decide +kernel, by decide +kernel⟩, by decide +kernel⟩, in_at 579 (by decide +kernel), in_at 1142 (by decide +kernel), by decide⟩
theorem ci_AW_159 : CW WS "AreaWarnings" 159 mm_Ca_init 3 ∧ Cond.instanceMethod mm_Ca_init.1 ∈ WS ∧ mm_Ca_init.1.name = "<init>" ∧ mm_Ca_init.2.2.2.1 = none := ⟨⟨Or.inl (in_at 590 (by decide +kernel)), in_at 592 (by decide +kernel), rfl, by decide +kernel, by decide, ⟨by decide +kernel, by decide +kernel⟩, by decide +kernel⟩, in_at 591 (by decide +kernel), rfl, rfl⟩
theorem cv_AW_169 : CW WS "AreaWarnings" 169 mm_Ce_makeListAnew 3 ∧ Cond.instanceMethod mm_Ce_makeListAnew.1 ∈ WS ∧ Cond.selects "AreaWarnings$Cell" mm_Ce_makeListAnew.1 mm_Ce_makeListAnew.1 ∈ WS ∧ 3 < 100 := ⟨⟨Or.inl (in_at 135 (by decide +kernel)), in_at 138 (by decide +kernel), rfl, by decide +kernel, by decide, ⟨by decide +kernel, by decide +kernel⟩, by decide +kernel⟩, in_at 136 (by decide +kernel), in_at 137 (by decide +kernel), by decide⟩
theorem cv_AW_173 : CW WS "AreaWarnings" 173 mm_Ce_dropEnded 1 ∧ Cond.instanceMethod mm_Ce_dropEnded.1 ∈ WS ∧ Cond.selects "AreaWarnings$Cell" mm_Ce_dropEnded.1 mm_Ce_dropEnded.1 ∈ WS ∧ 3 < 100 := ⟨⟨Or.inl (in_at 149 (by decide +kernel)), in_at 152 (by decide +kernel), rfl, by decide +kernel, by decide, ⟨by decide +kernel, by decide +kernel⟩, by decide +kernel⟩, in_at 150 (by decide +kernel), in_at 151 (by decide +kernel), by decide⟩
theorem cv_AW_177 : CW WS "AreaWarnings" 177 mm_Ce_sendPages 1 ∧ Cond.instanceMethod mm_Ce_sendPages.1 ∈ WS ∧ Cond.selects "AreaWarnings$Cell" mm_Ce_sendPages.1 mm_Ce_sendPages.1 ∈ WS ∧ 3 < 100 := ⟨⟨Or.inl (in_at 153 (by decide +kernel)), in_at 156 (by decide +kernel), rfl, by decide +kernel, by decide, ⟨by decide +kernel, by decide +kernel⟩, by decide +kernel⟩, in_at 154 (by decide +kernel), in_at 155 (by decide +kernel), by decide⟩
theorem cv_AW_186 : CW WS "AreaWarnings" 186 mm_AW_isCell 1 ∧ Cond.instanceMethod mm_AW_isCell.1 ∈ WS ∧ Cond.selects "AreaWarnings" mm_AW_isCell.1 mm_AW_isCell.1 ∈ WS ∧ 0 < 100 := ⟨⟨Or.inl (in_at 177 (by decide +kernel)), in_at 180 (by decide +kernel), rfl, by decide +kernel, by decide, ⟨by decide +kernel, by decide +kernel⟩, by decide +kernel⟩, in_at 179 (by decide +kernel), in_at 1126 (by decide +kernel), by decide⟩
theorem cv_AW_189 : CW WS "AreaWarnings" 189 mm_Ha_listen 2 ∧ Cond.instanceMethod mm_Ha_listen.1 ∈ WS ∧ Cond.selects "AreaWarnings$Handset" mm_Ha_listen.1 mm_Ha_listen.1 ∈ WS ∧ 4 < 100 := ⟨⟨Or.inl (in_at 181 (by decide +kernel)), in_at 184 (by decide +kernel), rfl, by decide +kernel, by decide, ⟨by decide +kernel, by decide +kernel⟩, by decide +kernel⟩, in_at 182 (by decide +kernel), in_at 183 (by decide +kernel), by decide⟩
theorem ci_AW_196 : CW WS "AreaWarnings" 196 mm_Ha_init 1 ∧ Cond.instanceMethod mm_Ha_init.1 ∈ WS ∧ mm_Ha_init.1.name = "<init>" ∧ mm_Ha_init.2.2.2.1 = none := ⟨⟨Or.inl (in_at 629 (by decide +kernel)), in_at 631 (by decide +kernel), rfl, by decide +kernel, by decide, ⟨by decide +kernel, by decide +kernel⟩, by decide +kernel⟩, in_at 630 (by decide +kernel), rfl, rfl⟩
theorem cv_AW_198 : CW WS "AreaWarnings" 198 mm_AW_isHandset 1 ∧ Cond.instanceMethod mm_AW_isHandset.1 ∈ WS ∧ Cond.selects "AreaWarnings" mm_AW_isHandset.1 mm_AW_isHandset.1 ∈ WS ∧ 0 < 100 := ⟨⟨Or.inl (in_at 690 (by decide +kernel)), in_at 693 (by decide +kernel), rfl, by decide +kernel, by decide, ⟨by decide +kernel, by decide +kernel⟩, by decide +kernel⟩, in_at 692 (by decide +kernel), in_at 1143 (by decide +kernel), by decide⟩
theorem cv_AW_204 : CW WS "AreaWarnings" 204 mm_Ha_addLiked 1 ∧ Cond.instanceMethod mm_Ha_addLiked.1 ∈ WS ∧ Cond.selects "AreaWarnings$Handset" mm_Ha_addLiked.1 mm_Ha_addLiked.1 ∈ WS ∧ 4 < 100 := ⟨⟨Or.inl (in_at 694 (by decide +kernel)), in_at 697 (by decide +kernel), rfl, by decide +kernel, by decide, ⟨by decide +kernel, by decide +kernel⟩, by decide +kernel⟩, in_at 695 (by decide +kernel), in_at 696 (by decide +kernel), by decide⟩
theorem cv_AW_238 : CW WS "AreaWarnings" 238 mm_Ce_bytesOfPage 1 ∧ Cond.instanceMethod mm_Ce_bytesOfPage.1 ∈ WS ∧ Cond.selects "AreaWarnings$Cell" mm_Ce_bytesOfPage.1 mm_Ce_bytesOfPage.1 ∈ WS ∧ 3 < 100 := ⟨⟨Or.inl (in_at 733 (by decide +kernel)), in_at 736 (by decide +kernel), rfl, by decide +kernel, by decide, ⟨by decide +kernel, by decide +kernel⟩, by decide +kernel⟩, in_at 734 (by decide +kernel), in_at 735 (by decide +kernel), by decide⟩
theorem cv_AW_256 : CW WS "AreaWarnings" 256 mm_Ha_isCurrent 2 ∧ Cond.instanceMethod mm_Ha_isCurrent.1 ∈ WS ∧ Cond.selects "AreaWarnings$Handset" mm_Ha_isCurrent.1 mm_Ha_isCurrent.1 ∈ WS ∧ 4 < 100 := ⟨⟨Or.inl (in_at 749 (by decide +kernel)), in_at 752 (by decide +kernel), rfl, by decide +kernel, by decide, ⟨by decide +kernel, by decide +kernel⟩, by decide +kernel⟩, in_at 750 (by decide +kernel), in_at 751 (by decide +kernel), by decide⟩
theorem cv_AW_260 : CW WS "AreaWarnings" 260 mm_Ha_bytesOfShown 1 ∧ Cond.instanceMethod mm_Ha_bytesOfShown.1 ∈ WS ∧ Cond.selects "AreaWarnings$Handset" mm_Ha_bytesOfShown.1 mm_Ha_bytesOfShown.1 ∈ WS ∧ 4 < 100 := ⟨⟨Or.inl (in_at 753 (by decide +kernel)), in_at 756 (by decide +kernel), rfl, by decide +kernel, by decide, ⟨by decide +kernel, by decide +kernel⟩, by decide +kernel⟩, in_at 754 (by decide +kernel), in_at 755 (by decide +kernel), by decide⟩
theorem ob_Ar_3 : Cond.methodLink "AreaWarnings$Area" 3 Lib.objectInit ∈ WS ∧ Cond.instanceMethod Lib.objectInit ∈ WS ∧ Cond.code Lib.objectInit ⟨#[0xb1]⟩ 1 none ∈ WS := ⟨in_at 45 (by decide +kernel), in_at 26 (by decide +kernel), in_at 27 (by decide +kernel)⟩
theorem cv_Ar_22 : CW WS "AreaWarnings$Area" 22 mm_Ar_sidesClash 2 ∧ Cond.instanceMethod mm_Ar_sidesClash.1 ∈ WS ∧ Cond.selects "AreaWarnings$Area" mm_Ar_sidesClash.1 mm_Ar_sidesClash.1 ∈ WS ∧ 1 < 100 := ⟨⟨Or.inl (in_at 446 (by decide +kernel)), in_at 449 (by decide +kernel), rfl, by decide +kernel, by decide, ⟨by decide +kernel, by decide +kernel⟩, by decide +kernel⟩, in_at 448 (by decide +kernel), in_at 1137 (by decide +kernel), by decide⟩
theorem cv_Ar_26 : CW WS "AreaWarnings$Area" 26 mm_Ar_sideReaches 4 ∧ Cond.instanceMethod mm_Ar_sideReaches.1 ∈ WS ∧ Cond.selects "AreaWarnings$Area" mm_Ar_sideReaches.1 mm_Ar_sideReaches.1 ∈ WS ∧ 1 < 100 := ⟨⟨Or.inl (in_at 378 (by decide +kernel)), in_at 381 (by decide +kernel), rfl, by decide +kernel, by decide, ⟨by decide +kernel, by decide +kernel⟩, by decide +kernel⟩, in_at 380 (by decide +kernel), in_at 1132 (by decide +kernel), by decide⟩
theorem cv_Ar_30 : CW WS "AreaWarnings$Area" 30 mm_Ar_surrounds 2 ∧ Cond.instanceMethod mm_Ar_surrounds.1 ∈ WS ∧ Cond.selects "AreaWarnings$Area" mm_Ar_surrounds.1 mm_Ar_surrounds.1 ∈ WS ∧ 1 < 100 := ⟨⟨Or.inl (in_at 394 (by decide +kernel)), in_at 397 (by decide +kernel), rfl, by decide +kernel, by decide, ⟨by decide +kernel, by decide +kernel⟩, by decide +kernel⟩, in_at 396 (by decide +kernel), in_at 1136 (by decide +kernel), by decide⟩
theorem cv_Ar_33 : CW WS "AreaWarnings$Area" 33 mm_Ar_next 1 ∧ Cond.instanceMethod mm_Ar_next.1 ∈ WS ∧ Cond.selects "AreaWarnings$Area" mm_Ar_next.1 mm_Ar_next.1 ∈ WS ∧ 1 < 100 := ⟨⟨Or.inl (in_at 382 (by decide +kernel)), in_at 385 (by decide +kernel), rfl, by decide +kernel, by decide, ⟨by decide +kernel, by decide +kernel⟩, by decide +kernel⟩, in_at 384 (by decide +kernel), in_at 1133 (by decide +kernel), by decide⟩
theorem cv_Ar_37 : CW WS "AreaWarnings$Area" 37 mm_Ar_foldsBack 3 ∧ Cond.instanceMethod mm_Ar_foldsBack.1 ∈ WS ∧ Cond.selects "AreaWarnings$Area" mm_Ar_foldsBack.1 mm_Ar_foldsBack.1 ∈ WS ∧ 1 < 100 := ⟨⟨Or.inl (in_at 450 (by decide +kernel)), in_at 453 (by decide +kernel), rfl, by decide +kernel, by decide, ⟨by decide +kernel, by decide +kernel⟩, by decide +kernel⟩, in_at 452 (by decide +kernel), in_at 1138 (by decide +kernel), by decide⟩
theorem cv_Ar_41 : CW WS "AreaWarnings$Area" 41 mm_Ar_sidesMeet 2 ∧ Cond.instanceMethod mm_Ar_sidesMeet.1 ∈ WS ∧ Cond.selects "AreaWarnings$Area" mm_Ar_sidesMeet.1 mm_Ar_sidesMeet.1 ∈ WS ∧ 1 < 100 := ⟨⟨Or.inl (in_at 454 (by decide +kernel)), in_at 457 (by decide +kernel), rfl, by decide +kernel, by decide, ⟨by decide +kernel, by decide +kernel⟩, by decide +kernel⟩, in_at 456 (by decide +kernel), in_at 1139 (by decide +kernel), by decide⟩
theorem cs_Ar_44 : CW WS "AreaWarnings$Area" 44 mm_Ar_rangesMeet 4 ∧ Cond.static mm_Ar_rangesMeet.1 ∈ WS ∧ Cond.initialized mm_Ar_rangesMeet.1.cls ∈ WS := ⟨⟨Or.inl (in_at 458 (by decide +kernel)), in_at 460 (by decide +kernel), rfl, by decide +kernel, by decide, ⟨by decide +kernel, by decide +kernel⟩, by decide +kernel⟩, in_at 459 (by decide +kernel), in_at 3 (by decide +kernel)⟩
theorem cv_Ar_47 : CW WS "AreaWarnings$Area" 47 mm_Ar_turn 3 ∧ Cond.instanceMethod mm_Ar_turn.1 ∈ WS ∧ Cond.selects "AreaWarnings$Area" mm_Ar_turn.1 mm_Ar_turn.1 ∈ WS ∧ 1 < 100 := ⟨⟨Or.inl (in_at 390 (by decide +kernel)), in_at 393 (by decide +kernel), rfl, by decide +kernel, by decide, ⟨by decide +kernel, by decide +kernel⟩, by decide +kernel⟩, in_at 392 (by decide +kernel), in_at 1135 (by decide +kernel), by decide⟩
theorem ma_Ar_51 : MX WS "AreaWarnings$Area" 51 := ⟨in_at 461 (by decide +kernel), in_at 462 (by decide +kernel), in_at 12 (by decide +kernel), in_at 463 (by decide +kernel)⟩
theorem ma_Ar_57 : MN WS "AreaWarnings$Area" 57 := ⟨in_at 464 (by decide +kernel), in_at 465 (by decide +kernel), in_at 12 (by decide +kernel), in_at 466 (by decide +kernel)⟩
theorem cv_Ar_60 : CW WS "AreaWarnings$Area" 60 mm_Ar_squareToCorner 3 ∧ Cond.instanceMethod mm_Ar_squareToCorner.1 ∈ WS ∧ Cond.selects "AreaWarnings$Area" mm_Ar_squareToCorner.1 mm_Ar_squareToCorner.1 ∈ WS ∧ 1 < 100 := ⟨⟨Or.inl (in_at 386 (by decide +kernel)), in_at 389 (by decide +kernel), rfl, by decide +kernel, by decide, ⟨by decide +kernel, by decide +kernel⟩, by decide +kernel⟩, in_at 388 (by decide +kernel), in_at 1134 (by decide +kernel), by decide⟩
theorem ci_Ca_1 : CW WS "AreaWarnings$Cancel" 1 mm_Ve_init 3 ∧ Cond.instanceMethod mm_Ve_init.1 ∈ WS ∧ mm_Ve_init.1.name = "<init>" ∧ mm_Ve_init.2.2.2.1 = none := ⟨⟨Or.inl (in_at 593 (by decide +kernel)), in_at 512 (by decide +kernel), rfl, by decide +kernel, by decide, ⟨by decide +kernel, by decide +kernel⟩, by decide +kernel⟩, in_at 511 (by decide +kernel), rfl, rfl⟩
theorem ob_Ce_3 : Cond.methodLink "AreaWarnings$Cell" 3 Lib.objectInit ∈ WS ∧ Cond.instanceMethod Lib.objectInit ∈ WS ∧ Cond.code Lib.objectInit ⟨#[0xb1]⟩ 1 none ∈ WS := ⟨in_at 313 (by decide +kernel), in_at 26 (by decide +kernel), in_at 27 (by decide +kernel)⟩
theorem cv_Ce_62 : CW WS "AreaWarnings$Cell" 62 mm_Ce_belongsHere 1 ∧ Cond.instanceMethod mm_Ce_belongsHere.1 ∈ WS ∧ Cond.selects "AreaWarnings$Cell" mm_Ce_belongsHere.1 mm_Ce_belongsHere.1 ∈ WS ∧ 3 < 100 := ⟨⟨Or.inl (in_at 139 (by decide +kernel)), in_at 143 (by decide +kernel), rfl, by decide +kernel, by decide, ⟨by decide +kernel, by decide +kernel⟩, by decide +kernel⟩, in_at 141 (by decide +kernel), in_at 1121 (by decide +kernel), by decide⟩
theorem cv_Ce_76 : CW WS "AreaWarnings$Cell" 76 mm_Ce_listsWarning 1 ∧ Cond.instanceMethod mm_Ce_listsWarning.1 ∈ WS ∧ Cond.selects "AreaWarnings$Cell" mm_Ce_listsWarning.1 mm_Ce_listsWarning.1 ∈ WS ∧ 3 < 100 := ⟨⟨Or.inl (in_at 145 (by decide +kernel)), in_at 148 (by decide +kernel), rfl, by decide +kernel, by decide, ⟨by decide +kernel, by decide +kernel⟩, by decide +kernel⟩, in_at 147 (by decide +kernel), in_at 1122 (by decide +kernel), by decide⟩
theorem cv_Ce_83 : CW WS "AreaWarnings$Cell" 83 mm_Ce_sendVersion 2 ∧ Cond.instanceMethod mm_Ce_sendVersion.1 ∈ WS ∧ Cond.selects "AreaWarnings$Cell" mm_Ce_sendVersion.1 mm_Ce_sendVersion.1 ∈ WS ∧ 3 < 100 := ⟨⟨Or.inl (in_at 157 (by decide +kernel)), in_at 160 (by decide +kernel), rfl, by decide +kernel, by decide, ⟨by decide +kernel, by decide +kernel⟩, by decide +kernel⟩, in_at 159 (by decide +kernel), in_at 1123 (by decide +kernel), by decide⟩
theorem cv_Ce_87 : CW WS "AreaWarnings$Cell" 87 mm_Sp_isDue 1 ∧ Cond.instanceMethod mm_Sp_isDue.1 ∈ WS ∧ Cond.selects "AreaWarnings$Spoken" mm_Sp_isDue.1 mm_Sp_isDue.1 ∈ WS ∧ 6 < 100 := ⟨⟨Or.inl (in_at 161 (by decide +kernel)), in_at 164 (by decide +kernel), rfl, by decide +kernel, by decide, ⟨by decide +kernel, by decide +kernel⟩, by decide +kernel⟩, in_at 162 (by decide +kernel), in_at 163 (by decide +kernel), by decide⟩
theorem cv_Ce_91 : CW WS "AreaWarnings$Cell" 91 mm_Ce_sendTexts 1 ∧ Cond.instanceMethod mm_Ce_sendTexts.1 ∈ WS ∧ Cond.selects "AreaWarnings$Cell" mm_Ce_sendTexts.1 mm_Ce_sendTexts.1 ∈ WS ∧ 3 < 100 := ⟨⟨Or.inl (in_at 165 (by decide +kernel)), in_at 168 (by decide +kernel), rfl, by decide +kernel, by decide, ⟨by decide +kernel, by decide +kernel⟩, by decide +kernel⟩, in_at 167 (by decide +kernel), in_at 1124 (by decide +kernel), by decide⟩
theorem cv_Ce_95 : CW WS "AreaWarnings$Cell" 95 mm_Ce_sendPage 3 ∧ Cond.instanceMethod mm_Ce_sendPage.1 ∈ WS ∧ Cond.selects "AreaWarnings$Cell" mm_Ce_sendPage.1 mm_Ce_sendPage.1 ∈ WS ∧ 3 < 100 := ⟨⟨Or.inl (in_at 173 (by decide +kernel)), in_at 176 (by decide +kernel), rfl, by decide +kernel, by decide, ⟨by decide +kernel, by decide +kernel⟩, by decide +kernel⟩, in_at 175 (by decide +kernel), in_at 1125 (by decide +kernel), by decide⟩
theorem cv_Ce_103 : CW WS "AreaWarnings$Cell" 103 mm_Te_pagesOf 1 ∧ Cond.instanceMethod mm_Te_pagesOf.1 ∈ WS ∧ Cond.selects "AreaWarnings$Texts" mm_Te_pagesOf.1 mm_Te_pagesOf.1 ∈ WS ∧ 7 < 100 := ⟨⟨Or.inl (in_at 169 (by decide +kernel)), in_at 172 (by decide +kernel), rfl, by decide +kernel, by decide, ⟨by decide +kernel, by decide +kernel⟩, by decide +kernel⟩, in_at 170 (by decide +kernel), in_at 171 (by decide +kernel), by decide⟩
theorem cv_Ce_109 : CW WS "AreaWarnings$Cell" 109 mm_Te_bytesOfPage 2 ∧ Cond.instanceMethod mm_Te_bytesOfPage.1 ∈ WS ∧ Cond.selects "AreaWarnings$Texts" mm_Te_bytesOfPage.1 mm_Te_bytesOfPage.1 ∈ WS ∧ 7 < 100 := ⟨⟨Or.inl (in_at 737 (by decide +kernel)), in_at 740 (by decide +kernel), rfl, by decide +kernel, by decide, ⟨by decide +kernel, by decide +kernel⟩, by decide +kernel⟩, in_at 738 (by decide +kernel), in_at 739 (by decide +kernel), by decide⟩
theorem ob_Ha_3 : Cond.methodLink "AreaWarnings$Handset" 3 Lib.objectInit ∈ WS ∧ Cond.instanceMethod Lib.objectInit ∈ WS ∧ Cond.code Lib.objectInit ⟨#[0xb1]⟩ 1 none ∈ WS := ⟨in_at 632 (by decide +kernel), in_at 26 (by decide +kernel), in_at 27 (by decide +kernel)⟩
theorem cv_Ha_73 : CW WS "AreaWarnings$Handset" 73 mm_Ha_hear 4 ∧ Cond.instanceMethod mm_Ha_hear.1 ∈ WS ∧ Cond.selects "AreaWarnings$Handset" mm_Ha_hear.1 mm_Ha_hear.1 ∈ WS ∧ 4 < 100 := ⟨⟨Or.inl (in_at 185 (by decide +kernel)), in_at 189 (by decide +kernel), rfl, by decide +kernel, by decide, ⟨by decide +kernel, by decide +kernel⟩, by decide +kernel⟩, in_at 187 (by decide +kernel), in_at 1127 (by decide +kernel), by decide⟩
theorem cs_Ha_89 : CW WS "AreaWarnings$Handset" 89 mm_Ha_pageBits 2 ∧ Cond.static mm_Ha_pageBits.1 ∈ WS ∧ Cond.initialized mm_Ha_pageBits.1.cls ∈ WS := ⟨⟨Or.inl (in_at 191 (by decide +kernel)), in_at 193 (by decide +kernel), rfl, by decide +kernel, by decide, ⟨by decide +kernel, by decide +kernel⟩, by decide +kernel⟩, in_at 192 (by decide +kernel), in_at 18 (by decide +kernel)⟩
theorem cv_Ha_93 : CW WS "AreaWarnings$Handset" 93 mm_Ha_showIfWhole 2 ∧ Cond.instanceMethod mm_Ha_showIfWhole.1 ∈ WS ∧ Cond.selects "AreaWarnings$Handset" mm_Ha_showIfWhole.1 mm_Ha_showIfWhole.1 ∈ WS ∧ 4 < 100 := ⟨⟨Or.inl (in_at 194 (by decide +kernel)), in_at 197 (by decide +kernel), rfl, by decide +kernel, by decide, ⟨by decide +kernel, by decide +kernel⟩, by decide +kernel⟩, in_at 196 (by decide +kernel), in_at 1128 (by decide +kernel), by decide⟩
theorem cv_Ha_102 : CW WS "AreaWarnings$Handset" 102 mm_Ha_choose 1 ∧ Cond.instanceMethod mm_Ha_choose.1 ∈ WS ∧ Cond.selects "AreaWarnings$Handset" mm_Ha_choose.1 mm_Ha_choose.1 ∈ WS ∧ 4 < 100 := ⟨⟨Or.inl (in_at 198 (by decide +kernel)), in_at 201 (by decide +kernel), rfl, by decide +kernel, by decide, ⟨by decide +kernel, by decide +kernel⟩, by decide +kernel⟩, in_at 200 (by decide +kernel), in_at 1129 (by decide +kernel), by decide⟩
theorem cv_Ha_106 : CW WS "AreaWarnings$Handset" 106 mm_Te_pagesOf 1 ∧ Cond.instanceMethod mm_Te_pagesOf.1 ∈ WS ∧ Cond.selects "AreaWarnings$Texts" mm_Te_pagesOf.1 mm_Te_pagesOf.1 ∈ WS ∧ 7 < 100 := ⟨⟨Or.inl (in_at 206 (by decide +kernel)), in_at 172 (by decide +kernel), rfl, by decide +kernel, by decide, ⟨by decide +kernel, by decide +kernel⟩, by decide +kernel⟩, in_at 170 (by decide +kernel), in_at 171 (by decide +kernel), by decide⟩
theorem cv_Ha_115 : CW WS "AreaWarnings$Handset" 115 mm_Te_offers 1 ∧ Cond.instanceMethod mm_Te_offers.1 ∈ WS ∧ Cond.selects "AreaWarnings$Texts" mm_Te_offers.1 mm_Te_offers.1 ∈ WS ∧ 7 < 100 := ⟨⟨Or.inl (in_at 202 (by decide +kernel)), in_at 205 (by decide +kernel), rfl, by decide +kernel, by decide, ⟨by decide +kernel, by decide +kernel⟩, by decide +kernel⟩, in_at 203 (by decide +kernel), in_at 204 (by decide +kernel), by decide⟩
theorem ob_Me_1 : Cond.methodLink "AreaWarnings$Message" 1 Lib.objectInit ∈ WS ∧ Cond.instanceMethod Lib.objectInit ∈ WS ∧ Cond.code Lib.objectInit ⟨#[0xb1]⟩ 1 none ∈ WS := ⟨in_at 39 (by decide +kernel), in_at 26 (by decide +kernel), in_at 27 (by decide +kernel)⟩
theorem ci_Me_9 : CW WS "AreaWarnings$Message" 9 mm_Ar_init 0 ∧ Cond.instanceMethod mm_Ar_init.1 ∈ WS ∧ mm_Ar_init.1.name = "<init>" ∧ mm_Ar_init.2.2.2.1 = none := ⟨⟨Or.inl (in_at 42 (by decide +kernel)), in_at 44 (by decide +kernel), rfl, by decide +kernel, by decide, ⟨by decide +kernel, by decide +kernel⟩, by decide +kernel⟩, in_at 43 (by decide +kernel), rfl, rfl⟩
theorem ci_Me_18 : CW WS "AreaWarnings$Message" 18 mm_Te_init 0 ∧ Cond.instanceMethod mm_Te_init.1 ∈ WS ∧ mm_Te_init.1.name = "<init>" ∧ mm_Te_init.2.2.2.1 = none := ⟨⟨Or.inl (in_at 60 (by decide +kernel)), in_at 62 (by decide +kernel), rfl, by decide +kernel, by decide, ⟨by decide +kernel, by decide +kernel⟩, by decide +kernel⟩, in_at 61 (by decide +kernel), rfl, rfl⟩
theorem cv_Me_23 : CW WS "AreaWarnings$Message" 23 mm_Te_byteCount 0 ∧ Cond.instanceMethod mm_Te_byteCount.1 ∈ WS ∧ Cond.selects "AreaWarnings$Texts" mm_Te_byteCount.1 mm_Te_byteCount.1 ∈ WS ∧ 7 < 100 := ⟨⟨Or.inl (in_at 441 (by decide +kernel)), in_at 122 (by decide +kernel), rfl, by decide +kernel, by decide, ⟨by decide +kernel, by decide +kernel⟩, by decide +kernel⟩, in_at 120 (by decide +kernel), in_at 121 (by decide +kernel), by decide⟩
theorem cv_Me_27 : CW WS "AreaWarnings$Message" 27 mm_Ar_isSimple 0 ∧ Cond.instanceMethod mm_Ar_isSimple.1 ∈ WS ∧ Cond.selects "AreaWarnings$Area" mm_Ar_isSimple.1 mm_Ar_isSimple.1 ∈ WS ∧ 1 < 100 := ⟨⟨Or.inl (in_at 442 (by decide +kernel)), in_at 445 (by decide +kernel), rfl, by decide +kernel, by decide, ⟨by decide +kernel, by decide +kernel⟩, by decide +kernel⟩, in_at 443 (by decide +kernel), in_at 444 (by decide +kernel), by decide⟩
theorem ci_Sp_3 : CW WS "AreaWarnings$Spoken" 3 mm_Ve_init 3 ∧ Cond.instanceMethod mm_Ve_init.1 ∈ WS ∧ mm_Ve_init.1.name = "<init>" ∧ mm_Ve_init.2.2.2.1 = none := ⟨⟨Or.inl (in_at 510 (by decide +kernel)), in_at 512 (by decide +kernel), rfl, by decide +kernel, by decide, ⟨by decide +kernel, by decide +kernel⟩, by decide +kernel⟩, in_at 511 (by decide +kernel), rfl, rfl⟩
theorem cv_Sp_48 : CW WS "AreaWarnings$Spoken" 48 mm_Ar_reaches 3 ∧ Cond.instanceMethod mm_Ar_reaches.1 ∈ WS ∧ Cond.selects "AreaWarnings$Area" mm_Ar_reaches.1 mm_Ar_reaches.1 ∈ WS ∧ 1 < 100 := ⟨⟨Or.inl (in_at 374 (by decide +kernel)), in_at 377 (by decide +kernel), rfl, by decide +kernel, by decide, ⟨by decide +kernel, by decide +kernel⟩, by decide +kernel⟩, in_at 375 (by decide +kernel), in_at 376 (by decide +kernel), by decide⟩
theorem ob_Te_3 : Cond.methodLink "AreaWarnings$Texts" 3 Lib.objectInit ∈ WS ∧ Cond.instanceMethod Lib.objectInit ∈ WS ∧ Cond.code Lib.objectInit ⟨#[0xb1]⟩ 1 none ∈ WS := ⟨in_at 63 (by decide +kernel), in_at 26 (by decide +kernel), in_at 27 (by decide +kernel)⟩
theorem ma_Te_20 : MN WS "AreaWarnings$Texts" 20 := ⟨in_at 741 (by decide +kernel), in_at 465 (by decide +kernel), in_at 12 (by decide +kernel), in_at 466 (by decide +kernel)⟩
theorem ob_Ve_1 : Cond.methodLink "AreaWarnings$Version" 1 Lib.objectInit ∈ WS ∧ Cond.instanceMethod Lib.objectInit ∈ WS ∧ Cond.code Lib.objectInit ⟨#[0xb1]⟩ 1 none ∈ WS := ⟨in_at 513 (by decide +kernel), in_at 26 (by decide +kernel), in_at 27 (by decide +kernel)⟩
theorem ob_Wa_1 : Cond.methodLink "AreaWarnings$Warning" 1 Lib.objectInit ∈ WS ∧ Cond.instanceMethod Lib.objectInit ∈ WS ∧ Cond.code Lib.objectInit ⟨#[0xb1]⟩ 1 none ∈ WS := ⟨in_at 486 (by decide +kernel), in_at 26 (by decide +kernel), in_at 27 (by decide +kernel)⟩
theorem cv_La_7 : CW WS "AreaWarningsLaw" 7 mm_AW_cell 3 ∧ Cond.instanceMethod mm_AW_cell.1 ∈ WS ∧ Cond.selects "AreaWarnings" mm_AW_cell.1 mm_AW_cell.1 ∈ WS ∧ 0 < 100 := ⟨⟨Or.inl (in_at 224 (by decide +kernel)), in_at 227 (by decide +kernel), rfl, by decide +kernel, by decide, ⟨by decide +kernel, by decide +kernel⟩, by decide +kernel⟩, in_at 225 (by decide +kernel), in_at 226 (by decide +kernel), by decide⟩
theorem cv_La_17 : CW WS "AreaWarningsLaw" 17 mm_AW_corner 2 ∧ Cond.instanceMethod mm_AW_corner.1 ∈ WS ∧ Cond.selects "AreaWarnings" mm_AW_corner.1 mm_AW_corner.1 ∈ WS ∧ 0 < 100 := ⟨⟨Or.inl (in_at 401 (by decide +kernel)), in_at 404 (by decide +kernel), rfl, by decide +kernel, by decide, ⟨by decide +kernel, by decide +kernel⟩, by decide +kernel⟩, in_at 402 (by decide +kernel), in_at 403 (by decide +kernel), by decide⟩
theorem cv_La_21 : CW WS "AreaWarningsLaw" 21 mm_AW_text 2 ∧ Cond.instanceMethod mm_AW_text.1 ∈ WS ∧ Cond.selects "AreaWarnings" mm_AW_text.1 mm_AW_text.1 ∈ WS ∧ 0 < 100 := ⟨⟨Or.inl (in_at 412 (by decide +kernel)), in_at 415 (by decide +kernel), rfl, by decide +kernel, by decide, ⟨by decide +kernel, by decide +kernel⟩, by decide +kernel⟩, in_at 413 (by decide +kernel), in_at 414 (by decide +kernel), by decide⟩
theorem cv_La_24 : CW WS "AreaWarningsLaw" 24 mm_AW_issue 5 ∧ Cond.instanceMethod mm_AW_issue.1 ∈ WS ∧ Cond.selects "AreaWarnings" mm_AW_issue.1 mm_AW_issue.1 ∈ WS ∧ 0 < 100 := ⟨⟨Or.inl (in_at 427 (by decide +kernel)), in_at 430 (by decide +kernel), rfl, by decide +kernel, by decide, ⟨by decide +kernel, by decide +kernel⟩, by decide +kernel⟩, in_at 428 (by decide +kernel), in_at 429 (by decide +kernel), by decide⟩
theorem cv_La_30 : CW WS "AreaWarningsLaw" 30 mm_AW_update 4 ∧ Cond.instanceMethod mm_AW_update.1 ∈ WS ∧ Cond.selects "AreaWarnings" mm_AW_update.1 mm_AW_update.1 ∈ WS ∧ 0 < 100 := ⟨⟨Or.inl (in_at 573 (by decide +kernel)), in_at 576 (by decide +kernel), rfl, by decide +kernel, by decide, ⟨by decide +kernel, by decide +kernel⟩, by decide +kernel⟩, in_at 574 (by decide +kernel), in_at 575 (by decide +kernel), by decide⟩
theorem cv_La_34 : CW WS "AreaWarningsLaw" 34 mm_AW_cancel 1 ∧ Cond.instanceMethod mm_AW_cancel.1 ∈ WS ∧ Cond.selects "AreaWarnings" mm_AW_cancel.1 mm_AW_cancel.1 ∈ WS ∧ 0 < 100 := ⟨⟨Or.inl (in_at 585 (by decide +kernel)), in_at 588 (by decide +kernel), rfl, by decide +kernel, by decide, ⟨by decide +kernel, by decide +kernel⟩, by decide +kernel⟩, in_at 586 (by decide +kernel), in_at 587 (by decide +kernel), by decide⟩
theorem cv_La_38 : CW WS "AreaWarningsLaw" 38 mm_AW_line 2 ∧ Cond.instanceMethod mm_AW_line.1 ∈ WS ∧ Cond.selects "AreaWarnings" mm_AW_line.1 mm_AW_line.1 ∈ WS ∧ 0 < 100 := ⟨⟨Or.inl (in_at 603 (by decide +kernel)), in_at 606 (by decide +kernel), rfl, by decide +kernel, by decide, ⟨by decide +kernel, by decide +kernel⟩, by decide +kernel⟩, in_at 604 (by decide +kernel), in_at 605 (by decide +kernel), by decide⟩
theorem cv_La_44 : CW WS "AreaWarningsLaw" 44 mm_AW_handset 1 ∧ Cond.instanceMethod mm_AW_handset.1 ∈ WS ∧ Cond.selects "AreaWarnings" mm_AW_handset.1 mm_AW_handset.1 ∈ WS ∧ 0 < 100 := ⟨⟨Or.inl (in_at 625 (by decide +kernel)), in_at 628 (by decide +kernel), rfl, by decide +kernel, by decide, ⟨by decide +kernel, by decide +kernel⟩, by decide +kernel⟩, in_at 626 (by decide +kernel), in_at 627 (by decide +kernel), by decide⟩
theorem cv_La_47 : CW WS "AreaWarningsLaw" 47 mm_AW_likes 2 ∧ Cond.instanceMethod mm_AW_likes.1 ∈ WS ∧ Cond.selects "AreaWarnings" mm_AW_likes.1 mm_AW_likes.1 ∈ WS ∧ 0 < 100 := ⟨⟨Or.inl (in_at 686 (by decide +kernel)), in_at 689 (by decide +kernel), rfl, by decide +kernel, by decide, ⟨by decide +kernel, by decide +kernel⟩, by decide +kernel⟩, in_at 687 (by decide +kernel), in_at 688 (by decide +kernel), by decide⟩
theorem cv_La_50 : CW WS "AreaWarningsLaw" 50 mm_AW_camp 2 ∧ Cond.instanceMethod mm_AW_camp.1 ∈ WS ∧ Cond.selects "AreaWarnings" mm_AW_camp.1 mm_AW_camp.1 ∈ WS ∧ 0 < 100 := ⟨⟨Or.inl (in_at 701 (by decide +kernel)), in_at 704 (by decide +kernel), rfl, by decide +kernel, by decide, ⟨by decide +kernel, by decide +kernel⟩, by decide +kernel⟩, in_at 702 (by decide +kernel), in_at 703 (by decide +kernel), by decide⟩
theorem cv_La_53 : CW WS "AreaWarningsLaw" 53 mm_AW_miss 2 ∧ Cond.instanceMethod mm_AW_miss.1 ∈ WS ∧ Cond.selects "AreaWarnings" mm_AW_miss.1 mm_AW_miss.1 ∈ WS ∧ 0 < 100 := ⟨⟨Or.inl (in_at 708 (by decide +kernel)), in_at 711 (by decide +kernel), rfl, by decide +kernel, by decide, ⟨by decide +kernel, by decide +kernel⟩, by decide +kernel⟩, in_at 709 (by decide +kernel), in_at 710 (by decide +kernel), by decide⟩
theorem cv_La_56 : CW WS "AreaWarningsLaw" 56 mm_AW_covers 2 ∧ Cond.instanceMethod mm_AW_covers.1 ∈ WS ∧ Cond.selects "AreaWarnings" mm_AW_covers.1 mm_AW_covers.1 ∈ WS ∧ 0 < 100 := ⟨⟨Or.inl (in_at 715 (by decide +kernel)), in_at 718 (by decide +kernel), rfl, by decide +kernel, by decide, ⟨by decide +kernel, by decide +kernel⟩, by decide +kernel⟩, in_at 716 (by decide +kernel), in_at 717 (by decide +kernel), by decide⟩
theorem cv_La_60 : CW WS "AreaWarningsLaw" 60 mm_AW_listed 3 ∧ Cond.instanceMethod mm_AW_listed.1 ∈ WS ∧ Cond.selects "AreaWarnings" mm_AW_listed.1 mm_AW_listed.1 ∈ WS ∧ 0 < 100 := ⟨⟨Or.inl (in_at 722 (by decide +kernel)), in_at 725 (by decide +kernel), rfl, by decide +kernel, by decide, ⟨by decide +kernel, by decide +kernel⟩, by decide +kernel⟩, in_at 723 (by decide +kernel), in_at 724 (by decide +kernel), by decide⟩
theorem cv_La_63 : CW WS "AreaWarningsLaw" 63 mm_AW_sent 3 ∧ Cond.instanceMethod mm_AW_sent.1 ∈ WS ∧ Cond.selects "AreaWarnings" mm_AW_sent.1 mm_AW_sent.1 ∈ WS ∧ 0 < 100 := ⟨⟨Or.inl (in_at 729 (by decide +kernel)), in_at 732 (by decide +kernel), rfl, by decide +kernel, by decide, ⟨by decide +kernel, by decide +kernel⟩, by decide +kernel⟩, in_at 730 (by decide +kernel), in_at 731 (by decide +kernel), by decide⟩
theorem cv_La_66 : CW WS "AreaWarningsLaw" 66 mm_AW_shown 3 ∧ Cond.instanceMethod mm_AW_shown.1 ∈ WS ∧ Cond.selects "AreaWarnings" mm_AW_shown.1 mm_AW_shown.1 ∈ WS ∧ 0 < 100 := ⟨⟨Or.inl (in_at 745 (by decide +kernel)), in_at 748 (by decide +kernel), rfl, by decide +kernel, by decide, ⟨by decide +kernel, by decide +kernel⟩, by decide +kernel⟩, in_at 746 (by decide +kernel), in_at 747 (by decide +kernel), by decide⟩
theorem cv_La_69 : CW WS "AreaWarningsLaw" 69 mm_AW_shownByte 3 ∧ Cond.instanceMethod mm_AW_shownByte.1 ∈ WS ∧ Cond.selects "AreaWarnings" mm_AW_shownByte.1 mm_AW_shownByte.1 ∈ WS ∧ 0 < 100 := ⟨⟨Or.inl (in_at 760 (by decide +kernel)), in_at 763 (by decide +kernel), rfl, by decide +kernel, by decide, ⟨by decide +kernel, by decide +kernel⟩, by decide +kernel⟩, in_at 761 (by decide +kernel), in_at 762 (by decide +kernel), by decide⟩
theorem ob_Mo_1 : Cond.methodLink "AreaWarningsModel" 1 Lib.objectInit ∈ WS ∧ Cond.instanceMethod Lib.objectInit ∈ WS ∧ Cond.code Lib.objectInit ⟨#[0xb1]⟩ 1 none ∈ WS := ⟨in_at 769 (by decide +kernel), in_at 26 (by decide +kernel), in_at 27 (by decide +kernel)⟩
theorem cs_Mo_141 : CW WS "AreaWarningsModel" 141 mm_Mo_isPlace 1 ∧ Cond.static mm_Mo_isPlace.1 ∈ WS ∧ Cond.initialized mm_Mo_isPlace.1.cls ∈ WS := ⟨⟨Or.inl (in_at 926 (by decide +kernel)), in_at 928 (by decide +kernel), rfl, by decide +kernel, by decide, ⟨by decide +kernel, by decide +kernel⟩, by decide +kernel⟩, in_at 927 (by decide +kernel), in_at 5 (by decide +kernel)⟩
theorem cs_Mo_151 : CW WS "AreaWarningsModel" 151 mm_Mo_sign 1 ∧ Cond.static mm_Mo_sign.1 ∈ WS ∧ Cond.initialized mm_Mo_sign.1.cls ∈ WS := ⟨⟨Or.inl (in_at 964 (by decide +kernel)), in_at 966 (by decide +kernel), rfl, by decide +kernel, by decide, ⟨by decide +kernel, by decide +kernel⟩, by decide +kernel⟩, in_at 965 (by decide +kernel), in_at 5 (by decide +kernel)⟩
theorem cv_Mo_155 : CW WS "AreaWarningsModel" 155 mm_Mo_turn 3 ∧ Cond.instanceMethod mm_Mo_turn.1 ∈ WS ∧ Cond.selects "AreaWarningsModel" mm_Mo_turn.1 mm_Mo_turn.1 ∈ WS ∧ 9 < 100 := ⟨⟨Or.inl (in_at 960 (by decide +kernel)), in_at 963 (by decide +kernel), rfl, by decide +kernel, by decide, ⟨by decide +kernel, by decide +kernel⟩, by decide +kernel⟩, in_at 962 (by decide +kernel), in_at 1147 (by decide +kernel), by decide⟩
theorem cv_Mo_159 : CW WS "AreaWarningsModel" 159 mm_Mo_isBetween 3 ∧ Cond.instanceMethod mm_Mo_isBetween.1 ∈ WS ∧ Cond.selects "AreaWarningsModel" mm_Mo_isBetween.1 mm_Mo_isBetween.1 ∈ WS ∧ 9 < 100 := ⟨⟨Or.inl (in_at 971 (by decide +kernel)), in_at 974 (by decide +kernel), rfl, by decide +kernel, by decide, ⟨by decide +kernel, by decide +kernel⟩, by decide +kernel⟩, in_at 973 (by decide +kernel), in_at 1149 (by decide +kernel), by decide⟩
theorem cv_Mo_163 : CW WS "AreaWarningsModel" 163 mm_Mo_fold 3 ∧ Cond.instanceMethod mm_Mo_fold.1 ∈ WS ∧ Cond.selects "AreaWarningsModel" mm_Mo_fold.1 mm_Mo_fold.1 ∈ WS ∧ 9 < 100 := ⟨⟨Or.inl (in_at 956 (by decide +kernel)), in_at 959 (by decide +kernel), rfl, by decide +kernel, by decide, ⟨by decide +kernel, by decide +kernel⟩, by decide +kernel⟩, in_at 958 (by decide +kernel), in_at 1146 (by decide +kernel), by decide⟩
theorem cv_Mo_166 : CW WS "AreaWarningsModel" 166 mm_Mo_meet 4 ∧ Cond.instanceMethod mm_Mo_meet.1 ∈ WS ∧ Cond.selects "AreaWarningsModel" mm_Mo_meet.1 mm_Mo_meet.1 ∈ WS ∧ 9 < 100 := ⟨⟨Or.inl (in_at 967 (by decide +kernel)), in_at 970 (by decide +kernel), rfl, by decide +kernel, by decide, ⟨by decide +kernel, by decide +kernel⟩, by decide +kernel⟩, in_at 969 (by decide +kernel), in_at 1148 (by decide +kernel), by decide⟩
theorem cs_Mo_170 : CW WS "AreaWarningsModel" 170 mm_Mo_square 1 ∧ Cond.static mm_Mo_square.1 ∈ WS ∧ Cond.initialized mm_Mo_square.1.cls ∈ WS := ⟨⟨Or.inl (in_at 1004 (by decide +kernel)), in_at 1006 (by decide +kernel), rfl, by decide +kernel, by decide, ⟨by decide +kernel, by decide +kernel⟩, by decide +kernel⟩, in_at 1005 (by decide +kernel), in_at 5 (by decide +kernel)⟩
theorem cv_Mo_174 : CW WS "AreaWarningsModel" 174 mm_Mo_isIn 2 ∧ Cond.instanceMethod mm_Mo_isIn.1 ∈ WS ∧ Cond.selects "AreaWarningsModel" mm_Mo_isIn.1 mm_Mo_isIn.1 ∈ WS ∧ 9 < 100 := ⟨⟨Or.inl (in_at 996 (by decide +kernel)), in_at 999 (by decide +kernel), rfl, by decide +kernel, by decide, ⟨by decide +kernel, by decide +kernel⟩, by decide +kernel⟩, in_at 998 (by decide +kernel), in_at 1155 (by decide +kernel), by decide⟩
theorem cv_Mo_178 : CW WS "AreaWarningsModel" 178 mm_Mo_isNear 3 ∧ Cond.instanceMethod mm_Mo_isNear.1 ∈ WS ∧ Cond.selects "AreaWarningsModel" mm_Mo_isNear.1 mm_Mo_isNear.1 ∈ WS ∧ 9 < 100 := ⟨⟨Or.inl (in_at 1000 (by decide +kernel)), in_at 1003 (by decide +kernel), rfl, by decide +kernel, by decide, ⟨by decide +kernel, by decide +kernel⟩, by decide +kernel⟩, in_at 1002 (by decide +kernel), in_at 1156 (by decide +kernel), by decide⟩
theorem cv_Mo_181 : CW WS "AreaWarningsModel" 181 mm_Mo_isCovered 2 ∧ Cond.instanceMethod mm_Mo_isCovered.1 ∈ WS ∧ Cond.selects "AreaWarningsModel" mm_Mo_isCovered.1 mm_Mo_isCovered.1 ∈ WS ∧ 9 < 100 := ⟨⟨Or.inl (in_at 992 (by decide +kernel)), in_at 995 (by decide +kernel), rfl, by decide +kernel, by decide, ⟨by decide +kernel, by decide +kernel⟩, by decide +kernel⟩, in_at 994 (by decide +kernel), in_at 1154 (by decide +kernel), by decide⟩
theorem cv_Mo_190 : CW WS "AreaWarningsModel" 190 mm_Mo_isSimple 0 ∧ Cond.instanceMethod mm_Mo_isSimple.1 ∈ WS ∧ Cond.selects "AreaWarningsModel" mm_Mo_isSimple.1 mm_Mo_isSimple.1 ∈ WS ∧ 9 < 100 := ⟨⟨Or.inl (in_at 952 (by decide +kernel)), in_at 955 (by decide +kernel), rfl, by decide +kernel, by decide, ⟨by decide +kernel, by decide +kernel⟩, by decide +kernel⟩, in_at 954 (by decide +kernel), in_at 1145 (by decide +kernel), by decide⟩
theorem cv_Mo_197 : CW WS "AreaWarningsModel" 197 mm_Mo_clear 0 ∧ Cond.instanceMethod mm_Mo_clear.1 ∈ WS ∧ Cond.selects "AreaWarningsModel" mm_Mo_clear.1 mm_Mo_clear.1 ∈ WS ∧ 9 < 100 := ⟨⟨Or.inl (in_at 987 (by decide +kernel)), in_at 940 (by decide +kernel), rfl, by decide +kernel, by decide, ⟨by decide +kernel, by decide +kernel⟩, by decide +kernel⟩, in_at 938 (by decide +kernel), in_at 939 (by decide +kernel), by decide⟩
theorem cv_Mo_201 : CW WS "AreaWarningsModel" 201 mm_Mo_covered 1 ∧ Cond.instanceMethod mm_Mo_covered.1 ∈ WS ∧ Cond.selects "AreaWarningsModel" mm_Mo_covered.1 mm_Mo_covered.1 ∈ WS ∧ 9 < 100 := ⟨⟨Or.inl (in_at 988 (by decide +kernel)), in_at 991 (by decide +kernel), rfl, by decide +kernel, by decide, ⟨by decide +kernel, by decide +kernel⟩, by decide +kernel⟩, in_at 990 (by decide +kernel), in_at 1153 (by decide +kernel), by decide⟩
theorem cs_Mo_204 : CW WS "AreaWarningsModel" 204 mm_Mo_isSpan 2 ∧ Cond.static mm_Mo_isSpan.1 ∈ WS ∧ Cond.initialized mm_Mo_isSpan.1.cls ∈ WS := ⟨⟨Or.inl (in_at 945 (by decide +kernel)), in_at 947 (by decide +kernel), rfl, by decide +kernel, by decide, ⟨by decide +kernel, by decide +kernel⟩, by decide +kernel⟩, in_at 946 (by decide +kernel), in_at 5 (by decide +kernel)⟩
theorem cv_Mo_207 : CW WS "AreaWarningsModel" 207 mm_Mo_isSaid 0 ∧ Cond.instanceMethod mm_Mo_isSaid.1 ∈ WS ∧ Cond.selects "AreaWarningsModel" mm_Mo_isSaid.1 mm_Mo_isSaid.1 ∈ WS ∧ 9 < 100 := ⟨⟨Or.inl (in_at 948 (by decide +kernel)), in_at 951 (by decide +kernel), rfl, by decide +kernel, by decide, ⟨by decide +kernel, by decide +kernel⟩, by decide +kernel⟩, in_at 950 (by decide +kernel), in_at 1144 (by decide +kernel), by decide⟩
theorem cv_Mo_210 : CW WS "AreaWarningsModel" 210 mm_Mo_find 1 ∧ Cond.instanceMethod mm_Mo_find.1 ∈ WS ∧ Cond.selects "AreaWarningsModel" mm_Mo_find.1 mm_Mo_find.1 ∈ WS ∧ 9 < 100 := ⟨⟨Or.inl (in_at 975 (by decide +kernel)), in_at 978 (by decide +kernel), rfl, by decide +kernel, by decide, ⟨by decide +kernel, by decide +kernel⟩, by decide +kernel⟩, in_at 977 (by decide +kernel), in_at 1150 (by decide +kernel), by decide⟩
theorem cv_Mo_213 : CW WS "AreaWarningsModel" 213 mm_Mo_make 5 ∧ Cond.instanceMethod mm_Mo_make.1 ∈ WS ∧ Cond.selects "AreaWarningsModel" mm_Mo_make.1 mm_Mo_make.1 ∈ WS ∧ 9 < 100 := ⟨⟨Or.inl (in_at 979 (by decide +kernel)), in_at 982 (by decide +kernel), rfl, by decide +kernel, by decide, ⟨by decide +kernel, by decide +kernel⟩, by decide +kernel⟩, in_at 981 (by decide +kernel), in_at 1151 (by decide +kernel), by decide⟩
theorem cv_Mo_217 : CW WS "AreaWarningsModel" 217 mm_Mo_fill 3 ∧ Cond.instanceMethod mm_Mo_fill.1 ∈ WS ∧ Cond.selects "AreaWarningsModel" mm_Mo_fill.1 mm_Mo_fill.1 ∈ WS ∧ 9 < 100 := ⟨⟨Or.inl (in_at 983 (by decide +kernel)), in_at 986 (by decide +kernel), rfl, by decide +kernel, by decide, ⟨by decide +kernel, by decide +kernel⟩, by decide +kernel⟩, in_at 985 (by decide +kernel), in_at 1152 (by decide +kernel), by decide⟩
theorem cv_Mo_220 : CW WS "AreaWarningsModel" 220 mm_Mo_isLive 1 ∧ Cond.instanceMethod mm_Mo_isLive.1 ∈ WS ∧ Cond.selects "AreaWarningsModel" mm_Mo_isLive.1 mm_Mo_isLive.1 ∈ WS ∧ 9 < 100 := ⟨⟨Or.inl (in_at 1011 (by decide +kernel)), in_at 1014 (by decide +kernel), rfl, by decide +kernel, by decide, ⟨by decide +kernel, by decide +kernel⟩, by decide +kernel⟩, in_at 1013 (by decide +kernel), in_at 1157 (by decide +kernel), by decide⟩
theorem cv_Mo_223 : CW WS "AreaWarningsModel" 223 mm_Mo_isListed 2 ∧ Cond.instanceMethod mm_Mo_isListed.1 ∈ WS ∧ Cond.selects "AreaWarningsModel" mm_Mo_isListed.1 mm_Mo_isListed.1 ∈ WS ∧ 9 < 100 := ⟨⟨Or.inl (in_at 1027 (by decide +kernel)), in_at 1030 (by decide +kernel), rfl, by decide +kernel, by decide, ⟨by decide +kernel, by decide +kernel⟩, by decide +kernel⟩, in_at 1029 (by decide +kernel), in_at 1159 (by decide +kernel), by decide⟩
theorem cv_Mo_226 : CW WS "AreaWarningsModel" 226 mm_Mo_insert 2 ∧ Cond.instanceMethod mm_Mo_insert.1 ∈ WS ∧ Cond.selects "AreaWarningsModel" mm_Mo_insert.1 mm_Mo_insert.1 ∈ WS ∧ 9 < 100 := ⟨⟨Or.inl (in_at 1031 (by decide +kernel)), in_at 1034 (by decide +kernel), rfl, by decide +kernel, by decide, ⟨by decide +kernel, by decide +kernel⟩, by decide +kernel⟩, in_at 1033 (by decide +kernel), in_at 1160 (by decide +kernel), by decide⟩
theorem cv_Mo_230 : CW WS "AreaWarningsModel" 230 mm_Mo_page 4 ∧ Cond.instanceMethod mm_Mo_page.1 ∈ WS ∧ Cond.selects "AreaWarningsModel" mm_Mo_page.1 mm_Mo_page.1 ∈ WS ∧ 9 < 100 := ⟨⟨Or.inl (in_at 1039 (by decide +kernel)), in_at 1042 (by decide +kernel), rfl, by decide +kernel, by decide, ⟨by decide +kernel, by decide +kernel⟩, by decide +kernel⟩, in_at 1041 (by decide +kernel), in_at 1162 (by decide +kernel), by decide⟩
theorem cv_Mo_234 : CW WS "AreaWarningsModel" 234 mm_Mo_pagesOf 2 ∧ Cond.instanceMethod mm_Mo_pagesOf.1 ∈ WS ∧ Cond.selects "AreaWarningsModel" mm_Mo_pagesOf.1 mm_Mo_pagesOf.1 ∈ WS ∧ 9 < 100 := ⟨⟨Or.inl (in_at 1043 (by decide +kernel)), in_at 1046 (by decide +kernel), rfl, by decide +kernel, by decide, ⟨by decide +kernel, by decide +kernel⟩, by decide +kernel⟩, in_at 1045 (by decide +kernel), in_at 1163 (by decide +kernel), by decide⟩
theorem cv_Mo_238 : CW WS "AreaWarningsModel" 238 mm_Mo_chosen 2 ∧ Cond.instanceMethod mm_Mo_chosen.1 ∈ WS ∧ Cond.selects "AreaWarningsModel" mm_Mo_chosen.1 mm_Mo_chosen.1 ∈ WS ∧ 9 < 100 := ⟨⟨Or.inl (in_at 1051 (by decide +kernel)), in_at 1054 (by decide +kernel), rfl, by decide +kernel, by decide, ⟨by decide +kernel, by decide +kernel⟩, by decide +kernel⟩, in_at 1053 (by decide +kernel), in_at 1165 (by decide +kernel), by decide⟩
theorem cv_Mo_241 : CW WS "AreaWarningsModel" 241 mm_Mo_relist 1 ∧ Cond.instanceMethod mm_Mo_relist.1 ∈ WS ∧ Cond.selects "AreaWarningsModel" mm_Mo_relist.1 mm_Mo_relist.1 ∈ WS ∧ 9 < 100 := ⟨⟨Or.inl (in_at 1023 (by decide +kernel)), in_at 1026 (by decide +kernel), rfl, by decide +kernel, by decide, ⟨by decide +kernel, by decide +kernel⟩, by decide +kernel⟩, in_at 1025 (by decide +kernel), in_at 1158 (by decide +kernel), by decide⟩
theorem cv_Mo_245 : CW WS "AreaWarningsModel" 245 mm_Mo_sendAll 1 ∧ Cond.instanceMethod mm_Mo_sendAll.1 ∈ WS ∧ Cond.selects "AreaWarningsModel" mm_Mo_sendAll.1 mm_Mo_sendAll.1 ∈ WS ∧ 9 < 100 := ⟨⟨Or.inl (in_at 1035 (by decide +kernel)), in_at 1038 (by decide +kernel), rfl, by decide +kernel, by decide, ⟨by decide +kernel, by decide +kernel⟩, by decide +kernel⟩, in_at 1037 (by decide +kernel), in_at 1161 (by decide +kernel), by decide⟩
theorem cv_Mo_251 : CW WS "AreaWarningsModel" 251 mm_Mo_hear 4 ∧ Cond.instanceMethod mm_Mo_hear.1 ∈ WS ∧ Cond.selects "AreaWarningsModel" mm_Mo_hear.1 mm_Mo_hear.1 ∈ WS ∧ 9 < 100 := ⟨⟨Or.inl (in_at 1047 (by decide +kernel)), in_at 1050 (by decide +kernel), rfl, by decide +kernel, by decide, ⟨by decide +kernel, by decide +kernel⟩, by decide +kernel⟩, in_at 1049 (by decide +kernel), in_at 1164 (by decide +kernel), by decide⟩
theorem cv_Mo_254 : CW WS "AreaWarningsModel" 254 mm_Mo_isCell 1 ∧ Cond.instanceMethod mm_Mo_isCell.1 ∈ WS ∧ Cond.selects "AreaWarningsModel" mm_Mo_isCell.1 mm_Mo_isCell.1 ∈ WS ∧ 9 < 100 := ⟨⟨Or.inl (in_at 1059 (by decide +kernel)), in_at 1062 (by decide +kernel), rfl, by decide +kernel, by decide, ⟨by decide +kernel, by decide +kernel⟩, by decide +kernel⟩, in_at 1061 (by decide +kernel), in_at 1166 (by decide +kernel), by decide⟩
theorem cv_Mo_257 : CW WS "AreaWarningsModel" 257 mm_Mo_isHandset 1 ∧ Cond.instanceMethod mm_Mo_isHandset.1 ∈ WS ∧ Cond.selects "AreaWarningsModel" mm_Mo_isHandset.1 mm_Mo_isHandset.1 ∈ WS ∧ 9 < 100 := ⟨⟨Or.inl (in_at 1071 (by decide +kernel)), in_at 1074 (by decide +kernel), rfl, by decide +kernel, by decide, ⟨by decide +kernel, by decide +kernel⟩, by decide +kernel⟩, in_at 1073 (by decide +kernel), in_at 1167 (by decide +kernel), by decide⟩
theorem cv_Mo_260 : CW WS "AreaWarningsModel" 260 mm_Mo_isCurrent 2 ∧ Cond.instanceMethod mm_Mo_isCurrent.1 ∈ WS ∧ Cond.selects "AreaWarningsModel" mm_Mo_isCurrent.1 mm_Mo_isCurrent.1 ∈ WS ∧ 9 < 100 := ⟨⟨Or.inl (in_at 1103 (by decide +kernel)), in_at 1106 (by decide +kernel), rfl, by decide +kernel, by decide, ⟨by decide +kernel, by decide +kernel⟩, by decide +kernel⟩, in_at 1105 (by decide +kernel), in_at 1168 (by decide +kernel), by decide⟩
