section
-- ===== PART A: goes FIRST, ahead of the names: the tables' words, and 'selects' of the private methods out of them =====
/-- a private method of a class that the tables say can be made, by its rows of tables_1 -/
def lw_okq (q : MethodName × Nat) : Prop := (q.1.cls ≠ "java/lang/invoke/MethodHandle" ∧ q.1.cls ≠ "java/lang/invoke/VarHandle") ∧ Cond.instantiable q.1.cls q.2 ∈ tables_1 ∧ Cond.privateMethod q.1 ∈ tables_1 ∧ Cond.instanceMethod q.1 ∈ tables_1
theorem lw_p0 : lw_okq (⟨"AreaWarnings$Cell", "belongsHere", "(LAreaWarnings$Version;)Z"⟩, 12) := ⟨⟨by decide +kernel, by decide +kernel⟩, List.mem_of_getElem? (i := 142) (by decide +kernel), List.mem_of_getElem? (i := 140) (by decide +kernel), List.mem_of_getElem? (i := 141) (by decide +kernel)⟩
theorem lw_p1 : lw_okq (⟨"AreaWarnings$Cell", "listsWarning", "(LAreaWarnings$Warning;)Z"⟩, 12) := ⟨⟨by decide +kernel, by decide +kernel⟩, List.mem_of_getElem? (i := 142) (by decide +kernel), List.mem_of_getElem? (i := 146) (by decide +kernel), List.mem_of_getElem? (i := 147) (by decide +kernel)⟩
theorem lw_p2 : lw_okq (⟨"AreaWarnings$Cell", "sendVersion", "(LAreaWarnings$Version;I)V"⟩, 12) := ⟨⟨by decide +kernel, by decide +kernel⟩, List.mem_of_getElem? (i := 142) (by decide +kernel), List.mem_of_getElem? (i := 158) (by decide +kernel), List.mem_of_getElem? (i := 159) (by decide +kernel)⟩
theorem lw_p3 : lw_okq (⟨"AreaWarnings$Cell", "sendTexts", "(LAreaWarnings$Spoken;)V"⟩, 12) := ⟨⟨by decide +kernel, by decide +kernel⟩, List.mem_of_getElem? (i := 142) (by decide +kernel), List.mem_of_getElem? (i := 166) (by decide +kernel), List.mem_of_getElem? (i := 167) (by decide +kernel)⟩
theorem lw_p4 : lw_okq (⟨"AreaWarnings$Cell", "sendPage", "(LAreaWarnings$Version;II)V"⟩, 12) := ⟨⟨by decide +kernel, by decide +kernel⟩, List.mem_of_getElem? (i := 142) (by decide +kernel), List.mem_of_getElem? (i := 174) (by decide +kernel), List.mem_of_getElem? (i := 175) (by decide +kernel)⟩
theorem lw_p5 : lw_okq (⟨"AreaWarnings", "isCell", "(I)Z"⟩, 9) := ⟨⟨by decide +kernel, by decide +kernel⟩, List.mem_of_getElem? (i := 21) (by decide +kernel), List.mem_of_getElem? (i := 178) (by decide +kernel), List.mem_of_getElem? (i := 179) (by decide +kernel)⟩
theorem lw_p6 : lw_okq (⟨"AreaWarnings$Handset", "hear", "(LAreaWarnings$Version;III)V"⟩, 13) := ⟨⟨by decide +kernel, by decide +kernel⟩, List.mem_of_getElem? (i := 188) (by decide +kernel), List.mem_of_getElem? (i := 186) (by decide +kernel), List.mem_of_getElem? (i := 187) (by decide +kernel)⟩
theorem lw_p7 : lw_okq (⟨"AreaWarnings$Handset", "showIfWhole", "(LAreaWarnings$Spoken;I)V"⟩, 13) := ⟨⟨by decide +kernel, by decide +kernel⟩, List.mem_of_getElem? (i := 188) (by decide +kernel), List.mem_of_getElem? (i := 195) (by decide +kernel), List.mem_of_getElem? (i := 196) (by decide +kernel)⟩
theorem lw_p8 : lw_okq (⟨"AreaWarnings$Handset", "choose", "(LAreaWarnings$Texts;)I"⟩, 13) := ⟨⟨by decide +kernel, by decide +kernel⟩, List.mem_of_getElem? (i := 188) (by decide +kernel), List.mem_of_getElem? (i := 199) (by decide +kernel), List.mem_of_getElem? (i := 200) (by decide +kernel)⟩
theorem lw_p9 : lw_okq (⟨"AreaWarnings", "findWarning", "(I)LAreaWarnings$Warning;"⟩, 9) := ⟨⟨by decide +kernel, by decide +kernel⟩, List.mem_of_getElem? (i := 21) (by decide +kernel), List.mem_of_getElem? (i := 212) (by decide +kernel), List.mem_of_getElem? (i := 213) (by decide +kernel)⟩
theorem lw_p10 : lw_okq (⟨"java/lang/Throwable", "fillInStackTrace", "(I)Ljava/lang/Throwable;"⟩, 6) := ⟨⟨by decide +kernel, by decide +kernel⟩, List.mem_of_getElem? (i := 271) (by decide +kernel), List.mem_of_getElem? (i := 269) (by decide +kernel), List.mem_of_getElem? (i := 270) (by decide +kernel)⟩
theorem lw_p11 : lw_okq (⟨"AreaWarnings$Area", "sideReaches", "(IIII)Z"⟩, 3) := ⟨⟨by decide +kernel, by decide +kernel⟩, List.mem_of_getElem? (i := 41) (by decide +kernel), List.mem_of_getElem? (i := 379) (by decide +kernel), List.mem_of_getElem? (i := 380) (by decide +kernel)⟩
theorem lw_p12 : lw_okq (⟨"AreaWarnings$Area", "next", "(I)I"⟩, 3) := ⟨⟨by decide +kernel, by decide +kernel⟩, List.mem_of_getElem? (i := 41) (by decide +kernel), List.mem_of_getElem? (i := 383) (by decide +kernel), List.mem_of_getElem? (i := 384) (by decide +kernel)⟩
theorem lw_p13 : lw_okq (⟨"AreaWarnings$Area", "squareToCorner", "(III)J"⟩, 3) := ⟨⟨by decide +kernel, by decide +kernel⟩, List.mem_of_getElem? (i := 41) (by decide +kernel), List.mem_of_getElem? (i := 387) (by decide +kernel), List.mem_of_getElem? (i := 388) (by decide +kernel)⟩
theorem lw_p14 : lw_okq (⟨"AreaWarnings$Area", "turn", "(III)J"⟩, 3) := ⟨⟨by decide +kernel, by decide +kernel⟩, List.mem_of_getElem? (i := 41) (by decide +kernel), List.mem_of_getElem? (i := 391) (by decide +kernel), List.mem_of_getElem? (i := 392) (by decide +kernel)⟩
theorem lw_p15 : lw_okq (⟨"AreaWarnings$Area", "surrounds", "(II)Z"⟩, 3) := ⟨⟨by decide +kernel, by decide +kernel⟩, List.mem_of_getElem? (i := 41) (by decide +kernel), List.mem_of_getElem? (i := 395) (by decide +kernel), List.mem_of_getElem? (i := 396) (by decide +kernel)⟩
def lw_privs_1 : List (MethodName × Nat) := [(⟨"AreaWarnings$Cell", "belongsHere", "(LAreaWarnings$Version;)Z"⟩, 12), (⟨"AreaWarnings$Cell", "listsWarning", "(LAreaWarnings$Warning;)Z"⟩, 12), (⟨"AreaWarnings$Cell", "sendVersion", "(LAreaWarnings$Version;I)V"⟩, 12), (⟨"AreaWarnings$Cell", "sendTexts", "(LAreaWarnings$Spoken;)V"⟩, 12), (⟨"AreaWarnings$Cell", "sendPage", "(LAreaWarnings$Version;II)V"⟩, 12), (⟨"AreaWarnings", "isCell", "(I)Z"⟩, 9), (⟨"AreaWarnings$Handset", "hear", "(LAreaWarnings$Version;III)V"⟩, 13), (⟨"AreaWarnings$Handset", "showIfWhole", "(LAreaWarnings$Spoken;I)V"⟩, 13), (⟨"AreaWarnings$Handset", "choose", "(LAreaWarnings$Texts;)I"⟩, 13), (⟨"AreaWarnings", "findWarning", "(I)LAreaWarnings$Warning;"⟩, 9), (⟨"java/lang/Throwable", "fillInStackTrace", "(I)Ljava/lang/Throwable;"⟩, 6), (⟨"AreaWarnings$Area", "sideReaches", "(IIII)Z"⟩, 3), (⟨"AreaWarnings$Area", "next", "(I)I"⟩, 3), (⟨"AreaWarnings$Area", "squareToCorner", "(III)J"⟩, 3), (⟨"AreaWarnings$Area", "turn", "(III)J"⟩, 3), (⟨"AreaWarnings$Area", "surrounds", "(II)Z"⟩, 3)]
theorem lw_r1 : ∀ q ∈ lw_privs_1, lw_okq q := List.forall_mem_cons.mpr ⟨lw_p0, List.forall_mem_cons.mpr ⟨lw_p1, List.forall_mem_cons.mpr ⟨lw_p2, List.forall_mem_cons.mpr ⟨lw_p3, List.forall_mem_cons.mpr ⟨lw_p4, List.forall_mem_cons.mpr ⟨lw_p5, List.forall_mem_cons.mpr ⟨lw_p6, List.forall_mem_cons.mpr ⟨lw_p7, List.forall_mem_cons.mpr ⟨lw_p8, List.forall_mem_cons.mpr ⟨lw_p9, List.forall_mem_cons.mpr ⟨lw_p10, List.forall_mem_cons.mpr ⟨lw_p11, List.forall_mem_cons.mpr ⟨lw_p12, List.forall_mem_cons.mpr ⟨lw_p13, List.forall_mem_cons.mpr ⟨lw_p14, List.forall_mem_cons.mpr ⟨lw_p15, fun _ h => absurd h List.not_mem_nil⟩⟩⟩⟩⟩⟩⟩⟩⟩⟩⟩⟩⟩⟩⟩⟩
theorem lw_p16 : lw_okq (⟨"AreaWarnings$Area", "sidesClash", "(II)Z"⟩, 3) := ⟨⟨by decide +kernel, by decide +kernel⟩, List.mem_of_getElem? (i := 41) (by decide +kernel), List.mem_of_getElem? (i := 447) (by decide +kernel), List.mem_of_getElem? (i := 448) (by decide +kernel)⟩
theorem lw_p17 : lw_okq (⟨"AreaWarnings$Area", "foldsBack", "(III)Z"⟩, 3) := ⟨⟨by decide +kernel, by decide +kernel⟩, List.mem_of_getElem? (i := 41) (by decide +kernel), List.mem_of_getElem? (i := 451) (by decide +kernel), List.mem_of_getElem? (i := 452) (by decide +kernel)⟩
theorem lw_p18 : lw_okq (⟨"AreaWarnings$Area", "sidesMeet", "(II)Z"⟩, 3) := ⟨⟨by decide +kernel, by decide +kernel⟩, List.mem_of_getElem? (i := 41) (by decide +kernel), List.mem_of_getElem? (i := 455) (by decide +kernel), List.mem_of_getElem? (i := 456) (by decide +kernel)⟩
theorem lw_p19 : lw_okq (⟨"AreaWarnings", "insertById", "(LAreaWarnings$Warning;)V"⟩, 9) := ⟨⟨by decide +kernel, by decide +kernel⟩, List.mem_of_getElem? (i := 21) (by decide +kernel), List.mem_of_getElem? (i := 503) (by decide +kernel), List.mem_of_getElem? (i := 504) (by decide +kernel)⟩
theorem lw_p20 : lw_okq (⟨"AreaWarnings", "speak", "(LAreaWarnings$Warning;LAreaWarnings$Spoken;)I"⟩, 9) := ⟨⟨by decide +kernel, by decide +kernel⟩, List.mem_of_getElem? (i := 21) (by decide +kernel), List.mem_of_getElem? (i := 567) (by decide +kernel), List.mem_of_getElem? (i := 568) (by decide +kernel)⟩
theorem lw_p21 : lw_okq (⟨"AreaWarnings", "findLive", "(I)LAreaWarnings$Warning;"⟩, 9) := ⟨⟨by decide +kernel, by decide +kernel⟩, List.mem_of_getElem? (i := 21) (by decide +kernel), List.mem_of_getElem? (i := 578) (by decide +kernel), List.mem_of_getElem? (i := 579) (by decide +kernel)⟩
theorem lw_p22 : lw_okq (⟨"AreaWarnings", "isHandset", "(I)Z"⟩, 9) := ⟨⟨by decide +kernel, by decide +kernel⟩, List.mem_of_getElem? (i := 21) (by decide +kernel), List.mem_of_getElem? (i := 691) (by decide +kernel), List.mem_of_getElem? (i := 692) (by decide +kernel)⟩
theorem lw_p23 : lw_okq (⟨"AreaWarningsModel", "isSaid", "()Z"⟩, 49) := ⟨⟨by decide +kernel, by decide +kernel⟩, List.mem_of_getElem? (i := 765) (by decide +kernel), List.mem_of_getElem? (i := 949) (by decide +kernel), List.mem_of_getElem? (i := 950) (by decide +kernel)⟩
theorem lw_p24 : lw_okq (⟨"AreaWarningsModel", "isSimple", "()Z"⟩, 49) := ⟨⟨by decide +kernel, by decide +kernel⟩, List.mem_of_getElem? (i := 765) (by decide +kernel), List.mem_of_getElem? (i := 953) (by decide +kernel), List.mem_of_getElem? (i := 954) (by decide +kernel)⟩
theorem lw_p25 : lw_okq (⟨"AreaWarningsModel", "fold", "(III)Z"⟩, 49) := ⟨⟨by decide +kernel, by decide +kernel⟩, List.mem_of_getElem? (i := 765) (by decide +kernel), List.mem_of_getElem? (i := 957) (by decide +kernel), List.mem_of_getElem? (i := 958) (by decide +kernel)⟩
theorem lw_p26 : lw_okq (⟨"AreaWarningsModel", "turn", "(III)I"⟩, 49) := ⟨⟨by decide +kernel, by decide +kernel⟩, List.mem_of_getElem? (i := 765) (by decide +kernel), List.mem_of_getElem? (i := 961) (by decide +kernel), List.mem_of_getElem? (i := 962) (by decide +kernel)⟩
theorem lw_p27 : lw_okq (⟨"AreaWarningsModel", "meet", "(IIII)Z"⟩, 49) := ⟨⟨by decide +kernel, by decide +kernel⟩, List.mem_of_getElem? (i := 765) (by decide +kernel), List.mem_of_getElem? (i := 968) (by decide +kernel), List.mem_of_getElem? (i := 969) (by decide +kernel)⟩
theorem lw_p28 : lw_okq (⟨"AreaWarningsModel", "isBetween", "(III)Z"⟩, 49) := ⟨⟨by decide +kernel, by decide +kernel⟩, List.mem_of_getElem? (i := 765) (by decide +kernel), List.mem_of_getElem? (i := 972) (by decide +kernel), List.mem_of_getElem? (i := 973) (by decide +kernel)⟩
theorem lw_p29 : lw_okq (⟨"AreaWarningsModel", "find", "(I)I"⟩, 49) := ⟨⟨by decide +kernel, by decide +kernel⟩, List.mem_of_getElem? (i := 765) (by decide +kernel), List.mem_of_getElem? (i := 976) (by decide +kernel), List.mem_of_getElem? (i := 977) (by decide +kernel)⟩
theorem lw_p30 : lw_okq (⟨"AreaWarningsModel", "make", "(IIIIZ)I"⟩, 49) := ⟨⟨by decide +kernel, by decide +kernel⟩, List.mem_of_getElem? (i := 765) (by decide +kernel), List.mem_of_getElem? (i := 980) (by decide +kernel), List.mem_of_getElem? (i := 981) (by decide +kernel)⟩
theorem lw_p31 : lw_okq (⟨"AreaWarningsModel", "fill", "(III)I"⟩, 49) := ⟨⟨by decide +kernel, by decide +kernel⟩, List.mem_of_getElem? (i := 765) (by decide +kernel), List.mem_of_getElem? (i := 984) (by decide +kernel), List.mem_of_getElem? (i := 985) (by decide +kernel)⟩
def lw_privs_2 : List (MethodName × Nat) := [(⟨"AreaWarnings$Area", "sidesClash", "(II)Z"⟩, 3), (⟨"AreaWarnings$Area", "foldsBack", "(III)Z"⟩, 3), (⟨"AreaWarnings$Area", "sidesMeet", "(II)Z"⟩, 3), (⟨"AreaWarnings", "insertById", "(LAreaWarnings$Warning;)V"⟩, 9), (⟨"AreaWarnings", "speak", "(LAreaWarnings$Warning;LAreaWarnings$Spoken;)I"⟩, 9), (⟨"AreaWarnings", "findLive", "(I)LAreaWarnings$Warning;"⟩, 9), (⟨"AreaWarnings", "isHandset", "(I)Z"⟩, 9), (⟨"AreaWarningsModel", "isSaid", "()Z"⟩, 49), (⟨"AreaWarningsModel", "isSimple", "()Z"⟩, 49), (⟨"AreaWarningsModel", "fold", "(III)Z"⟩, 49), (⟨"AreaWarningsModel", "turn", "(III)I"⟩, 49), (⟨"AreaWarningsModel", "meet", "(IIII)Z"⟩, 49), (⟨"AreaWarningsModel", "isBetween", "(III)Z"⟩, 49), (⟨"AreaWarningsModel", "find", "(I)I"⟩, 49), (⟨"AreaWarningsModel", "make", "(IIIIZ)I"⟩, 49), (⟨"AreaWarningsModel", "fill", "(III)I"⟩, 49)]
theorem lw_r2 : ∀ q ∈ lw_privs_2, lw_okq q := List.forall_mem_cons.mpr ⟨lw_p16, List.forall_mem_cons.mpr ⟨lw_p17, List.forall_mem_cons.mpr ⟨lw_p18, List.forall_mem_cons.mpr ⟨lw_p19, List.forall_mem_cons.mpr ⟨lw_p20, List.forall_mem_cons.mpr ⟨lw_p21, List.forall_mem_cons.mpr ⟨lw_p22, List.forall_mem_cons.mpr ⟨lw_p23, List.forall_mem_cons.mpr ⟨lw_p24, List.forall_mem_cons.mpr ⟨lw_p25, List.forall_mem_cons.mpr ⟨lw_p26, List.forall_mem_cons.mpr ⟨lw_p27, List.forall_mem_cons.mpr ⟨lw_p28, List.forall_mem_cons.mpr ⟨lw_p29, List.forall_mem_cons.mpr ⟨lw_p30, List.forall_mem_cons.mpr ⟨lw_p31, fun _ h => absurd h List.not_mem_nil⟩⟩⟩⟩⟩⟩⟩⟩⟩⟩⟩⟩⟩⟩⟩⟩
theorem lw_p32 : lw_okq (⟨"AreaWarningsModel", "covered", "(I)I"⟩, 49) := ⟨⟨by decide +kernel, by decide +kernel⟩, List.mem_of_getElem? (i := 765) (by decide +kernel), List.mem_of_getElem? (i := 989) (by decide +kernel), List.mem_of_getElem? (i := 990) (by decide +kernel)⟩
theorem lw_p33 : lw_okq (⟨"AreaWarningsModel", "isCovered", "(II)Z"⟩, 49) := ⟨⟨by decide +kernel, by decide +kernel⟩, List.mem_of_getElem? (i := 765) (by decide +kernel), List.mem_of_getElem? (i := 993) (by decide +kernel), List.mem_of_getElem? (i := 994) (by decide +kernel)⟩
theorem lw_p34 : lw_okq (⟨"AreaWarningsModel", "isIn", "(II)Z"⟩, 49) := ⟨⟨by decide +kernel, by decide +kernel⟩, List.mem_of_getElem? (i := 765) (by decide +kernel), List.mem_of_getElem? (i := 997) (by decide +kernel), List.mem_of_getElem? (i := 998) (by decide +kernel)⟩
theorem lw_p35 : lw_okq (⟨"AreaWarningsModel", "isNear", "(III)Z"⟩, 49) := ⟨⟨by decide +kernel, by decide +kernel⟩, List.mem_of_getElem? (i := 765) (by decide +kernel), List.mem_of_getElem? (i := 1001) (by decide +kernel), List.mem_of_getElem? (i := 1002) (by decide +kernel)⟩
theorem lw_p36 : lw_okq (⟨"AreaWarningsModel", "isLive", "(I)Z"⟩, 49) := ⟨⟨by decide +kernel, by decide +kernel⟩, List.mem_of_getElem? (i := 765) (by decide +kernel), List.mem_of_getElem? (i := 1012) (by decide +kernel), List.mem_of_getElem? (i := 1013) (by decide +kernel)⟩
theorem lw_p37 : lw_okq (⟨"AreaWarningsModel", "relist", "(I)V"⟩, 49) := ⟨⟨by decide +kernel, by decide +kernel⟩, List.mem_of_getElem? (i := 765) (by decide +kernel), List.mem_of_getElem? (i := 1024) (by decide +kernel), List.mem_of_getElem? (i := 1025) (by decide +kernel)⟩
theorem lw_p38 : lw_okq (⟨"AreaWarningsModel", "isListed", "(II)Z"⟩, 49) := ⟨⟨by decide +kernel, by decide +kernel⟩, List.mem_of_getElem? (i := 765) (by decide +kernel), List.mem_of_getElem? (i := 1028) (by decide +kernel), List.mem_of_getElem? (i := 1029) (by decide +kernel)⟩
theorem lw_p39 : lw_okq (⟨"AreaWarningsModel", "insert", "(II)V"⟩, 49) := ⟨⟨by decide +kernel, by decide +kernel⟩, List.mem_of_getElem? (i := 765) (by decide +kernel), List.mem_of_getElem? (i := 1032) (by decide +kernel), List.mem_of_getElem? (i := 1033) (by decide +kernel)⟩
theorem lw_p40 : lw_okq (⟨"AreaWarningsModel", "sendAll", "(I)V"⟩, 49) := ⟨⟨by decide +kernel, by decide +kernel⟩, List.mem_of_getElem? (i := 765) (by decide +kernel), List.mem_of_getElem? (i := 1036) (by decide +kernel), List.mem_of_getElem? (i := 1037) (by decide +kernel)⟩
theorem lw_p41 : lw_okq (⟨"AreaWarningsModel", "page", "(IIII)V"⟩, 49) := ⟨⟨by decide +kernel, by decide +kernel⟩, List.mem_of_getElem? (i := 765) (by decide +kernel), List.mem_of_getElem? (i := 1040) (by decide +kernel), List.mem_of_getElem? (i := 1041) (by decide +kernel)⟩
theorem lw_p42 : lw_okq (⟨"AreaWarningsModel", "pagesOf", "(II)I"⟩, 49) := ⟨⟨by decide +kernel, by decide +kernel⟩, List.mem_of_getElem? (i := 765) (by decide +kernel), List.mem_of_getElem? (i := 1044) (by decide +kernel), List.mem_of_getElem? (i := 1045) (by decide +kernel)⟩
theorem lw_p43 : lw_okq (⟨"AreaWarningsModel", "hear", "(IIII)V"⟩, 49) := ⟨⟨by decide +kernel, by decide +kernel⟩, List.mem_of_getElem? (i := 765) (by decide +kernel), List.mem_of_getElem? (i := 1048) (by decide +kernel), List.mem_of_getElem? (i := 1049) (by decide +kernel)⟩
theorem lw_p44 : lw_okq (⟨"AreaWarningsModel", "chosen", "(II)I"⟩, 49) := ⟨⟨by decide +kernel, by decide +kernel⟩, List.mem_of_getElem? (i := 765) (by decide +kernel), List.mem_of_getElem? (i := 1052) (by decide +kernel), List.mem_of_getElem? (i := 1053) (by decide +kernel)⟩
theorem lw_p45 : lw_okq (⟨"AreaWarningsModel", "isCell", "(I)Z"⟩, 49) := ⟨⟨by decide +kernel, by decide +kernel⟩, List.mem_of_getElem? (i := 765) (by decide +kernel), List.mem_of_getElem? (i := 1060) (by decide +kernel), List.mem_of_getElem? (i := 1061) (by decide +kernel)⟩
theorem lw_p46 : lw_okq (⟨"AreaWarningsModel", "isHandset", "(I)Z"⟩, 49) := ⟨⟨by decide +kernel, by decide +kernel⟩, List.mem_of_getElem? (i := 765) (by decide +kernel), List.mem_of_getElem? (i := 1072) (by decide +kernel), List.mem_of_getElem? (i := 1073) (by decide +kernel)⟩
theorem lw_p47 : lw_okq (⟨"AreaWarningsModel", "isCurrent", "(II)Z"⟩, 49) := ⟨⟨by decide +kernel, by decide +kernel⟩, List.mem_of_getElem? (i := 765) (by decide +kernel), List.mem_of_getElem? (i := 1104) (by decide +kernel), List.mem_of_getElem? (i := 1105) (by decide +kernel)⟩
def lw_privs_3 : List (MethodName × Nat) := [(⟨"AreaWarningsModel", "covered", "(I)I"⟩, 49), (⟨"AreaWarningsModel", "isCovered", "(II)Z"⟩, 49), (⟨"AreaWarningsModel", "isIn", "(II)Z"⟩, 49), (⟨"AreaWarningsModel", "isNear", "(III)Z"⟩, 49), (⟨"AreaWarningsModel", "isLive", "(I)Z"⟩, 49), (⟨"AreaWarningsModel", "relist", "(I)V"⟩, 49), (⟨"AreaWarningsModel", "isListed", "(II)Z"⟩, 49), (⟨"AreaWarningsModel", "insert", "(II)V"⟩, 49), (⟨"AreaWarningsModel", "sendAll", "(I)V"⟩, 49), (⟨"AreaWarningsModel", "page", "(IIII)V"⟩, 49), (⟨"AreaWarningsModel", "pagesOf", "(II)I"⟩, 49), (⟨"AreaWarningsModel", "hear", "(IIII)V"⟩, 49), (⟨"AreaWarningsModel", "chosen", "(II)I"⟩, 49), (⟨"AreaWarningsModel", "isCell", "(I)Z"⟩, 49), (⟨"AreaWarningsModel", "isHandset", "(I)Z"⟩, 49), (⟨"AreaWarningsModel", "isCurrent", "(II)Z"⟩, 49)]
theorem lw_r3 : ∀ q ∈ lw_privs_3, lw_okq q := List.forall_mem_cons.mpr ⟨lw_p32, List.forall_mem_cons.mpr ⟨lw_p33, List.forall_mem_cons.mpr ⟨lw_p34, List.forall_mem_cons.mpr ⟨lw_p35, List.forall_mem_cons.mpr ⟨lw_p36, List.forall_mem_cons.mpr ⟨lw_p37, List.forall_mem_cons.mpr ⟨lw_p38, List.forall_mem_cons.mpr ⟨lw_p39, List.forall_mem_cons.mpr ⟨lw_p40, List.forall_mem_cons.mpr ⟨lw_p41, List.forall_mem_cons.mpr ⟨lw_p42, List.forall_mem_cons.mpr ⟨lw_p43, List.forall_mem_cons.mpr ⟨lw_p44, List.forall_mem_cons.mpr ⟨lw_p45, List.forall_mem_cons.mpr ⟨lw_p46, List.forall_mem_cons.mpr ⟨lw_p47, fun _ h => absurd h List.not_mem_nil⟩⟩⟩⟩⟩⟩⟩⟩⟩⟩⟩⟩⟩⟩⟩⟩
def lw_privs : List (MethodName × Nat) := lw_privs_1 ++ (lw_privs_2 ++ (lw_privs_3))
def lw_tbl : List Cond := k2_sels lw_privs ++ tables_1
theorem lw_privs_ok : ∀ q ∈ lw_privs, lw_okq q := by
  show ∀ q ∈ lw_privs_1 ++ (lw_privs_2 ++ (lw_privs_3)), lw_okq q
  exact List.forall_mem_append.mpr ⟨lw_r1, List.forall_mem_append.mpr ⟨lw_r2, lw_r3⟩⟩
end
section
/-! V: a method's walk, said over a heap of my own words (addresses to kinds and values). -/
abbrev MT : Type := MethodName × ByteArray × Nat × Option FieldType × List (Nat × Nat × Nat × Nat)
abbrev AC : Type := Nat × List Value
abbrev AH : Type := (Nat → Option AC) × Nat × Nat
abbrev Lo : Type := List (Option Value)
abbrev Out : Type := Option Value ⊕ Nat
abbrev Gx : Type := List Cond × List Cond × List vw_C × va_G × List FieldType × (Nat → ClassId) × List (String × ClassId) × Heap × Nat × Nat
abbrev gW (g : Gx) : List Cond := g.1
abbrev gY (g : Gx) : List Cond := g.2.1
abbrev gC (g : Gx) : List vw_C := g.2.2.1
abbrev gD (g : Gx) : va_G := g.2.2.2.1
abbrev gT (g : Gx) : List FieldType := g.2.2.2.2.1
abbrev gA (g : Gx) : Nat → ClassId := g.2.2.2.2.2.1
abbrev gE (g : Gx) : List (String × ClassId) := g.2.2.2.2.2.2.1
abbrev gH (g : Gx) : Heap := g.2.2.2.2.2.2.2.1
abbrev gL (g : Gx) : Nat := g.2.2.2.2.2.2.2.2.1
abbrev gS (g : Gx) : Nat := g.2.2.2.2.2.2.2.2.2
/-- a word that stays true as the tables grow warmer -/
def Kp (w : Cond) : Prop := ∀ (s U : State) (a a' : Array Value), s.WarmedH U.vm → w.before a s = true → w.before a' U = true
/-- a word on statics of old cells -/
def Ky (w : Cond) : Prop := (∀ (s U : State) (H : Heap) (a a' : Array Value), s.WarmedH U.vm → w.before a ({ s with heap := H } : State) = true → w.before a' ({ U with heap := H } : State) = true) ∧
  ∀ (s : State) (H : Heap) (a : Array Value), (∀ q, q < H.size → s.heap[q]? = H[q]?) → w.before a ({ s with heap := H } : State) = true → w.before a s = true
def okC (g : Gx) (x : AC) (cell : Cell) : Prop :=
  (x.1 < 100 ∧ ∃ r, (gC g)[x.1]? = some r ∧ cell.cls = (gD g).1 x.1 ∧ cell.vm = .none ∧ x.2.length = r.2.2 ∧ ∀ k, k < r.2.2 → cell.slots[(gD g).2 x.1 k]? = x.2[k]?) ∨
  (100 ≤ x.1 ∧ x.1 < 200 ∧ cell = { cls := gA g (x.1 - 100), slots := x.2.toArray, vm := .none }) ∨
  (200 ≤ x.1 ∧ cell.vm = .none ∧ ∃ q, (gE g)[x.1 - 200]? = some q ∧ cell.cls = q.2)
def HR (g : Gx) (A : AH) (H : Heap) : Prop := H.size = A.2.1 ∧ (gH g).size ≤ H.size ∧ (∀ q, q < (gH g).size → H[q]? = (gH g)[q]?) ∧ A.2.1 ≤ gL g ∧ A.2.2 ≤ gS g ∧
  ∀ (a : Nat) (x : AC), A.1 a = some x → (gH g).size ≤ a ∧ ∃ cell, H[a]? = some cell ∧ okC g x cell
def TF (g : Gx) (s : State) (args : Array Value) : Prop :=
  (∀ w ∈ gW g, w.before args s = true) ∧ (∀ w ∈ gW g, Kp w) ∧ va_K (gD g) (gC g) [] s ∧
  (∀ (j : Nat) (ty : FieldType), (gT g)[j]? = some ty → ArrOfT s (gA g j) ty ∧ va_RA s (gA g j) ty) ∧
  (∀ (k : Nat) (q : String × ClassId), (gE g)[k]? = some q → s.vm.findClass q.1 = some q.2) ∧
  (∀ w ∈ gY g, w.before args ({ s with heap := gH g } : State) = true) ∧ (∀ w ∈ gY g, Ky w) ∧
  ∀ scr : Cell, (gH g)[gA g 50]? = some scr → s.isArrayOf scr .int ∧ scr.vm ≠ .unknown
theorem TF.moved {g : Gx} {s U : State} {a a' : Array Value} (h : TF g s a) (hW : s.WarmedH U.vm) : TF g U a' := by
  obtain ⟨h1, h2, h3, h4, h5, h6, h7, h8⟩ := h
  refine ⟨fun w hw => h2 w hw s U a a' hW (h1 w hw), h2, va_K.moved hW.alike h3, fun j ty hj => ⟨arrOfT_moved hW.alike (h4 j ty hj).1, (h4 j ty hj).2.moved hW.alike⟩, fun k q hq => ?_, fun w hw => (h7 w hw).1 s U _ a a' hW (h6 w hw), h7, fun scr hs => ⟨State.isArrayOf_alike hW.alike (h8 scr hs).1, (h8 scr hs).2⟩⟩
  rw [hW.alike.findClass]
  exact h5 k q hq
/-- the locals: a list by place; a long's second place holds nothing -/
def LR (L : Lo) (ls : Array Slot) (n : Nat) : Prop := ls.size = n ∧ lv_wf ls ∧ L.length = n ∧ ∀ (i : Nat) (v : Value), L[i]? = some (some v) → ls[i]? = some (.val v)
def Cx (g : Gx) (d : Nat) (y : MT) (p : Program) (e : Env) (R : Room) (s : State) (m : MethodId) (args : Array Value) (meth : Method) (c : Code) (z : Nat) : Prop :=
  p.tables.exec = Jvm.exec ∧ c.code = y.2.1 ∧ c.maxLocals = y.2.2.1 ∧ meth.sig.returnType = y.2.2.2.1 ∧ meth.locks = false ∧ s.vm.findClass y.1.cls = some m.cls ∧ meth.name = y.1.name ∧
  c.exceptionTable.toList = tableOf y.2.2.2.2 ∧ TF g s args ∧ d + 2 ≤ R.frames ∧ 40 * d + 100 ≤ R.locals ∧ gL g ≤ s.heap.size + R.cells ∧ gS g ≤ z + R.slots ∧ e.platform.stackTraces = false
def Rx (g : Gx) (y : MT) (A : AH) (L : Lo) (s : State) (z : Nat) (H : Heap) (locs : List Loc) (cells slots : Nat) (ls : Array Slot) : Prop :=
  LR L ls y.2.2.1 ∧ HR g A H ∧ s.heap.size + cells = A.2.1 ∧ z + slots = A.2.2 ∧ ∀ q ∈ locs, (gH g).size ≤ q.base
def oR (r : Out) (A : AH) (o : Outcome) : Prop := match r with
  | .inl v => o = .returned v
  | .inr a => o = .threw a ∧ ∃ k, A.1 a = some (200 + k, [])
def Ex (g : Gx) (below : List Frame) (s : State) (z : Nat) (Φ : Out → AH → Prop) (t : State) : Prop :=
  ∃ (o : Outcome) (K : List Loc) (k n : Nat) (r : Out) (A : AH), t.status = .running ∧ Ended t below o ∧ s.WarmedH t.vm ∧ s.sameButNew ({ t with vm := s.vm } : State) K k n ∧ (∀ q ∈ K, (gH g).size ≤ q.base) ∧
    Φ r A ∧ HR g A t.heap ∧ s.heap.size + k = A.2.1 ∧ z + n = A.2.2 ∧ oR r A o
def V (g : Gx) (d : Nat) (y : MT) (pc : Nat) (L : Lo) (st : List Value) (A : AH) (Φ : Out → AH → Prop) : Prop :=
  ∀ (p : Program) (l : Launch) (e : Env) (R : Room) (s : State) (m : MethodId) (args : Array Value) (below : List Frame) (meth : Method) (c : Code) (z : Nat), Cx g d y p e R s m args meth c z →
    ∀ (H : Heap) (locs : List Loc) (cells slots : Nat) (ls : Array Slot), Rx g y A L s z H locs cells slots ls →
      W p l e R s m args below meth c H locs cells slots (Ex g below s z Φ) (F0 m pc ls st)
theorem W.mono {p : Program} {l : Launch} {e : Env} {R : Room} {s : State} {m : MethodId} {args : Array Value} {below : List Frame} {meth : Method} {c : Code} {H : Heap} {locs : List Loc} {cells slots : Nat} {Q Q' : State → Prop} {f : JFrame} (h : W p l e R s m args below meth c H locs cells slots Q f) (hq : ∀ t, Q t → Q' t) : W p l e R s m args below meth c H locs cells slots Q' f := by
  intro T hT X
  obtain ⟨t, a, b⟩ := h T hT X
  exact ⟨t, a, hq t b⟩
section VR
variable {g : Gx} {d : Nat} {y : MT} {pc : Nat} {L : Lo} {st : List Value} {A : AH} {Φ : Out → AH → Prop}
theorem V.mono {Φ' : Out → AH → Prop} (h : V g d y pc L st A Φ) (hq : ∀ r A', Φ r A' → Φ' r A') : V g d y pc L st A Φ' :=
  fun p l e R s m args below meth c z C H locs cells slots ls X => W.mono (h p l e R s m args below meth c z C H locs cells slots ls X) (fun t ⟨o, K, k, n, r, A', h1, h2, h3, h4, h5, h6, h7⟩ => ⟨o, K, k, n, r, A', h1, h2, h3, h4, h5, hq r A' h6, h7⟩)
/-- what a walk knows of its heap: every named cell is old -/
theorem V.old (h : (∀ a x, A.1 a = some x → a < A.2.1) → V g d y pc L st A Φ) : V g d y pc L st A Φ :=
  fun p l e R s m args below meth c z C H locs cells slots ls X => h (fun a x ha => by
    obtain ⟨-, cell, hc, -⟩ := X.2.1.2.2.2.2.2 a x ha
    have := (Array.getElem?_eq_some_iff.mp hc).1
    rw [← X.2.1.1]; exact this) p l e R s m args below meth c z C H locs cells slots ls X
theorem V.eq {pc' : Nat} {L' : Lo} {st' : List Value} {A' : AH} (h : V g d y pc' L' st' A' Φ) (h1 : pc' = pc) (h2 : L' = L) (h3 : st' = st) (h4 : A' = A) : V g d y pc L st A Φ := by subst h1 h2 h3 h4; exact h
theorem LR.drop {ls : Array Slot} {n : Nat} (h : LR L ls n) (i : Nat) : LR (L.set i none) ls n := by
  refine ⟨h.1, h.2.1, by rw [List.length_set]; exact h.2.2.1, fun j v hj => ?_⟩
  rw [List.getElem?_set] at hj
  split at hj
  · split at hj
    · cases hj
    · cases hj
  · exact h.2.2.2 j v hj
/-- a local that is no longer wanted -/
theorem V.drop (i : Nat) (h : V g d y pc (L.set i none) st A Φ) : V g d y pc L st A Φ :=
  fun p l e R s m args below meth c z C H locs cells slots ls X => h p l e R s m args below meth c z C H locs cells slots ls ⟨X.1.drop i, X.2⟩

theorem v_iconst {n : Int} {v : Int32} (hd : decode y.2.1 pc = .ok (.iconst n, 1)) (hv : Int32.ofInt n = v) (h : V g d y (pc + 1) L (.int v :: st) A Φ) : V g d y pc L (st) A Φ :=
  fun p l e R s m args below meth c z C H locs cells slots ls X => lv_iconst C.1 C.2.1 hd hv (h p l e R s m args below meth c z C H locs cells slots ls X)
theorem v_bipush {n : Int} {v : Int32} (hd : decode y.2.1 pc = .ok (.bipush n, 2)) (hv : (Int8.ofInt n).toInt32 = v) (h : V g d y (pc + 2) L (.int v :: st) A Φ) : V g d y pc L (st) A Φ :=
  fun p l e R s m args below meth c z C H locs cells slots ls X => lv_bipush C.1 C.2.1 hd hv (h p l e R s m args below meth c z C H locs cells slots ls X)
theorem v_sipush {n : Int} {v : Int32} (hd : decode y.2.1 pc = .ok (.sipush n, 3)) (hv : (Int16.ofInt n).toInt32 = v) (h : V g d y (pc + 3) L (.int v :: st) A Φ) : V g d y pc L (st) A Φ :=
  fun p l e R s m args below meth c z C H locs cells slots ls X => lv_sipush C.1 C.2.1 hd hv (h p l e R s m args below meth c z C H locs cells slots ls X)
theorem v_lconst {n : Fin 2} {v : Int64} (hd : decode y.2.1 pc = .ok (.lconst n, 1)) (hv : Int64.ofNat (n : Nat) = v) (h : V g d y (pc + 1) L (.long v :: st) A Φ) : V g d y pc L (st) A Φ :=
  fun p l e R s m args below meth c z C H locs cells slots ls X => lv_lconst C.1 C.2.1 hd hv (h p l e R s m args below meth c z C H locs cells slots ls X)
theorem v_null  (hd : decode y.2.1 pc = .ok (.aconst_null, 1))  (h : V g d y (pc + 1) L (.null :: st) A Φ) : V g d y pc L (st) A Φ :=
  fun p l e R s m args below meth c z C H locs cells slots ls X => lv_null C.1 C.2.1 hd  (h p l e R s m args below meth c z C H locs cells slots ls X)
theorem v_iload_n {k : Fin 4} {x : Int32} (hd : decode y.2.1 pc = .ok (.iload_n k, 1)) (hl : L[(k : Nat)]? = some (some (.int x))) (h : V g d y (pc + 1) L (.int x :: st) A Φ) : V g d y pc L (st) A Φ :=
  fun p l e R s m args below meth c z C H locs cells slots ls X => lv_iload_n C.1 C.2.1 hd rfl (X.1.2.2.2 _ _ hl) (h p l e R s m args below meth c z C H locs cells slots ls X)
theorem v_iload {k : Nat} {x : Int32} (hd : decode y.2.1 pc = .ok (.iload k, 2)) (hl : L[k]? = some (some (.int x))) (h : V g d y (pc + 2) L (.int x :: st) A Φ) : V g d y pc L (st) A Φ :=
  fun p l e R s m args below meth c z C H locs cells slots ls X => lv_iload C.1 C.2.1 hd (X.1.2.2.2 _ _ hl) (h p l e R s m args below meth c z C H locs cells slots ls X)
theorem v_lload_n {k : Fin 4} {x : Int64} (hd : decode y.2.1 pc = .ok (.lload_n k, 1)) (hl : L[(k : Nat)]? = some (some (.long x))) (h : V g d y (pc + 1) L (.long x :: st) A Φ) : V g d y pc L (st) A Φ :=
  fun p l e R s m args below meth c z C H locs cells slots ls X => lv_lload_n C.1 C.2.1 hd rfl (X.1.2.2.2 _ _ hl) (h p l e R s m args below meth c z C H locs cells slots ls X)
theorem v_lload {k : Nat} {x : Int64} (hd : decode y.2.1 pc = .ok (.lload k, 2)) (hl : L[k]? = some (some (.long x))) (h : V g d y (pc + 2) L (.long x :: st) A Φ) : V g d y pc L (st) A Φ :=
  fun p l e R s m args below meth c z C H locs cells slots ls X => lv_lload C.1 C.2.1 hd (X.1.2.2.2 _ _ hl) (h p l e R s m args below meth c z C H locs cells slots ls X)
theorem v_aload_n {k : Fin 4} {x : Nat} (hd : decode y.2.1 pc = .ok (.aload_n k, 1)) (hl : L[(k : Nat)]? = some (some (.ref x))) (h : V g d y (pc + 1) L (.ref x :: st) A Φ) : V g d y pc L (st) A Φ :=
  fun p l e R s m args below meth c z C H locs cells slots ls X => lv_aload_n C.1 C.2.1 hd rfl (X.1.2.2.2 _ _ hl) (h p l e R s m args below meth c z C H locs cells slots ls X)
theorem v_aload {k : Nat} {x : Nat} (hd : decode y.2.1 pc = .ok (.aload k, 2)) (hl : L[k]? = some (some (.ref x))) (h : V g d y (pc + 2) L (.ref x :: st) A Φ) : V g d y pc L (st) A Φ :=
  fun p l e R s m args below meth c z C H locs cells slots ls X => lv_aload C.1 C.2.1 hd (X.1.2.2.2 _ _ hl) (h p l e R s m args below meth c z C H locs cells slots ls X)
theorem v_aloadN_n {k : Fin 4} (hd : decode y.2.1 pc = .ok (.aload_n k, 1)) (hl : L[(k : Nat)]? = some (some .null)) (h : V g d y (pc + 1) L (.null :: st) A Φ) : V g d y pc L (st) A Φ :=
  fun p l e R s m args below meth c z C H locs cells slots ls X => lv_aload_nN C.1 C.2.1 hd rfl (X.1.2.2.2 _ _ hl) (h p l e R s m args below meth c z C H locs cells slots ls X)
theorem v_aloadN {k : Nat} (hd : decode y.2.1 pc = .ok (.aload k, 2)) (hl : L[k]? = some (some .null)) (h : V g d y (pc + 2) L (.null :: st) A Φ) : V g d y pc L (st) A Φ :=
  fun p l e R s m args below meth c z C H locs cells slots ls X => lv_aloadN C.1 C.2.1 hd (X.1.2.2.2 _ _ hl) (h p l e R s m args below meth c z C H locs cells slots ls X)
theorem v_iadd {a b : Int32} (hd : decode y.2.1 pc = .ok (.iadd, 1))  (h : V g d y (pc + 1) L (.int (a + b) :: st) A Φ) : V g d y pc L (.int b :: .int a :: st) A Φ :=
  fun p l e R s m args below meth c z C H locs cells slots ls X => lv_iadd C.1 C.2.1 hd  (h p l e R s m args below meth c z C H locs cells slots ls X)
theorem v_isub {a b : Int32} (hd : decode y.2.1 pc = .ok (.isub, 1))  (h : V g d y (pc + 1) L (.int (a - b) :: st) A Φ) : V g d y pc L (.int b :: .int a :: st) A Φ :=
  fun p l e R s m args below meth c z C H locs cells slots ls X => lv_isub C.1 C.2.1 hd  (h p l e R s m args below meth c z C H locs cells slots ls X)
theorem v_imul {a b : Int32} (hd : decode y.2.1 pc = .ok (.imul, 1))  (h : V g d y (pc + 1) L (.int (a * b) :: st) A Φ) : V g d y pc L (.int b :: .int a :: st) A Φ :=
  fun p l e R s m args below meth c z C H locs cells slots ls X => lv_imul C.1 C.2.1 hd  (h p l e R s m args below meth c z C H locs cells slots ls X)
theorem v_iand {a b : Int32} (hd : decode y.2.1 pc = .ok (.iand, 1))  (h : V g d y (pc + 1) L (.int (a &&& b) :: st) A Φ) : V g d y pc L (.int b :: .int a :: st) A Φ :=
  fun p l e R s m args below meth c z C H locs cells slots ls X => lv_iand C.1 C.2.1 hd  (h p l e R s m args below meth c z C H locs cells slots ls X)
theorem v_ior {a b : Int32} (hd : decode y.2.1 pc = .ok (.ior, 1))  (h : V g d y (pc + 1) L (.int (a ||| b) :: st) A Φ) : V g d y pc L (.int b :: .int a :: st) A Φ :=
  fun p l e R s m args below meth c z C H locs cells slots ls X => lv_ior C.1 C.2.1 hd  (h p l e R s m args below meth c z C H locs cells slots ls X)
theorem v_ixor {a b : Int32} (hd : decode y.2.1 pc = .ok (.ixor, 1))  (h : V g d y (pc + 1) L (.int (a ^^^ b) :: st) A Φ) : V g d y pc L (.int b :: .int a :: st) A Φ :=
  fun p l e R s m args below meth c z C H locs cells slots ls X => lv_ixor C.1 C.2.1 hd  (h p l e R s m args below meth c z C H locs cells slots ls X)
theorem v_ishl {a b : Int32} (hd : decode y.2.1 pc = .ok (.ishl, 1))  (h : V g d y (pc + 1) L (.int (a <<< (b &&& 31)) :: st) A Φ) : V g d y pc L (.int b :: .int a :: st) A Φ :=
  fun p l e R s m args below meth c z C H locs cells slots ls X => lv_ishl C.1 C.2.1 hd  (h p l e R s m args below meth c z C H locs cells slots ls X)
theorem v_ishr {a b : Int32} (hd : decode y.2.1 pc = .ok (.ishr, 1))  (h : V g d y (pc + 1) L (.int (a >>> (b &&& 31)) :: st) A Φ) : V g d y pc L (.int b :: .int a :: st) A Φ :=
  fun p l e R s m args below meth c z C H locs cells slots ls X => lv_ishr C.1 C.2.1 hd  (h p l e R s m args below meth c z C H locs cells slots ls X)
theorem v_idiv {a b : Int32} (hd : decode y.2.1 pc = .ok (.idiv, 1)) (hne : ¬ b = 0) (h : V g d y (pc + 1) L (.int (a / b) :: st) A Φ) : V g d y pc L (.int b :: .int a :: st) A Φ :=
  fun p l e R s m args below meth c z C H locs cells slots ls X => lv_idiv C.1 C.2.1 hd hne (h p l e R s m args below meth c z C H locs cells slots ls X)
theorem v_irem {a b : Int32} (hd : decode y.2.1 pc = .ok (.irem, 1)) (hne : ¬ b = 0) (h : V g d y (pc + 1) L (.int (a - a / b * b) :: st) A Φ) : V g d y pc L (.int b :: .int a :: st) A Φ :=
  fun p l e R s m args below meth c z C H locs cells slots ls X => lv_irem C.1 C.2.1 hd hne (h p l e R s m args below meth c z C H locs cells slots ls X)
theorem v_ineg {a : Int32} (hd : decode y.2.1 pc = .ok (.ineg, 1))  (h : V g d y (pc + 1) L (.int (-a) :: st) A Φ) : V g d y pc L (.int a :: st) A Φ :=
  fun p l e R s m args below meth c z C H locs cells slots ls X => lv_ineg C.1 C.2.1 hd  (h p l e R s m args below meth c z C H locs cells slots ls X)
theorem v_ladd {a b : Int64} (hd : decode y.2.1 pc = .ok (.ladd, 1))  (h : V g d y (pc + 1) L (.long (a + b) :: st) A Φ) : V g d y pc L (.long b :: .long a :: st) A Φ :=
  fun p l e R s m args below meth c z C H locs cells slots ls X => lv_ladd C.1 C.2.1 hd  (h p l e R s m args below meth c z C H locs cells slots ls X)
theorem v_lsub {a b : Int64} (hd : decode y.2.1 pc = .ok (.lsub, 1))  (h : V g d y (pc + 1) L (.long (a - b) :: st) A Φ) : V g d y pc L (.long b :: .long a :: st) A Φ :=
  fun p l e R s m args below meth c z C H locs cells slots ls X => lv_lsub C.1 C.2.1 hd  (h p l e R s m args below meth c z C H locs cells slots ls X)
theorem v_lmul {a b : Int64} (hd : decode y.2.1 pc = .ok (.lmul, 1))  (h : V g d y (pc + 1) L (.long (a * b) :: st) A Φ) : V g d y pc L (.long b :: .long a :: st) A Φ :=
  fun p l e R s m args below meth c z C H locs cells slots ls X => lv_lmul C.1 C.2.1 hd  (h p l e R s m args below meth c z C H locs cells slots ls X)
theorem v_lcmp {a b : Int64} (hd : decode y.2.1 pc = .ok (.lcmp, 1))  (h : V g d y (pc + 1) L (.int (lg_cmp a b) :: st) A Φ) : V g d y pc L (.long b :: .long a :: st) A Φ :=
  fun p l e R s m args below meth c z C H locs cells slots ls X => W.lcmp C.1 C.2.1 hd  (h p l e R s m args below meth c z C H locs cells slots ls X)
theorem v_i2l {a : Int32} (hd : decode y.2.1 pc = .ok (.i2l, 1))  (h : V g d y (pc + 1) L (.long a.toInt64 :: st) A Φ) : V g d y pc L (.int a :: st) A Φ :=
  fun p l e R s m args below meth c z C H locs cells slots ls X => lv_i2l C.1 C.2.1 hd rfl (h p l e R s m args below meth c z C H locs cells slots ls X)
theorem v_l2i {a : Int64} (hd : decode y.2.1 pc = .ok (.l2i, 1))  (h : V g d y (pc + 1) L (.int a.toInt32 :: st) A Φ) : V g d y pc L (.long a :: st) A Φ :=
  fun p l e R s m args below meth c z C H locs cells slots ls X => lv_l2i C.1 C.2.1 hd rfl (h p l e R s m args below meth c z C H locs cells slots ls X)
theorem v_dup {a : Value} (hd : decode y.2.1 pc = .ok (.dup, 1)) (h1 : a.category = 1) (h : V g d y (pc + 1) L (a :: a :: st) A Φ) : V g d y pc L (a :: st) A Φ :=
  fun p l e R s m args below meth c z C H locs cells slots ls X => lv_dup C.1 C.2.1 hd h1 (h p l e R s m args below meth c z C H locs cells slots ls X)
theorem v_pop {a : Value} (hd : decode y.2.1 pc = .ok (.pop, 1)) (h1 : a.category = 1) (h : V g d y (pc + 1) L (st) A Φ) : V g d y pc L (a :: st) A Φ :=
  fun p l e R s m args below meth c z C H locs cells slots ls X => lv_pop C.1 C.2.1 hd h1 (h p l e R s m args below meth c z C H locs cells slots ls X)
theorem v_dup_x1 {a b : Value} (hd : decode y.2.1 pc = .ok (.dup_x1, 1)) (h1 : a.category = 1) (h2 : b.category = 1) (h : V g d y (pc + 1) L (a :: b :: a :: st) A Φ) : V g d y pc L (a :: b :: st) A Φ :=
  fun p l e R s m args below meth c z C H locs cells slots ls X => lv_dup_x1 C.1 C.2.1 hd h1 h2 (h p l e R s m args below meth c z C H locs cells slots ls X)
theorem v_dup_x2 {a b c : Value} (hd : decode y.2.1 pc = .ok (.dup_x2, 1)) (h1 : a.category = 1) (h2 : b.category = 1) (h3 : c.category = 1) (h : V g d y (pc + 1) L (a :: b :: c :: a :: st) A Φ) : V g d y pc L (a :: b :: c :: st) A Φ :=
  fun p l e R s m args below meth c z C H locs cells slots ls X => lv_dup_x2 C.1 C.2.1 hd h1 h2 h3 (h p l e R s m args below meth c z C H locs cells slots ls X)
theorem v_dup2 {a b : Value} (hd : decode y.2.1 pc = .ok (.dup2, 1)) (h1 : a.category = 1) (h2 : b.category = 1) (h : V g d y (pc + 1) L (a :: b :: a :: b :: st) A Φ) : V g d y pc L (a :: b :: st) A Φ :=
  fun p l e R s m args below meth c z C H locs cells slots ls X => lv_dup2_11 C.1 C.2.1 hd h1 h2 (h p l e R s m args below meth c z C H locs cells slots ls X)
theorem v_if_eq {x : Int32} {off : Int} {tgt : Nat} (hd : decode y.2.1 pc = .ok (.ifCond .eq off, 3)) (ht : (pc : Int) + off = (tgt : Int)) (kt : x = 0 → V g d y tgt L st A Φ) (kf : ¬ (x = 0) → V g d y (pc + 3) L st A Φ) : V g d y pc L (.int x :: st) A Φ :=
  fun p l e R s m args below meth c z C H locs cells slots ls X => lv_if_eq C.1 C.2.1 hd ht (fun q => kt q p l e R s m args below meth c z C H locs cells slots ls X) (fun q => kf q p l e R s m args below meth c z C H locs cells slots ls X)
theorem v_icmp_eq {x w : Int32} {off : Int} {tgt : Nat} (hd : decode y.2.1 pc = .ok (.if_icmp .eq off, 3)) (ht : (pc : Int) + off = (tgt : Int)) (kt : x = w → V g d y tgt L st A Φ) (kf : ¬ (x = w) → V g d y (pc + 3) L st A Φ) : V g d y pc L (.int w :: .int x :: st) A Φ :=
  fun p l e R s m args below meth c z C H locs cells slots ls X => lv_icmp_eq C.1 C.2.1 hd ht (fun q => kt q p l e R s m args below meth c z C H locs cells slots ls X) (fun q => kf q p l e R s m args below meth c z C H locs cells slots ls X)
theorem v_if_ne {x : Int32} {off : Int} {tgt : Nat} (hd : decode y.2.1 pc = .ok (.ifCond .ne off, 3)) (ht : (pc : Int) + off = (tgt : Int)) (kt : ¬ x = 0 → V g d y tgt L st A Φ) (kf : x = 0 → V g d y (pc + 3) L st A Φ) : V g d y pc L (.int x :: st) A Φ :=
  fun p l e R s m args below meth c z C H locs cells slots ls X => lv_if_ne C.1 C.2.1 hd ht (fun q => kt q p l e R s m args below meth c z C H locs cells slots ls X) (fun q => kf q p l e R s m args below meth c z C H locs cells slots ls X)
theorem v_icmp_ne {x w : Int32} {off : Int} {tgt : Nat} (hd : decode y.2.1 pc = .ok (.if_icmp .ne off, 3)) (ht : (pc : Int) + off = (tgt : Int)) (kt : ¬ x = w → V g d y tgt L st A Φ) (kf : x = w → V g d y (pc + 3) L st A Φ) : V g d y pc L (.int w :: .int x :: st) A Φ :=
  fun p l e R s m args below meth c z C H locs cells slots ls X => lv_icmp_ne C.1 C.2.1 hd ht (fun q => kt q p l e R s m args below meth c z C H locs cells slots ls X) (fun q => kf q p l e R s m args below meth c z C H locs cells slots ls X)
theorem v_if_lt {x : Int32} {off : Int} {tgt : Nat} (hd : decode y.2.1 pc = .ok (.ifCond .lt off, 3)) (ht : (pc : Int) + off = (tgt : Int)) (kt : x < 0 → V g d y tgt L st A Φ) (kf : ¬ (x < 0) → V g d y (pc + 3) L st A Φ) : V g d y pc L (.int x :: st) A Φ :=
  fun p l e R s m args below meth c z C H locs cells slots ls X => lv_if_lt C.1 C.2.1 hd ht (fun q => kt q p l e R s m args below meth c z C H locs cells slots ls X) (fun q => kf q p l e R s m args below meth c z C H locs cells slots ls X)
theorem v_icmp_lt {x w : Int32} {off : Int} {tgt : Nat} (hd : decode y.2.1 pc = .ok (.if_icmp .lt off, 3)) (ht : (pc : Int) + off = (tgt : Int)) (kt : x < w → V g d y tgt L st A Φ) (kf : ¬ (x < w) → V g d y (pc + 3) L st A Φ) : V g d y pc L (.int w :: .int x :: st) A Φ :=
  fun p l e R s m args below meth c z C H locs cells slots ls X => lv_icmp_lt C.1 C.2.1 hd ht (fun q => kt q p l e R s m args below meth c z C H locs cells slots ls X) (fun q => kf q p l e R s m args below meth c z C H locs cells slots ls X)
theorem v_if_ge {x : Int32} {off : Int} {tgt : Nat} (hd : decode y.2.1 pc = .ok (.ifCond .ge off, 3)) (ht : (pc : Int) + off = (tgt : Int)) (kt : 0 ≤ x → V g d y tgt L st A Φ) (kf : ¬ (0 ≤ x) → V g d y (pc + 3) L st A Φ) : V g d y pc L (.int x :: st) A Φ :=
  fun p l e R s m args below meth c z C H locs cells slots ls X => lv_if_ge C.1 C.2.1 hd ht (fun q => kt q p l e R s m args below meth c z C H locs cells slots ls X) (fun q => kf q p l e R s m args below meth c z C H locs cells slots ls X)
theorem v_icmp_ge {x w : Int32} {off : Int} {tgt : Nat} (hd : decode y.2.1 pc = .ok (.if_icmp .ge off, 3)) (ht : (pc : Int) + off = (tgt : Int)) (kt : w ≤ x → V g d y tgt L st A Φ) (kf : ¬ (w ≤ x) → V g d y (pc + 3) L st A Φ) : V g d y pc L (.int w :: .int x :: st) A Φ :=
  fun p l e R s m args below meth c z C H locs cells slots ls X => lv_icmp_ge C.1 C.2.1 hd ht (fun q => kt q p l e R s m args below meth c z C H locs cells slots ls X) (fun q => kf q p l e R s m args below meth c z C H locs cells slots ls X)
theorem v_if_gt {x : Int32} {off : Int} {tgt : Nat} (hd : decode y.2.1 pc = .ok (.ifCond .gt off, 3)) (ht : (pc : Int) + off = (tgt : Int)) (kt : 0 < x → V g d y tgt L st A Φ) (kf : ¬ (0 < x) → V g d y (pc + 3) L st A Φ) : V g d y pc L (.int x :: st) A Φ :=
  fun p l e R s m args below meth c z C H locs cells slots ls X => lv_if_gt C.1 C.2.1 hd ht (fun q => kt q p l e R s m args below meth c z C H locs cells slots ls X) (fun q => kf q p l e R s m args below meth c z C H locs cells slots ls X)
theorem v_icmp_gt {x w : Int32} {off : Int} {tgt : Nat} (hd : decode y.2.1 pc = .ok (.if_icmp .gt off, 3)) (ht : (pc : Int) + off = (tgt : Int)) (kt : w < x → V g d y tgt L st A Φ) (kf : ¬ (w < x) → V g d y (pc + 3) L st A Φ) : V g d y pc L (.int w :: .int x :: st) A Φ :=
  fun p l e R s m args below meth c z C H locs cells slots ls X => lv_icmp_gt C.1 C.2.1 hd ht (fun q => kt q p l e R s m args below meth c z C H locs cells slots ls X) (fun q => kf q p l e R s m args below meth c z C H locs cells slots ls X)
theorem v_if_le {x : Int32} {off : Int} {tgt : Nat} (hd : decode y.2.1 pc = .ok (.ifCond .le off, 3)) (ht : (pc : Int) + off = (tgt : Int)) (kt : x ≤ 0 → V g d y tgt L st A Φ) (kf : ¬ (x ≤ 0) → V g d y (pc + 3) L st A Φ) : V g d y pc L (.int x :: st) A Φ :=
  fun p l e R s m args below meth c z C H locs cells slots ls X => lv_if_le C.1 C.2.1 hd ht (fun q => kt q p l e R s m args below meth c z C H locs cells slots ls X) (fun q => kf q p l e R s m args below meth c z C H locs cells slots ls X)
theorem v_icmp_le {x w : Int32} {off : Int} {tgt : Nat} (hd : decode y.2.1 pc = .ok (.if_icmp .le off, 3)) (ht : (pc : Int) + off = (tgt : Int)) (kt : x ≤ w → V g d y tgt L st A Φ) (kf : ¬ (x ≤ w) → V g d y (pc + 3) L st A Φ) : V g d y pc L (.int w :: .int x :: st) A Φ :=
  fun p l e R s m args below meth c z C H locs cells slots ls X => lv_icmp_le C.1 C.2.1 hd ht (fun q => kt q p l e R s m args below meth c z C H locs cells slots ls X) (fun q => kf q p l e R s m args below meth c z C H locs cells slots ls X)
theorem v_goto {off : Int} {tgt : Nat} (hd : decode y.2.1 pc = .ok (.goto off, 3)) (ht : (pc : Int) + off = (tgt : Int)) (h : V g d y tgt L st A Φ) : V g d y pc L st A Φ :=
  fun p l e R s m args below meth c z C H locs cells slots ls X => lv_goto C.1 C.2.1 hd ht (h p l e R s m args below meth c z C H locs cells slots ls X)
theorem v_ifnonnull {x : Nat} {off : Int} {tgt : Nat} (hd : decode y.2.1 pc = .ok (.ifnonnull off, 3)) (ht : (pc : Int) + off = (tgt : Int)) (h : V g d y tgt L st A Φ) : V g d y pc L (.ref x :: st) A Φ :=
  fun p l e R s m args below meth c z C H locs cells slots ls X => lv_ifnonnull C.1 C.2.1 hd ht (h p l e R s m args below meth c z C H locs cells slots ls X)
theorem v_ifnull {x : Nat} {off : Int} (hd : decode y.2.1 pc = .ok (.ifnull off, 3)) (h : V g d y (pc + 3) L st A Φ) : V g d y pc L (.ref x :: st) A Φ :=
  fun p l e R s m args below meth c z C H locs cells slots ls X => lv_ifnull C.1 C.2.1 hd (h p l e R s m args below meth c z C H locs cells slots ls X)
theorem v_ifnullN {off : Int} {tgt : Nat} (hd : decode y.2.1 pc = .ok (.ifnull off, 3)) (ht : (pc : Int) + off = (tgt : Int)) (h : V g d y tgt L st A Φ) : V g d y pc L (.null :: st) A Φ :=
  fun p l e R s m args below meth c z C H locs cells slots ls X => lv_ifnullN C.1 C.2.1 hd ht (h p l e R s m args below meth c z C H locs cells slots ls X)
theorem v_ifnonnullN {off : Int} (hd : decode y.2.1 pc = .ok (.ifnonnull off, 3)) (h : V g d y (pc + 3) L st A Φ) : V g d y pc L (.null :: st) A Φ :=
  fun p l e R s m args below meth c z C H locs cells slots ls X => lv_ifnonnullN C.1 C.2.1 hd (h p l e R s m args below meth c z C H locs cells slots ls X)
theorem v_acmp_ne {rx ry : Option Nat} {off : Int} {tgt : Nat} (hd : decode y.2.1 pc = .ok (.if_acmp .ne off, 3)) (ht : (pc : Int) + off = (tgt : Int)) (kt : ¬ rx = ry → V g d y tgt L st A Φ) (kf : rx = ry → V g d y (pc + 3) L st A Φ) : V g d y pc L (va_rf ry :: va_rf rx :: st) A Φ :=
  fun p l e R s m args below meth c z C H locs cells slots ls X => lv_acmp_ne C.1 C.2.1 hd ht (fun q => kt q p l e R s m args below meth c z C H locs cells slots ls X) (fun q => kf q p l e R s m args below meth c z C H locs cells slots ls X)
theorem v_acmp_eq {rx ry : Option Nat} {off : Int} {tgt : Nat} (hd : decode y.2.1 pc = .ok (.if_acmp .eq off, 3)) (ht : (pc : Int) + off = (tgt : Int)) (kt : rx = ry → V g d y tgt L st A Φ) (kf : ¬ rx = ry → V g d y (pc + 3) L st A Φ) : V g d y pc L (va_rf ry :: va_rf rx :: st) A Φ :=
  fun p l e R s m args below meth c z C H locs cells slots ls X => lv_acmp_eq C.1 C.2.1 hd ht (fun q => kt q p l e R s m args below meth c z C H locs cells slots ls X) (fun q => kf q p l e R s m args below meth c z C H locs cells slots ls X)
theorem v_instN {index : Nat} (hd : decode y.2.1 pc = .ok (.instanceof index, 3)) (h : V g d y (pc + 3) L (.int 0 :: st) A Φ) : V g d y pc L (.null :: st) A Φ :=
  fun p l e R s m args below meth c z C H locs cells slots ls X => lv_instN C.1 C.2.1 hd (h p l e R s m args below meth c z C H locs cells slots ls X)
theorem v_tableOut {dflt lo hi : Int} {offs : Array Int} {len : Nat} {x : Int32} {tgt : Nat} (hd : decode y.2.1 pc = .ok (.tableswitch dflt lo hi offs, len)) (h1 : x.toInt < lo ∨ hi < x.toInt) (ht : (pc : Int) + dflt = (tgt : Int)) (h : V g d y tgt L st A Φ) : V g d y pc L (.int x :: st) A Φ :=
  fun p l e R s m args below meth c z C H locs cells slots ls X => lv_tableOut C.1 C.2.1 hd h1 ht (h p l e R s m args below meth c z C H locs cells slots ls X)
theorem v_tableIn {dflt lo hi : Int} {offs : Array Int} {len : Nat} {x : Int32} {off : Int} {tgt : Nat} (hd : decode y.2.1 pc = .ok (.tableswitch dflt lo hi offs, len)) (h1 : ¬ x.toInt < lo) (h2 : ¬ hi < x.toInt) (ho : offs[(x.toInt - lo).toNat]? = some off) (ht : (pc : Int) + off = (tgt : Int)) (h : V g d y tgt L st A Φ) : V g d y pc L (.int x :: st) A Φ :=
  fun p l e R s m args below meth c z C H locs cells slots ls X => lv_tableIn C.1 C.2.1 hd h1 h2 ho ht (h p l e R s m args below meth c z C H locs cells slots ls X)

def noL (L : Lo) (i : Nat) : Bool := match i with
  | 0 => true
  | j + 1 => match L[j]? with
    | some (some v) => v.category == 1
    | _ => true
theorem LR.st1 {ls : Array Slot} {n i : Nat} {v : Value} (h : LR L ls n) (hi : i < n) (hc : v.category = 1) (hn : noL L i = true) : ∃ ls', storeLocals ls i v = some ls' ∧ LR (L.set i (some v)) ls' n := by
  obtain ⟨hs, hw, hlen, hl⟩ := h
  obtain ⟨ls', e', h'⟩ := lv_store1 (v := v) (l := []) ⟨hs, hw, fun q hq => by cases hq⟩ hi hc
  refine ⟨ls', e', h'.1, h'.2.1, by rw [List.length_set]; exact hlen, fun j w hj => ?_⟩
  rw [List.getElem?_set] at hj
  split at hj
  · rename_i hji
    subst hji
    split at hj
    · cases hj
      exact h'.2.2 (_, v) List.mem_cons_self
    · cases hj
  · rename_i hji
    obtain ⟨ls2, e2, h2⟩ := lv_store1 (v := v) (l := [(j, w)]) ⟨hs, hw, fun q hq => by
      have : q = (j, w) := by simpa using hq
      subst this; exact hl j w hj⟩ hi hc
    cases e'.symm.trans e2
    refine h2.2.2 (j, w) (List.mem_cons_of_mem _ ?_)
    rw [List.mem_filter]
    refine ⟨List.mem_cons_self, ?_⟩
    have h3 : ¬ (j + 1 = i ∧ w.category = 2) := by
      rintro ⟨rfl, hw2⟩
      simp only [noL, hj] at hn
      rw [hw2] at hn
      exact absurd hn (by decide)
    simp only [Bool.and_eq_true, Bool.not_eq_true', beq_eq_false_iff_ne, ne_eq, Bool.and_eq_false_iff]
    refine ⟨fun q => hji q.symm, ?_⟩
    by_cases hq : j + 1 = i
    · exact Or.inr fun q => h3 ⟨hq, q⟩
    · exact Or.inl hq
theorem LR.st2 {ls : Array Slot} {n i : Nat} {v : Value} (h : LR L ls n) (hi : i + 1 < n) (hc : v.category = 2) (hn : noL L i = true) : ∃ ls', storeLocals ls i v = some ls' ∧ LR ((L.set (i + 1) none).set i (some v)) ls' n := by
  obtain ⟨hs, hw, hlen, hl⟩ := h
  obtain ⟨ls', e', h'⟩ := lv_store2 (v := v) (l := []) ⟨hs, hw, fun q hq => by cases hq⟩ hi hc
  refine ⟨ls', e', h'.1, h'.2.1, by rw [List.length_set, List.length_set]; exact hlen, fun j w hj => ?_⟩
  rw [List.getElem?_set, List.getElem?_set] at hj
  split at hj
  · rename_i hji
    subst hji
    split at hj
    · cases hj
      exact h'.2.2 (_, v) List.mem_cons_self
    · cases hj
  · rename_i hji
    split at hj
    · split at hj <;> cases hj
    · rename_i hji2
      obtain ⟨ls2, e2, h2⟩ := lv_store2 (v := v) (l := [(j, w)]) ⟨hs, hw, fun q hq => by
        have : q = (j, w) := by simpa using hq
        subst this; exact hl j w hj⟩ hi hc
      cases e'.symm.trans e2
      refine h2.2.2 (j, w) (List.mem_cons_of_mem _ ?_)
      rw [List.mem_filter]
      refine ⟨List.mem_cons_self, ?_⟩
      have h3 : ¬ (j + 1 = i ∧ w.category = 2) := by
        rintro ⟨rfl, hw2⟩
        simp only [noL, hj] at hn
        rw [hw2] at hn
        exact absurd hn (by decide)
      simp only [Bool.and_eq_true, Bool.not_eq_true', beq_eq_false_iff_ne, ne_eq, Bool.and_eq_false_iff]
      refine ⟨fun q => hji q.symm, fun q => hji2 q.symm, ?_⟩
      by_cases hq : j + 1 = i
      · exact Or.inr fun q => h3 ⟨hq, q⟩
      · exact Or.inl hq
theorem v_istore_n {k : Fin 4} {x : Int32} (hd : decode y.2.1 pc = .ok (.istore_n k, 1)) (hi : (k : Nat) < y.2.2.1) (hn : noL L (k : Nat) = true) (h : V g d y (pc + 1) (L.set (k : Nat) (some (.int x))) st A Φ) : V g d y pc L (.int x :: st) A Φ := by
  intro p l e R s m args below meth c z C H locs cells slots ls X
  have hexec := C.1
  have hb := C.2.1
  obtain ⟨ls', e', h'⟩ := X.1.st1 (v := .int x) hi rfl hn
  intro T hT Y
  obtain ⟨t, a, b⟩ := h p l e R s m args below meth c z C H locs cells slots ls' ⟨h', X.2⟩ T hT Y
  refine ⟨t, ?_, b⟩
  jvm_step Y.here [Y.here.top, ↓top_set Y.here.top, hexec, hb, hd, e', Value.isRef]
  exact a
theorem v_istore {k : Nat} {x : Int32} (hd : decode y.2.1 pc = .ok (.istore k, 2)) (hi : k < y.2.2.1) (hn : noL L k = true) (h : V g d y (pc + 2) (L.set k (some (.int x))) st A Φ) : V g d y pc L (.int x :: st) A Φ := by
  intro p l e R s m args below meth c z C H locs cells slots ls X
  have hexec := C.1
  have hb := C.2.1
  obtain ⟨ls', e', h'⟩ := X.1.st1 (v := .int x) hi rfl hn
  intro T hT Y
  obtain ⟨t, a, b⟩ := h p l e R s m args below meth c z C H locs cells slots ls' ⟨h', X.2⟩ T hT Y
  refine ⟨t, ?_, b⟩
  jvm_step Y.here [Y.here.top, ↓top_set Y.here.top, hexec, hb, hd, e', Value.isRef]
  exact a
theorem v_lstore_n {k : Fin 4} {x : Int64} (hd : decode y.2.1 pc = .ok (.lstore_n k, 1)) (hi : (k : Nat) + 1 < y.2.2.1) (hn : noL L (k : Nat) = true) (h : V g d y (pc + 1) ((L.set ((k : Nat) + 1) none).set (k : Nat) (some (.long x))) st A Φ) : V g d y pc L (.long x :: st) A Φ := by
  intro p l e R s m args below meth c z C H locs cells slots ls X
  have hexec := C.1
  have hb := C.2.1
  obtain ⟨ls', e', h'⟩ := X.1.st2 (v := .long x) hi rfl hn
  intro T hT Y
  obtain ⟨t, a, b⟩ := h p l e R s m args below meth c z C H locs cells slots ls' ⟨h', X.2⟩ T hT Y
  refine ⟨t, ?_, b⟩
  jvm_step Y.here [Y.here.top, ↓top_set Y.here.top, hexec, hb, hd, e', Value.isRef]
  exact a
theorem v_lstore {k : Nat} {x : Int64} (hd : decode y.2.1 pc = .ok (.lstore k, 2)) (hi : k + 1 < y.2.2.1) (hn : noL L k = true) (h : V g d y (pc + 2) ((L.set (k + 1) none).set k (some (.long x))) st A Φ) : V g d y pc L (.long x :: st) A Φ := by
  intro p l e R s m args below meth c z C H locs cells slots ls X
  have hexec := C.1
  have hb := C.2.1
  obtain ⟨ls', e', h'⟩ := X.1.st2 (v := .long x) hi rfl hn
  intro T hT Y
  obtain ⟨t, a, b⟩ := h p l e R s m args below meth c z C H locs cells slots ls' ⟨h', X.2⟩ T hT Y
  refine ⟨t, ?_, b⟩
  jvm_step Y.here [Y.here.top, ↓top_set Y.here.top, hexec, hb, hd, e', Value.isRef]
  exact a
theorem v_astore_n {k : Fin 4} {x : Nat} (hd : decode y.2.1 pc = .ok (.astore_n k, 1)) (hi : (k : Nat) < y.2.2.1) (hn : noL L (k : Nat) = true) (h : V g d y (pc + 1) (L.set (k : Nat) (some (.ref x))) st A Φ) : V g d y pc L (.ref x :: st) A Φ := by
  intro p l e R s m args below meth c z C H locs cells slots ls X
  have hexec := C.1
  have hb := C.2.1
  obtain ⟨ls', e', h'⟩ := X.1.st1 (v := .ref x) hi rfl hn
  intro T hT Y
  obtain ⟨t, a, b⟩ := h p l e R s m args below meth c z C H locs cells slots ls' ⟨h', X.2⟩ T hT Y
  refine ⟨t, ?_, b⟩
  jvm_step Y.here [Y.here.top, ↓top_set Y.here.top, hexec, hb, hd, e', Value.isRef]
  exact a
theorem v_astore {k : Nat} {x : Nat} (hd : decode y.2.1 pc = .ok (.astore k, 2)) (hi : k < y.2.2.1) (hn : noL L k = true) (h : V g d y (pc + 2) (L.set k (some (.ref x))) st A Φ) : V g d y pc L (.ref x :: st) A Φ := by
  intro p l e R s m args below meth c z C H locs cells slots ls X
  have hexec := C.1
  have hb := C.2.1
  obtain ⟨ls', e', h'⟩ := X.1.st1 (v := .ref x) hi rfl hn
  intro T hT Y
  obtain ⟨t, a, b⟩ := h p l e R s m args below meth c z C H locs cells slots ls' ⟨h', X.2⟩ T hT Y
  refine ⟨t, ?_, b⟩
  jvm_step Y.here [Y.here.top, ↓top_set Y.here.top, hexec, hb, hd, e', Value.isRef]
  exact a
theorem v_astoreN_n {k : Fin 4} (hd : decode y.2.1 pc = .ok (.astore_n k, 1)) (hi : (k : Nat) < y.2.2.1) (hn : noL L (k : Nat) = true) (h : V g d y (pc + 1) (L.set (k : Nat) (some (.null))) st A Φ) : V g d y pc L (.null :: st) A Φ := by
  intro p l e R s m args below meth c z C H locs cells slots ls X
  have hexec := C.1
  have hb := C.2.1
  obtain ⟨ls', e', h'⟩ := X.1.st1 (v := .null) hi rfl hn
  intro T hT Y
  obtain ⟨t, a, b⟩ := h p l e R s m args below meth c z C H locs cells slots ls' ⟨h', X.2⟩ T hT Y
  refine ⟨t, ?_, b⟩
  jvm_step Y.here [Y.here.top, ↓top_set Y.here.top, hexec, hb, hd, e', Value.isRef]
  exact a
theorem v_astoreN {k : Nat} (hd : decode y.2.1 pc = .ok (.astore k, 2)) (hi : k < y.2.2.1) (hn : noL L k = true) (h : V g d y (pc + 2) (L.set k (some (.null))) st A Φ) : V g d y pc L (.null :: st) A Φ := by
  intro p l e R s m args below meth c z C H locs cells slots ls X
  have hexec := C.1
  have hb := C.2.1
  obtain ⟨ls', e', h'⟩ := X.1.st1 (v := .null) hi rfl hn
  intro T hT Y
  obtain ⟨t, a, b⟩ := h p l e R s m args below meth c z C H locs cells slots ls' ⟨h', X.2⟩ T hT Y
  refine ⟨t, ?_, b⟩
  jvm_step Y.here [Y.here.top, ↓top_set Y.here.top, hexec, hb, hd, e', Value.isRef]
  exact a
theorem v_iinc {k : Nat} {n : Int} {x : Int32} (hd : decode y.2.1 pc = .ok (.iinc k n, 3)) (hl : L[k]? = some (some (.int x))) (hi : k < y.2.2.1) (hn : noL L k = true) (h : V g d y (pc + 3) (L.set k (some (.int (x + Int32.ofInt n)))) st A Φ) : V g d y pc L st A Φ := by
  intro p l e R s m args below meth c z C H locs cells slots ls X
  have hexec := C.1
  have hb := C.2.1
  have hg := X.1.2.2.2 _ _ hl
  obtain ⟨ls', e', h'⟩ := X.1.st1 (v := .int (x + Int32.ofInt n)) hi rfl hn
  intro T hT Y
  obtain ⟨t, a, b⟩ := h p l e R s m args below meth c z C H locs cells slots ls' ⟨h', X.2⟩ T hT Y
  refine ⟨t, ?_, b⟩
  jvm_step Y.here [Y.here.top, ↓top_set Y.here.top, hexec, hb, hd, hg, e']
  exact a
end VR
end
section
/-! rules of V for fields, arrays, new cells and returns -/
def aset (A : AH) (a : Nat) (x : AC) : AH := (fun q => if q = a then some x else A.1 q, A.2.1, A.2.2)
def anew (A : AH) (x : AC) (n : Nat) : AH := (fun q => if q = A.2.1 then some x else A.1 q, A.2.1 + 1, A.2.2 + n)
theorem HR.set {g : Gx} {A : AH} {H H' : Heap} {a : Nat} {x x' : AC} {cell : Cell} (h : HR g A H) (ha : A.1 a = some x) (e1 : H'[a]? = some cell) (hok : okC g x' cell) (e2 : H'.size = H.size) (e3 : ∀ q, q ≠ a → H'[q]? = H[q]?) : HR g (aset A a x') H' := by
  obtain ⟨h1, h2, h3, hl, hs, h4⟩ := h
  refine ⟨e2.trans h1, by rw [e2]; exact h2, fun q hq => ?_, hl, hs, fun b w hb => ?_⟩
  · rw [e3 q (Nat.ne_of_lt (Nat.lt_of_lt_of_le hq (h4 a x ha).1))]; exact h3 q hq
  · simp only [aset] at hb
    split at hb
    · rename_i hba
      cases hb; subst hba
      exact ⟨(h4 _ x ha).1, cell, e1, hok⟩
    · rename_i hba
      obtain ⟨p1, cb, p2, p3⟩ := h4 b w hb
      exact ⟨p1, cb, by rw [e3 b hba]; exact p2, p3⟩
theorem HR.new {g : Gx} {A : AH} {H H' : Heap} {x : AC} {cell : Cell} {n : Nat} (h : HR g A H) (e1 : H'[A.2.1]? = some cell) (hok : okC g x cell) (e2 : H'.size = A.2.1 + 1) (e3 : ∀ q, q < A.2.1 → H'[q]? = H[q]?) (hl : A.2.1 + 1 ≤ gL g) (hs : A.2.2 + n ≤ gS g) : HR g (anew A x n) H' := by
  obtain ⟨h1, h2, h3, -, -, h4⟩ := h
  rw [h1] at h2
  refine ⟨e2, by rw [e2]; omega, fun q hq => ?_, hl, hs, fun b w hb => ?_⟩
  · rw [e3 q (Nat.lt_of_lt_of_le hq h2)]; exact h3 q hq
  · simp only [anew] at hb
    split at hb
    · rename_i hba
      cases hb; subst hba
      exact ⟨h2, cell, e1, hok⟩
    · obtain ⟨p1, cb, p2, p3⟩ := h4 b w hb
      have hlt := (Array.getElem?_eq_some_iff.mp p2).1
      rw [h1] at hlt
      exact ⟨p1, cb, by rw [e3 b hlt]; exact p2, p3⟩
theorem okC.obj {g : Gx} {ci : Nat} {fs : List Value} {cell : Cell} (h : okC g (ci, fs) cell) (hci : ci < 100) : ∃ r, (gC g)[ci]? = some r ∧ cell.cls = (gD g).1 ci ∧ cell.vm = .none ∧ fs.length = r.2.2 ∧ ∀ k, k < r.2.2 → cell.slots[(gD g).2 ci k]? = fs[k]? := by
  rcases h with ⟨-, h⟩ | ⟨h, -⟩ | ⟨h, -⟩
  · exact h
  · exact absurd hci (Nat.not_lt.mpr h)
  · exact absurd hci (by simp only at h; omega)
theorem okC.arr {g : Gx} {j : Nat} {fs : List Value} {cell : Cell} (h : okC g (100 + j, fs) cell) (hj : j < 100) : cell = { cls := gA g j, slots := fs.toArray, vm := .none } := by
  rcases h with ⟨h, -⟩ | ⟨-, -, h⟩ | ⟨h, -⟩
  · simp only at h; omega
  · rw [h]; simp
  · simp only at h; omega
/-- a field's row: the words that link it, the class that holds it, its place -/
def FR (WS : List Cond) (cl : List vw_C) (own : String) (idx ci k : Nat) : Prop := ci < 100 ∧ ∃ (C : String) (T : u_T) (N : Nat) (ref : String), cl[ci]? = some (C, T, N) ∧ k < N ∧ (∀ w ∈ u_ws C T N, w ∈ WS) ∧
  (Cond.fieldLink own idx ref (T k).2.1 (T k).2.2.1 ∈ WS ∨ ∃ host, Cond.fieldLinkNest own idx ref (T k).2.1 (T k).2.2.1 host ∈ WS) ∧ (ref = (T k).1 ∨ Cond.sameField ref (T k).1 (T k).2.1 (T k).2.2.1 ∈ WS)
def FP (WS : List Cond) (cl : List vw_C) (own : String) (idx ci k : Nat) (ty : FieldType) (fin : Bool) : Prop := ci < 100 ∧ ∃ (C : String) (T : u_T) (N : Nat) (ref : String) (ty0 : Nat → FieldType), cl[ci]? = some (C, T, N) ∧ k < N ∧ (∀ w ∈ u_ws C T N, w ∈ WS) ∧
  (Cond.fieldLink own idx ref (T k).2.1 (T k).2.2.1 ∈ WS ∨ (fin = false ∧ ∃ host, Cond.fieldLinkNest own idx ref (T k).2.1 (T k).2.2.1 host ∈ WS)) ∧ (ref = (T k).1 ∨ Cond.sameField ref (T k).1 (T k).2.1 (T k).2.2.1 ∈ WS) ∧
  (∀ j, j < N → parseFieldDescriptor (T j).2.2.1 = some (ty0 j)) ∧ (∀ a, a < N → ∀ b, b < N → a ≠ b → (T a).2.1 ≠ (T b).2.1) ∧ parseFieldDescriptor (T k).2.2.1 = some ty ∧ (T k).2.2.2 = fin ∧ (fin = true → (T k).1 = own)
section VH
variable {g : Gx} {d : Nat} {y : MT} {pc : Nat} {L : Lo} {st : List Value} {A : AH} {Φ : Out → AH → Prop}
theorem v_getf {idx ci k a : Nat} {fs : List Value} {v : Value} (hd : decode y.2.1 pc = .ok (.getfield idx, 3)) (hf : FR (gW g) (gC g) y.1.cls idx ci k) (hA : A.1 a = some (ci, fs)) (hv : fs[k]? = some v) (h : V g d y (pc + 3) L (v :: st) A Φ) : V g d y pc L (.ref a :: st) A Φ := by
  intro p l e R s m args below meth c z C H locs cells slots ls X
  have kk := h p l e R s m args below meth c z C H locs cells slots ls X
  obtain ⟨hx, hb, -, -, -, hown, -, -, hT, -⟩ := C
  obtain ⟨hci, Cn, T, N, ref, hc, hk, hin, hlink, hsame⟩ := hf
  obtain ⟨-, cell, hcell, hok⟩ := X.2.1.2.2.2.2.2 a _ hA
  obtain ⟨r, hr', hcls, hvm, hlen, hsl⟩ := hok.obj hci
  cases hr'.symm.trans hc
  obtain ⟨hS, hfc, kC, hkC, hkind⟩ := hT.2.2.1.1 ci _ hc
  obtain ⟨cf, kf, fi, f, hi, hsl2⟩ := hS k hk
  have hi' : s.fieldFound? ref (T k).2.1 (T k).2.2.1 = some (cf, kf, fi, f) := by
    rcases hsame with rfl | hw
    · exact hi
    · exact u_same (hT.1 _ hw) _ hi
  have hst := (u_facts hfc hkC (u_lays hT.1 hin hk) hi).1
  have hslot : cell.slots[f.slot]? = some v := by rw [hsl2, hsl k hk]; exact hv
  have hkn : cell.vm ≠ .unknown := by rw [hvm]; exact fun q => by cases q
  rcases hlink with hw | ⟨host, hw⟩
  · exact W.getf hx hb hown (hT.1 _ hw) hi' hst hcell hkn hslot rfl rfl hd kk
  · exact va_Wgetf hx hb hown (hT.1 _ hw) hi' hst hcell hkn hslot rfl rfl hd kk
theorem okC.setf {g : Gx} {ci k : Nat} {fs : List Value} {cell : Cell} {r : vw_C} {v : Value} (hci : ci < 100) (hr : (gC g)[ci]? = some r) (hcls : cell.cls = (gD g).1 ci) (hvm : cell.vm = .none) (hlen : fs.length = r.2.2) (hsl : ∀ k, k < r.2.2 → cell.slots[(gD g).2 ci k]? = fs[k]?)
    (hap : ∀ x y, x < r.2.2 → y < r.2.2 → x ≠ y → (gD g).2 ci x ≠ (gD g).2 ci y) (hk : k < r.2.2) : okC g (ci, fs.set k v) (cell.setSlot ((gD g).2 ci k) v) := by
  refine Or.inl ⟨hci, r, hr, hcls, hvm, by rw [List.length_set]; exact hlen, fun j hj => ?_⟩
  by_cases hjk : j = k
  · subst hjk
    have h1 := hsl j hj
    rw [List.getElem?_eq_getElem (by omega)] at h1
    have h2 := k2_hasslot h1
    simp [Cell.setSlot, Array.getElem?_setIfInBounds, h2, hlen, hj]
  · have h3 : (gD g).2 ci k ≠ (gD g).2 ci j := hap k j hk hj (fun q => hjk q.symm)
    rw [slot_ne cell v h3, hsl j hj, List.getElem?_set]
    simp [Ne.symm hjk]
theorem v_putf {idx ci k a : Nat} {fs : List Value} {v : Value} {ty : FieldType} {fin : Bool} (hd : decode y.2.1 pc = .ok (.putfield idx, 3)) (hf : FP (gW g) (gC g) y.1.cls idx ci k ty fin) (hfin : fin = true → y.1.name = "<init>") (hA : A.1 a = some (ci, fs)) (hn : narrow ty v = v) (hfit : fits ty v = true)
    (h : V g d y (pc + 3) L st (aset A a (ci, fs.set k v)) Φ) : V g d y pc L (v :: .ref a :: st) A Φ := by
  intro p l e R s m args below meth c z C H locs cells slots ls X
  have kk := h p l e R s m args below meth c z C
  obtain ⟨hx, hb, -, -, -, hown, hnm, -, hT, -⟩ := C
  obtain ⟨hci, Cn, T, N, ref, ty0, hc, hk, hin, hlink, hsame, hty, hnms, hdt, hfb, hdecl⟩ := hf
  obtain ⟨hba, cell, hcell, hok⟩ := X.2.1.2.2.2.2.2 a _ hA
  obtain ⟨r, hr', hcls, hvm, hlen, hsl⟩ := hok.obj hci
  cases hr'.symm.trans hc
  have hap := va_apart (own := y.1.cls) hT.1 hin ty0 hty hnms hT.2.2.1 hc
  obtain ⟨hS, hfc, kC, hkC, hkind⟩ := hT.2.2.1.1 ci _ hc
  obtain ⟨cf, kf, fi, f, hi, hsl2⟩ := hS k hk
  have hi' : s.fieldFound? ref (T k).2.1 (T k).2.2.1 = some (cf, kf, fi, f) := by
    rcases hsame with rfl | hw
    · exact hi
    · exact u_same (hT.1 _ hw) _ hi
  have hst := (u_facts hfc hkC (u_lays hT.1 hin hk) hi).1
  have hlt : f.slot < cell.slots.size := by
    have h1 := hsl k hk
    rw [List.getElem?_eq_getElem (by rw [hlen]; exact hk)] at h1
    rw [hsl2]; exact k2_hasslot h1
  have fin' : ∀ H' : Heap, H'[a]? = some (cell.setSlot f.slot v) → H'.size = H.size → (∀ q, q ≠ a → H'[q]? = H[q]?) →
      W p l e R s m args below meth c H' (locs ++ [⟨a, f.slot⟩]) cells slots (Ex g below s z Φ) (F0 m (pc + 3) ls st) := by
    intro H' e1 e2 e3
    rw [hsl2] at e1
    exact kk H' _ cells slots ls ⟨X.1, X.2.1.set hA e1 (okC.setf hci hc hcls hvm hlen hsl hap hk) e2 e3, X.2.2.1, X.2.2.2.1, t_lc X.2.2.2.2 hba⟩
  have hlay := hT.1 _ (hin _ (u_in_lay hk))
  unfold u_lay at hlay
  cases fin with
  | false =>
    rw [if_neg (by rw [hfb]; decide)] at hlay
    have h6 := u_store hfc hkC hkind hlay hi hdt hn hfit
    rcases hlink with hw | ⟨-, host, hw⟩
    · exact W.putK hx hb (f := f) ⟨hown, hT.1 _ hw, ⟨_, _, _, hi'⟩, hst⟩ (by rw [hcls]; exact h6) hcell hvm hlt rfl rfl hd fin'
    · exact va_WputK hx hb (f := f) hown (hT.1 _ hw) hi' hst (by rw [hcls]; exact h6) hcell hvm hlt rfl rfl hd fin'
  | true =>
    rw [if_pos hfb] at hlay
    have hcf : m.cls = cf := by
      obtain ⟨_, _, c', _, _, _, -, -, hf', -, -, -, hown2, -⟩ := Cond.laysFinal_spec hlay
      have e1 : c' = cf := by have := hi.symm.trans hf'; simp at this; exact this.1.symm
      rw [hdecl rfl] at hown2
      rw [← e1]; exact Option.some.inj (hown.symm.trans hown2)
    have h6 := u_fits hfc hkC hkind (Or.inr hlay) hi hdt hn hfit
    rcases hlink with hw | ⟨hff, -⟩
    · exact W.putFinK hx hb hown (hT.1 _ hw) hi' hst hcf (hnm.trans (hfin rfl)) (by rw [hcls]; exact h6) hcell hvm hlt rfl rfl hd fin'
    · cases hff
theorem arr_setSlot (cA : ClassId) (vs : List Value) (n : Nat) (v : Value) : ({ cls := cA, slots := vs.toArray, vm := .none } : Cell).setSlot n v = { cls := cA, slots := (vs.set n v).toArray, vm := .none } := by
  show ({ cls := cA, slots := vs.toArray.setIfInBounds n v, vm := .none } : Cell) = _
  simp
theorem arr_is {s : State} {cA : ClassId} {ty : FieldType} (h : ArrOfT s cA ty) (vs : List Value) : s.isArrayOf ({ cls := cA, slots := vs.toArray, vm := .none } : Cell) ty := by
  have h1 := h vs.length (fun j => vs.getD j .null)
  have h2 : arrV cA vs.length (fun j => vs.getD j .null) = { cls := cA, slots := vs.toArray, vm := .none } := by
    unfold arrV
    congr 1
    apply Array.ext
    · simp
    · intro i h3 h4
      simp at h3
      simp [h3]
  rw [h2] at h1
  exact h1
theorem HR.arr {H : Heap} {j a : Nat} {vs : List Value} {ty : FieldType} {s : State} {args : Array Value} (h : HR g A H) (hT : TF g s args) (hA : A.1 a = some (100 + j, vs)) (hj : j < 100) (ht : (gT g)[j]? = some ty) :
    ∃ cell : Cell, H[a]? = some cell ∧ (gH g).size ≤ a ∧ cell = { cls := gA g j, slots := vs.toArray, vm := .none } ∧ s.isArrayOf cell ty ∧ cell.vm ≠ .unknown := by
  obtain ⟨hba, cell, hcell, hok⟩ := h.2.2.2.2.2 a _ hA
  have e := hok.arr hj
  refine ⟨cell, hcell, hba, e, ?_, by rw [e]; exact fun q => by cases q⟩
  rw [e]
  exact arr_is (hT.2.2.2.1 j ty ht).1 vs
theorem v_iald {j a : Nat} {vs : List Value} {i : Int32} {v : Value} (hd : decode y.2.1 pc = .ok (.iaload, 1)) (hA : A.1 a = some (100 + j, vs)) (hj : j < 100) (ht : (gT g)[j]? = some .int) (hi : ¬ i < 0) (hv : vs[i.toNatClampNeg]? = some v) (h : V g d y (pc + 1) L (v :: st) A Φ) : V g d y pc L (.int i :: .ref a :: st) A Φ := by
  intro p l e R s m args below meth c z C H locs cells slots ls X
  have kk := h p l e R s m args below meth c z C H locs cells slots ls X
  obtain ⟨hx, hb, -, -, -, hown, -, -, hT, -⟩ := C
  obtain ⟨cell, hcell, hba, e0, harr, hkn⟩ := X.2.1.arr hT hA hj ht
  have hlt := (List.getElem?_eq_some_iff.mp hv).1
  exact W.iald hx hb hcell harr hkn (by rw [e0]; simp only [List.size_toArray]; exact fun q => q.elim hi (fun q => absurd q (Nat.not_le.mpr hlt))) (by rw [e0]; simp only [List.getElem?_toArray]; exact hv) rfl rfl hd kk
theorem v_zald {j a : Nat} {vs : List Value} {i : Int32} {v : Value} (hd : decode y.2.1 pc = .ok (.baload, 1)) (hA : A.1 a = some (100 + j, vs)) (hj : j < 100) (ht : (gT g)[j]? = some .boolean) (hi : ¬ i < 0) (hv : vs[i.toNatClampNeg]? = some v) (h : V g d y (pc + 1) L (v :: st) A Φ) : V g d y pc L (.int i :: .ref a :: st) A Φ := by
  intro p l e R s m args below meth c z C H locs cells slots ls X
  have kk := h p l e R s m args below meth c z C H locs cells slots ls X
  obtain ⟨hx, hb, -, -, -, hown, -, -, hT, -⟩ := C
  obtain ⟨cell, hcell, hba, e0, harr, hkn⟩ := X.2.1.arr hT hA hj ht
  have hlt := (List.getElem?_eq_some_iff.mp hv).1
  exact W.zald hx hb hcell harr hkn (by rw [e0]; simp only [List.size_toArray]; exact fun q => q.elim hi (fun q => absurd q (Nat.not_le.mpr hlt))) (by rw [e0]; simp only [List.getElem?_toArray]; exact hv) rfl rfl hd kk
theorem v_lald {j a : Nat} {vs : List Value} {i : Int32} {v : Value} (hd : decode y.2.1 pc = .ok (.laload, 1)) (hA : A.1 a = some (100 + j, vs)) (hj : j < 100) (ht : (gT g)[j]? = some .long) (hi : ¬ i < 0) (hv : vs[i.toNatClampNeg]? = some v) (h : V g d y (pc + 1) L (v :: st) A Φ) : V g d y pc L (.int i :: .ref a :: st) A Φ := by
  intro p l e R s m args below meth c z C H locs cells slots ls X
  have kk := h p l e R s m args below meth c z C H locs cells slots ls X
  obtain ⟨hx, hb, -, -, -, hown, -, -, hT, -⟩ := C
  obtain ⟨cell, hcell, hba, e0, harr, hkn⟩ := X.2.1.arr hT hA hj ht
  have hlt := (List.getElem?_eq_some_iff.mp hv).1
  exact W.lald hx hb hcell harr hkn (by rw [e0]; simp only [List.size_toArray]; exact fun q => q.elim hi (fun q => absurd q (Nat.not_le.mpr hlt))) (by rw [e0]; simp only [List.getElem?_toArray]; exact hv) rfl rfl hd kk
theorem v_aald {j a : Nat} {vs : List Value} {i : Int32} {v : Value} {ty : FieldType} (hd : decode y.2.1 pc = .ok (.aaload, 1)) (hA : A.1 a = some (100 + j, vs)) (hj : j < 100) (ht : (gT g)[j]? = some ty) (href : ty.isReference = true) (hi : ¬ i < 0) (hv : vs[i.toNatClampNeg]? = some v) (h : V g d y (pc + 1) L (v :: st) A Φ) : V g d y pc L (.int i :: .ref a :: st) A Φ := by
  intro p l e R s m args below meth c z C H locs cells slots ls X
  have kk := h p l e R s m args below meth c z C H locs cells slots ls X
  obtain ⟨hx, hb, -, -, -, hown, -, -, hT, -⟩ := C
  obtain ⟨cell, hcell, hba, e0, harr, hkn⟩ := X.2.1.arr hT hA hj ht
  have hlt := (List.getElem?_eq_some_iff.mp hv).1
  exact W.aald hx hb hcell harr href hkn (by rw [e0]; simp only [List.size_toArray]; exact fun q => q.elim hi (fun q => absurd q (Nat.not_le.mpr hlt))) (by rw [e0]; simp only [List.getElem?_toArray]; exact hv) rfl rfl hd kk
theorem v_iast {j a : Nat} {vs : List Value} {i : Int32} {x : Int32} (hd : decode y.2.1 pc = .ok (.iastore, 1)) (hA : A.1 a = some (100 + j, vs)) (hj : j < 100) (ht : (gT g)[j]? = some .int) (hi : ¬ i < 0) (hlt : i.toNatClampNeg < vs.length) (h : V g d y (pc + 1) L st (aset A a (100 + j, vs.set i.toNatClampNeg (.int x))) Φ) : V g d y pc L (.int x :: .int i :: .ref a :: st) A Φ := by
  intro p l e R s m args below meth c z C H locs cells slots ls X
  have kk := h p l e R s m args below meth c z C
  obtain ⟨hx, hb, -, -, -, hown, -, -, hT, -⟩ := C
  obtain ⟨cell, hcell, hba, e0, harr, hkn⟩ := X.2.1.arr hT hA hj ht
  refine W.iast hx hb hcell harr hkn (by rw [e0]; simp only [List.size_toArray]; exact fun q => q.elim hi (fun q => absurd q (Nat.not_le.mpr hlt))) rfl rfl hd fun H' e1 e2 e3 => ?_
  refine kk H' _ cells slots ls ⟨X.1, X.2.1.set hA e1 ?_ e2 e3, X.2.2.1, X.2.2.2.1, t_lc X.2.2.2.2 hba⟩
  skip
  rw [e0, arr_setSlot]
  exact Or.inr (Or.inl ⟨by simp, by simp only; omega, by simp⟩)
theorem v_last {j a : Nat} {vs : List Value} {i : Int32} {x : Int64} (hd : decode y.2.1 pc = .ok (.lastore, 1)) (hA : A.1 a = some (100 + j, vs)) (hj : j < 100) (ht : (gT g)[j]? = some .long) (hi : ¬ i < 0) (hlt : i.toNatClampNeg < vs.length) (h : V g d y (pc + 1) L st (aset A a (100 + j, vs.set i.toNatClampNeg (.long x))) Φ) : V g d y pc L (.long x :: .int i :: .ref a :: st) A Φ := by
  intro p l e R s m args below meth c z C H locs cells slots ls X
  have kk := h p l e R s m args below meth c z C
  obtain ⟨hx, hb, -, -, -, hown, -, -, hT, -⟩ := C
  obtain ⟨cell, hcell, hba, e0, harr, hkn⟩ := X.2.1.arr hT hA hj ht
  refine W.last hx hb hcell harr hkn (by rw [e0]; simp only [List.size_toArray]; exact fun q => q.elim hi (fun q => absurd q (Nat.not_le.mpr hlt))) rfl rfl hd fun H' e1 e2 e3 => ?_
  refine kk H' _ cells slots ls ⟨X.1, X.2.1.set hA e1 ?_ e2 e3, X.2.2.1, X.2.2.2.1, t_lc X.2.2.2.2 hba⟩
  skip
  rw [e0, arr_setSlot]
  exact Or.inr (Or.inl ⟨by simp, by simp only; omega, by simp⟩)
theorem v_zast {j a : Nat} {vs : List Value} {i : Int32} {x : Int32} (hd : decode y.2.1 pc = .ok (.bastore, 1)) (hA : A.1 a = some (100 + j, vs)) (hj : j < 100) (ht : (gT g)[j]? = some .boolean) (hi : ¬ i < 0) (hlt : i.toNatClampNeg < vs.length) (hx2 : narrow .boolean (.int x) = .int x) (h : V g d y (pc + 1) L st (aset A a (100 + j, vs.set i.toNatClampNeg (.int x))) Φ) : V g d y pc L (.int x :: .int i :: .ref a :: st) A Φ := by
  intro p l e R s m args below meth c z C H locs cells slots ls X
  have kk := h p l e R s m args below meth c z C
  obtain ⟨hx, hb, -, -, -, hown, -, -, hT, -⟩ := C
  obtain ⟨cell, hcell, hba, e0, harr, hkn⟩ := X.2.1.arr hT hA hj ht
  refine W.zast hx hb hcell harr hkn (by rw [e0]; simp only [List.size_toArray]; exact fun q => q.elim hi (fun q => absurd q (Nat.not_le.mpr hlt))) rfl rfl hd fun H' e1 e2 e3 => ?_
  refine kk H' _ cells slots ls ⟨X.1, X.2.1.set hA e1 ?_ e2 e3, X.2.2.1, X.2.2.2.1, t_lc X.2.2.2.2 hba⟩
  rw [hx2]
  rw [e0, arr_setSlot]
  exact Or.inr (Or.inl ⟨by simp, by simp only; omega, by simp⟩)
theorem v_alen {j a : Nat} {vs : List Value} {ty : FieldType} (hd : decode y.2.1 pc = .ok (.arraylength, 1)) (hA : A.1 a = some (100 + j, vs)) (hj : j < 100) (ht : (gT g)[j]? = some ty) (h : V g d y (pc + 1) L (.int vs.length.toInt32 :: st) A Φ) : V g d y pc L (.ref a :: st) A Φ := by
  intro p l e R s m args below meth c z C H locs cells slots ls X
  have kk := h p l e R s m args below meth c z C H locs cells slots ls X
  obtain ⟨hx, hb, -, -, -, hown, -, -, hT, -⟩ := C
  obtain ⟨cell, hcell, hba, e0, harr, hkn⟩ := X.2.1.arr hT hA hj ht
  exact W.alen hx hb hcell harr (by rw [e0]; simp only [List.size_toArray]) rfl rfl hd kk
/-- what an array of references takes: an object of its own class, or of one below it -/
def AS (WS : List Cond) (cl : List vw_C) (ta : List FieldType) (j kv : Nat) : Prop := j < 100 ∧ kv < 100 ∧ ∃ (C : String) (r : vw_C), ta[j]? = some (.object C) ∧ cl[kv]? = some r ∧ (r.1 = C ∨ Cond.castable r.1 C ∈ WS)
theorem v_aast {j kv a b : Nat} {vs fv : List Value} {i : Int32} (hd : decode y.2.1 pc = .ok (.aastore, 1)) (hs : AS (gW g) (gC g) (gT g) j kv) (hA : A.1 a = some (100 + j, vs)) (hB : A.1 b = some (kv, fv)) (hi : ¬ i < 0) (hlt : i.toNatClampNeg < vs.length)
    (h : V g d y (pc + 1) L st (aset A a (100 + j, vs.set i.toNatClampNeg (.ref b))) Φ) : V g d y pc L (.ref b :: .int i :: .ref a :: st) A Φ := by
  intro p l e R s m args below meth c z C H locs cells slots ls X
  have kk := h p l e R s m args below meth c z C
  obtain ⟨hx, hb, -, -, -, hown, -, -, hT, -⟩ := C
  obtain ⟨hj, hkv, Cn, r, ht, hr, hor⟩ := hs
  obtain ⟨cell, hcell, hba, e0, harr, hkn⟩ := X.2.1.arr hT hA hj ht
  obtain ⟨-, cellB, hcB, hokB⟩ := X.2.1.2.2.2.2.2 b _ hB
  obtain ⟨r', hr', hcls, hvm, -, -⟩ := hokB.obj hkv
  cases hr.symm.trans hr'
  obtain ⟨-, hCA⟩ := hT.2.2.1.1 kv _ hr
  obtain ⟨kA, comp, k1, k2, k3, -⟩ := (hT.2.2.2.1 j _ ht).2
  obtain ⟨kB, hkB, hkindB⟩ := hCA.2
  have hasg : s.vm.assignable cellB.cls comp = true := by
    rw [hcls]
    rcases hor with hq | hw
    · rw [← hq] at k3
      cases k3.symm.trans hCA.1
      exact va_assign hCA
    · obtain ⟨c0, t0, f1, f2, f3⟩ := Cond.castable_spec (hT.1 _ hw)
      cases f1.symm.trans hCA.1
      cases f2.symm.trans k3
      exact f3
  obtain ⟨kcomp, hkcomp⟩ := Vm.classAt_of_findClass k3
  refine W.aast hx hb hcell (fun q hq => by rw [e0] at hq; cases hq) hkn (by rw [e0]; exact k1) k2 rfl hkcomp ⟨hi, by rw [e0]; simpa using hlt⟩ hcB (fun q hq => by rw [hvm] at hq; cases hq) (by rw [hcls]; exact hkB) hasg rfl rfl hd fun H' e1 e2 e3 => ?_
  refine kk H' _ cells slots ls ⟨X.1, X.2.1.set hA e1 ?_ e2 e3, X.2.2.1, X.2.2.2.1, t_lc X.2.2.2.2 hba⟩
  rw [e0, arr_setSlot]
  exact Or.inr (Or.inl ⟨by simp, by simp only; omega, by simp⟩)
/-- a class's row for 'new' -/
def NW (WS : List Cond) (cl : List vw_C) (own : String) (idx ci : Nat) (fs : List Value) : Prop := ci < 100 ∧ ∃ (C : String) (T : u_T) (N : Nat) (ty : Nat → FieldType), cl[ci]? = some (C, T, N) ∧ (∀ w ∈ u_ws C T N, w ∈ WS) ∧ (∀ j, j < N → parseFieldDescriptor (T j).2.2.1 = some (ty j)) ∧
  Cond.classLink own idx C ∈ WS ∧ Cond.instantiable C N ∈ WS ∧ Cond.initialized C ∈ WS ∧ fs.length = N ∧ ∀ j, j < N → fs[j]? = some (defaultValue (ty j))
theorem v_new {idx ci : Nat} {fs : List Value} (hd : decode y.2.1 pc = .ok (.new idx, 3)) (hw : NW (gW g) (gC g) y.1.cls idx ci fs) (hl : A.2.1 + 1 ≤ gL g) (hs : A.2.2 + fs.length ≤ gS g)
    (h : V g d y (pc + 3) L (.ref A.2.1 :: st) (anew A (ci, fs) fs.length) Φ) : V g d y pc L st A Φ := by
  intro p l e R s m args below meth c z C H locs cells slots ls X
  have kk := h p l e R s m args below meth c z C
  obtain ⟨hx, hb, -, -, -, hown, -, -, hT, -, -, hgl, hgs, -⟩ := C
  obtain ⟨hci, Cn, T, N, ty, hc, hin, hty, w1, w2, w3, hlen, hfs⟩ := hw
  subst hlen
  have hKn := hT.2.2.1.1 ci _ hc
  have hc1 := X.2.2.1
  have hz1 := X.2.2.2.1
  refine W.newcK hx hb hown (hT.1 _ w1) (hT.1 _ w2) (hT.1 _ w3) rfl hd (by omega) (by omega) hKn.2.1 X.2.1.1 fun H1 kC hkC e1 z1 o1 => ?_
  obtain ⟨cell, q1, q2, q3, q4⟩ := u_born ty hT.1 hin hKn hkC e1 hty
  refine kk H1 locs (cells + 1) (slots + fs.length) ls ⟨X.1, X.2.1.new q1 (Or.inl ⟨hci, _, hc, q2, q3, rfl, fun k hk => ?_⟩) z1 o1 hl hs, by simp only [anew]; omega, by simp only [anew]; omega, X.2.2.2.2⟩
  rw [q4 k hk, hfs k hk]
/-- an array kind's row for 'newarray' -/
theorem v_newa {j N : Nat} {at_ : ArrayType} {n : Int32} (hd : decode y.2.1 pc = .ok (.newarray at_, 2)) (hj : j < 100) (ht : (gT g)[j]? = some (newarray.typeOf at_)) (hprim : (newarray.typeOf at_).isReference = false) (hw : Cond.arrayClass (newarray.typeOf at_) ∈ gW g) (hn : ¬ n < 0) (hN : n.toNatClampNeg = N) (hb8 : N * componentBytes (newarray.typeOf at_) ≤ 536870912)
    (hl : A.2.1 + 1 ≤ gL g) (hs : A.2.2 + N ≤ gS g) (h : V g d y (pc + 2) L (.ref A.2.1 :: st) (anew A (100 + j, List.replicate N (defaultValue (newarray.typeOf at_))) N) Φ) : V g d y pc L (.int n :: st) A Φ := by
  intro p l e R s m args below meth c z C H locs cells slots ls X
  have kk := h p l e R s m args below meth c z C
  obtain ⟨hx, hb, -, -, -, hown, -, -, hT, -, -, hgl, hgs, -⟩ := C
  have hc1 := X.2.2.1
  have hz1 := X.2.2.2.1
  have hsz := X.2.1.1
  subst hN
  refine W.newa hx hb (hT.1 _ hw) rfl hd rfl hn hb8 (by omega) (by omega) fun cA kA comp f1 f2 f3 => ?_
  have e0 : cA = gA g j := by
    have h1 := (hT.2.2.2.1 j _ ht).2
    have h2 : s.vm.findClass ("[" ++ (newarray.typeOf at_).toString) = some (gA g j) := by
      cases at_ <;> exact h1
    exact Option.some.inj (f1.symm.trans h2)
  refine W.eq (g2 := F0 m (pc + 2) ls (.ref A.2.1 :: st)) (by rw [← hsz]) ?_
  refine kk _ locs (cells + 1) (slots + n.toNatClampNeg) ls ⟨X.1, X.2.1.new (cell := { cls := cA, slots := Array.replicate n.toNatClampNeg (defaultValue (newarray.typeOf at_)), vm := .none }) ?_ (Or.inr (Or.inl ⟨by simp, by simp only; omega, ?_⟩)) ?_ (fun q hq => ?_) hl hs, by simp only [anew]; omega, by simp only [anew]; omega, X.2.2.2.2⟩
  · rw [← hsz]; simp
  · rw [e0]; simp
  · rw [← hsz]; simp
  · rw [← hsz] at hq
    rw [Array.getElem?_push, if_neg (Nat.ne_of_lt hq)]
theorem v_newq {j N idx : Nat} {Cn : String} {n : Int32} (hd : decode y.2.1 pc = .ok (.anewarray idx, 3)) (hj : j < 100) (ht : (gT g)[j]? = some (.object Cn)) (hw1 : Cond.classLink y.1.cls idx Cn ∈ gW g) (hw2 : Cond.arrayOver (.object Cn) ∈ gW g) (hn : ¬ n < 0) (hN : n.toNatClampNeg = N) (hb8 : N * 4 ≤ 536870912)
    (hl : A.2.1 + 1 ≤ gL g) (hs : A.2.2 + N ≤ gS g) (h : V g d y (pc + 3) L (.ref A.2.1 :: st) (anew A (100 + j, List.replicate N .null) N) Φ) : V g d y pc L (.int n :: st) A Φ := by
  intro p l e R s m args below meth c z C H locs cells slots ls X
  have kk := h p l e R s m args below meth c z C
  obtain ⟨hx, hb, -, -, -, hown, -, -, hT, -, -, hgl, hgs, -⟩ := C
  have hc1 := X.2.2.1
  have hz1 := X.2.2.2.1
  have hsz := X.2.1.1
  subst hN
  refine W.anew hx hb hown (hT.1 _ hw1) (hT.1 _ hw2) rfl hd rfl hn hb8 (by omega) (by omega) fun cA kA comp f1 f2 f3 f4 => ?_
  have e0 : cA = gA g j := by
    obtain ⟨_, _, -, -, -, h4⟩ := (hT.2.2.2.1 j _ ht).2
    exact Option.some.inj (f1.symm.trans h4)
  refine W.eq (g2 := F0 m (pc + 3) ls (.ref A.2.1 :: st)) (by rw [← hsz]) ?_
  refine kk _ locs (cells + 1) (slots + n.toNatClampNeg) ls ⟨X.1, X.2.1.new (cell := { cls := cA, slots := Array.replicate n.toNatClampNeg .null, vm := .none }) ?_ (Or.inr (Or.inl ⟨by simp, by simp only; omega, ?_⟩)) ?_ (fun q hq => ?_) hl hs, by simp only [anew]; omega, by simp only [anew]; omega, X.2.2.2.2⟩
  · rw [← hsz]; simp
  · rw [e0]; simp
  · rw [← hsz]; simp
  · rw [← hsz] at hq
    rw [Array.getElem?_push, if_neg (Nat.ne_of_lt hq)]
/-- ends -/
theorem ex_ret {g : Gx} {below : List Frame} {s : State} {z : Nat} {Φ : Out → AH → Prop} {args : Array Value} {v : Option Value} {A : AH} {H : Heap} {cells slots : Nat} (hΦ : Φ (.inl v) A) (hH : HR g A H) (hc : s.heap.size + cells = A.2.1) (hz : z + slots = A.2.2) (t : State)
    (h : MQ below (fun _ _ o t => o = .returned v ∧ t.heap = H) args s cells slots (fun q => (gH g).size ≤ q) t) : Ex g below s z Φ t := by
  obtain ⟨o, h1, h2, ⟨rfl, h3⟩, K, ⟨-, h4, h5⟩, h6⟩ := h
  exact ⟨_, K, cells, slots, .inl v, A, h1, h2, h4, h5, h6, hΦ, by rw [h3]; exact hH, hc, hz, rfl⟩
theorem v_iret {x : Int32} (hd : decode y.2.1 pc = .ok (.ireturn, 1)) (hr : y.2.2.2.1 = some .int) (h : Φ (.inl (some (.int x))) A) : V g d y pc L [.int x] A Φ := by
  intro p l e R s m args below meth c z C H locs cells slots ls X
  obtain ⟨hx, hb, -, hrt, hlk, -⟩ := C
  exact W.mono (W.iret (Qc := fun _ _ o t => o = .returned (some (.int x)) ∧ t.heap = H) (free := fun q => (gH g).size ≤ q) hx hb (hrt.trans hr) (fun t ht _ => ⟨rfl, ht⟩) X.2.2.2.2 hd hlk) (fun t ht => ex_ret h X.2.1 X.2.2.1 X.2.2.2.1 t ht)
theorem v_zret {x : Int32} {ty : FieldType} (hd : decode y.2.1 pc = .ok (.ireturn, 1)) (hr : y.2.2.2.1 = some ty) (hn : narrow ty (.int x) = .int x) (h : Φ (.inl (some (.int x))) A) : V g d y pc L [.int x] A Φ := by
  intro p l e R s m args below meth c z C H locs cells slots ls X
  obtain ⟨hx, hb, -, hrt, hlk, -⟩ := C
  exact W.mono (W.zret (Qc := fun _ _ o t => o = .returned (some (.int x)) ∧ t.heap = H) (free := fun q => (gH g).size ≤ q) hx hb (hrt.trans hr) hn (fun t ht _ => ⟨rfl, ht⟩) X.2.2.2.2 hd hlk) (fun t ht => ex_ret h X.2.1 X.2.2.1 X.2.2.2.1 t ht)
theorem v_lret {x : Int64} (hd : decode y.2.1 pc = .ok (.lreturn, 1)) (hr : y.2.2.2.1 = some .long) (h : Φ (.inl (some (.long x))) A) : V g d y pc L [.long x] A Φ := by
  intro p l e R s m args below meth c z C H locs cells slots ls X
  obtain ⟨hx, hb, -, hrt, hlk, -⟩ := C
  exact W.mono (W.lret (Qc := fun _ _ o t => o = .returned (some (.long x)) ∧ t.heap = H) (free := fun q => (gH g).size ≤ q) hx hb (hrt.trans hr) (fun t ht _ => ⟨rfl, ht⟩) X.2.2.2.2 hd hlk) (fun t ht => ex_ret h X.2.1 X.2.2.1 X.2.2.2.1 t ht)
theorem v_aret {v : Value} {rt : FieldType} (hd : decode y.2.1 pc = .ok (.areturn, 1)) (hr : y.2.2.2.1 = some rt) (hrt : (∃ n, rt = .object n) ∨ ∃ t, rt = .array t) (hv : v = .null ∨ ∃ a, v = .ref a) (h : Φ (.inl (some v)) A) : V g d y pc L [v] A Φ := by
  intro p l e R s m args below meth c z C H locs cells slots ls X
  obtain ⟨hx, hb, -, hrt', hlk, -⟩ := C
  exact W.mono (W.aret (Qc := fun _ _ o t => o = .returned (some v) ∧ t.heap = H) (free := fun q => (gH g).size ≤ q) hx hb (hrt'.trans hr) hrt hv (fun t ht _ => ⟨rfl, ht⟩) X.2.2.2.2 hd hlk) (fun t ht => ex_ret h X.2.1 X.2.2.1 X.2.2.2.1 t ht)
theorem v_vret (hd : decode y.2.1 pc = .ok (.return_, 1)) (hr : y.2.2.2.1 = none) (h : Φ (.inl none) A) : V g d y pc L [] A Φ := by
  intro p l e R s m args below meth c z C H locs cells slots ls X
  obtain ⟨hx, hb, -, hrt, hlk, -⟩ := C
  exact W.mono (W.vret (Qc := fun _ _ o t => o = .returned none ∧ t.heap = H) (free := fun q => (gH g).size ≤ q) hx hb (hrt.trans hr) (fun t ht _ => ⟨rfl, ht⟩) X.2.2.2.2 hd hlk) (fun t ht => ex_ret h X.2.1 X.2.2.1 X.2.2.2.1 t ht)
end VH
end
section
/-! calls: the callee's walk stands inside the caller's -/
theorem steps_weak {tb : Tables} {e : Env} {mid below : List Frame} {a b : State} (h : Steps tb e (mid ++ below) a b) : Steps tb e below a b := by
  obtain ⟨n, hn, w⟩ := h
  exact ⟨n, hn, fun k hk => (w k hk).weaken⟩
def slV (x : Slot) : Option Value := match x with
  | .val v => some v
  | _ => none
def lo0 (as : List Value) (n : Nat) : Lo := (lg_sl as).map slV ++ List.replicate (n - (lg_sl as).length) none
theorem lo0_ok (as : List Value) (n : Nat) (h : (lg_sl as).length ≤ n) : LR (lo0 as n) ((lg_sl as ++ List.replicate (n - (lg_sl as).length) Slot.unset).toArray) n := by
  have hl := lv_entry as (n := n) h
  refine ⟨hl.1, hl.2.1, by simp [lo0]; omega, fun i v hi => ?_⟩
  simp only [lo0] at hi
  simp only [List.getElem?_toArray]
  by_cases hlt : i < (lg_sl as).length
  · rw [List.getElem?_append_left (by simpa using hlt)] at hi
    rw [List.getElem?_append_left hlt]
    rw [List.getElem?_map, List.getElem?_eq_getElem hlt] at hi
    rw [List.getElem?_eq_getElem hlt]
    simp only [Option.map_some, Option.some.injEq] at hi
    cases hs : (lg_sl as)[i] with
    | val w => rw [hs] at hi; simp only [slV, Option.some.injEq] at hi; rw [hi]
    | _ => rw [hs] at hi; simp [slV] at hi
  · rw [List.getElem?_append_right (by simpa using hlt)] at hi
    rw [List.getElem?_replicate] at hi
    split at hi <;> simp at hi
def MW (WS : List Cond) (y : MT) : Prop := plainName y.1.cls = true ∧ ((y.2.2.2.2 = [] ∧ Cond.code y.1 y.2.1 y.2.2.1 y.2.2.2.1 ∈ WS) ∨ Cond.codeWith y.1 y.2.1 y.2.2.1 y.2.2.2.1 y.2.2.2.2 ∈ WS)
theorem MW.facts {g : Gx} {y : MT} {s : State} {args : Array Value} (h : MW (gW g) y) (hT : TF g s args) {mk : MethodId} (hn : s.methodNamed? y.1 = some mk) :
    ∃ (methk : Method) (ck : Code), s.vm.method? mk = some methk ∧ methk.code = some ck ∧ ck.code = y.2.1 ∧ ck.maxLocals = y.2.2.1 ∧ methk.sig.returnType = y.2.2.2.1 ∧ methk.locks = false ∧ ck.exceptionTable.toList = tableOf y.2.2.2.2 := by
  rcases h.2 with ⟨h0, hw⟩ | hw
  · obtain ⟨methk, ck, h1, h2, h3, h4, h5, h6, h7, -⟩ := Cond.code_spec hn (hT.1 _ hw)
    refine ⟨methk, ck, h1, h2, h3, h4, h5, h6, ?_⟩
    have e0 : ck.exceptionTable.size = 0 := by simpa [Array.isEmpty] using h7
    have e1 : ck.exceptionTable.toList = [] := List.eq_nil_of_length_eq_zero (by simpa using e0)
    rw [h0, e1]; rfl
  · obtain ⟨m9, methk, ck, hn9, h1, h2, h3, h4, h7, h5, h6, -⟩ := Cond.codeWith_spec (hT.1 _ hw)
    cases hn.symm.trans hn9
    exact ⟨methk, ck, h1, h2, h3, h4, h5, h6, by rw [← h7, table_eq]⟩
section VC
variable {g : Gx} {d : Nat} {Ψ : Out → AH → Prop}
set_option maxHeartbeats 1000000 in
theorem v_into {p : Program} {l : Launch} {e : Env} {R : Room} {s : State} {m : MethodId} {args : Array Value} {below : List Frame} {meth : Method} {c : Code} {T : State} {locs : List Loc} {cells slots z : Nat} (hx : p.tables.exec = Jvm.exec) (hT : TF g s args) (hfr : d + 1 + 2 ≤ R.frames) (hlo : 40 * (d + 1) + 100 ≤ R.locals)
    (hgl : gL g ≤ s.heap.size + R.cells) (hgs : gS g ≤ z + R.slots) (htr : e.platform.stackTraces = false) (X : Stand p l e R s m args below meth c T locs cells slots) {A : AH} (hH : HR g A T.heap) (hc : s.heap.size + cells = A.2.1) (hz : z + slots = A.2.2)
    {y : MT} (hy : MW (gW g) y) {mk : MethodId} (hn : T.methodNamed? y.1 = some mk) {f : JFrame} (hg : f.method = m) (hsize : f.locals.size = c.maxLocals) {ig : Instr} {len : Nat} (hdg : decode c.code f.pc = .ok (ig, len)) (hw : 2 * f.monitorRoom + (f.stack.map fun v => v.category).sum + y.2.2.1 ≤ 29)
    {as : List Value} (has : (lg_sl as).length ≤ y.2.2.1) (hv : V g d y 0 (lo0 as y.2.2.1) [] A Ψ) :
    ∃ (t : State) (o : Outcome) (K : List Loc) (k n : Nat) (r : Out) (A' : AH), (∀ acts, Steps p.tables e below (doInvoke e (T.setTop f) acts mk as.toArray).1 t) ∧ Ended t (.java f :: below) o ∧ (T.calling f mk as.toArray).WarmedH t.vm ∧
      (T.calling f mk as.toArray).sameButNew ({ t with vm := (T.calling f mk as.toArray).vm } : State) K k n ∧ (∀ q ∈ K, (gH g).size ≤ q.base) ∧ Ψ r A' ∧ HR g A' t.heap ∧ A.2.1 + k = A'.2.1 ∧ A.2.2 + n = A'.2.2 ∧ oR r A' o := by
  have hTT : TF g T as.toArray := hT.moved X.warmed
  obtain ⟨methk, ck, hmk, hck, hbk, hmlk, hrk, hlk, hek⟩ := hy.facts hTT hn
  have hpk : T.plainMethod mk := by
    refine State.plainMethod.of_name ?_
    intro k hk
    obtain ⟨k', hk', hn'⟩ := className_of_methodNamed hn
    cases hk.symm.trans hk'
    rw [hn']; exact hy.1
  have hle := hH.2.2.2.1
  have hls := hH.2.2.2.2.1
  have hsz := hH.1
  obtain ⟨Y₀, hin⟩ := X.into hg hsize hdg as.toArray (R' := { frames := R.frames - 1, cells := R.cells - cells, slots := R.slots - slots, locals := R.locals - 40 }) hmk hck hlk hpk
    (by show R.frames - 1 + 1 ≤ R.frames; omega) (by rw [hmlk]; show _ + (y.2.2.1 + 11) + (R.locals - 40) ≤ R.locals; omega) (by show cells + (R.cells - cells) ≤ R.cells; omega) (by show slots + (R.slots - slots) ≤ R.slots; omega)
  have hCx : Cx g d y p e { frames := R.frames - 1, cells := R.cells - cells, slots := R.slots - slots, locals := R.locals - 40 } (T.calling f mk as.toArray) mk as.toArray methk ck A.2.2 := by
    refine ⟨hx, hbk, hmlk, hrk, hlk, findClass_of_methodNamed hn, (name_of_methodNamed hn hmk).1, hek, hT.moved (U := T.calling f mk as.toArray) X.warmed, ?_, ?_, ?_, ?_, htr⟩
    · show d + 2 ≤ R.frames - 1; omega
    · show 40 * d + 100 ≤ R.locals - 40; omega
    · show gL g ≤ T.heap.size + (R.cells - cells); omega
    · show gS g ≤ A.2.2 + (R.slots - slots); omega
  obtain ⟨t, hst, o, K, k, n, r, A', h1, h2, h3, h4, h5, h6, h7, h8, h9, h10⟩ := hv p l e _ (T.calling f mk as.toArray) mk as.toArray (.java f :: below) methk ck A.2.2 hCx T.heap [] 0 0 _ ⟨lo0_ok as y.2.2.1 has, hH, by show T.heap.size + 0 = A.2.1; omega, by omega, fun q hq => by cases hq⟩
    ((T.setTop f).pushFrame (.java (entryFrame mk as.toArray ck.maxLocals))) rfl Y₀
  refine ⟨t, o, K, k, n, r, A', fun acts => ?_, h2, h3, h4, h5, h6, h7, by rw [← h8]; show A.2.1 + k = T.heap.size + k; rw [hsz], h9, h10⟩
  rw [hin acts]
  refine steps_weak (mid := [.java f]) ?_
  rw [hmlk] at hst ⊢
  rw [lg_entry_eq] at hst ⊢
  exact hst
theorem v_back {p : Program} {l : Launch} {e : Env} {R : Room} {s : State} {args : Array Value} {below : List Frame} {z : Nat} (hx : p.tables.exec = Jvm.exec) (hT : TF g s args) (hfr : d + 1 + 2 ≤ R.frames) (hlo : 40 * (d + 1) + 100 ≤ R.locals)
    (hgl : gL g ≤ s.heap.size + R.cells) (hgs : gS g ≤ z + R.slots) (htr : e.platform.stackTraces = false) {A : AH} {y : MT} (hy : MW (gW g) y) (hmx : y.2.2.1 ≤ 20) {as : List Value} (has : (lg_sl as).length ≤ y.2.2.1) (hv : V g d y 0 (lo0 as y.2.2.1) [] A Ψ) (hret : ∀ a A', ¬ Ψ (.inr a) A') :
    Back l R p e below s args y.1 3 9 (fun P a => a = as.toArray ∧ HR g A P.U.heap ∧ s.heap.size + P.cells = A.2.1 ∧ z + P.slots = A.2.2)
      (fun P _ v B => ∃ (K : List Loc) (A' : AH), Ψ (.inl v) A' ∧ HR g A' B.U.heap ∧ B.locs = P.locs ++ K ∧ (∀ q ∈ K, (gH g).size ≤ q.base) ∧ s.heap.size + B.cells = A'.2.1 ∧ z + B.slots = A'.2.2) := by
  intro m meth c P f ig mk a X hg hsize hdg hw hn ⟨ha, hH, hc, hz⟩
  subst ha
  obtain ⟨t, o, K, k, n, r, A', hst, hend, hW, hsame, hK, hΦ, hH', hk, hn', ho⟩ := v_into hx hT hfr hlo hgl hgs htr X hH hc hz hy hn hg hsize hdg (by omega) has hv
  cases r with
  | inr a => exact absurd hΦ (hret a A')
  | inl v =>
    cases ho
    obtain ⟨T', X', -, -, ht⟩ := X.outOf hg hdg hend hW hsame
    refine ⟨v, ⟨T', P.locs ++ K, P.cells + k, P.slots + n⟩, X', ⟨K, A', hΦ, ?_, rfl, hK, ?_, ?_⟩, ?_⟩
    · have e1 : t.heap = T'.heap := by rw [ht]; rfl
      show HR g A' T'.heap
      rw [← e1]; exact hH'
    · show s.heap.size + (P.cells + k) = _
      omega
    · show z + (P.slots + n) = _
      omega
    · rw [← ht]; exact hst []
theorem cat_sum (st : List Value) : (st.map fun v => v.category).sum ≤ 2 * st.length := by
  induction st with
  | nil => simp
  | cons v t ih =>
    simp only [List.map_cons, List.sum_cons, List.length_cons]
    have : v.category ≤ 2 := by cases v <;> simp [Value.category]
    omega
def okName (y : MethodName) : Prop := y.cls ≠ "java/lang/invoke/MethodHandle" ∧ y.cls ≠ "java/lang/invoke/VarHandle"
/-- rows of words for a call -/
def CW (WS : List Cond) (own : String) (idx : Nat) (y : MT) (np : Nat) : Prop := (Cond.methodLink own idx y.1 ∈ WS ∨ ∃ host, Cond.methodLinkNest own idx y.1 host ∈ WS) ∧ Cond.code y.1 y.2.1 y.2.2.1 y.2.2.2.1 ∈ WS ∧ y.2.2.2.2 = [] ∧ plainName y.1.cls = true ∧ y.2.2.1 ≤ 20 ∧ okName y.1 ∧ (parseMethodDescriptor y.1.desc).map (fun d => d.parameters.length) = some np
theorem CW.mw {WS : List Cond} {own : String} {idx np : Nat} {y : MT} (h : CW WS own idx y np) : MW WS y := ⟨h.2.2.2.1, Or.inl ⟨h.2.2.1, h.2.1⟩⟩
theorem CW.len {WS : List Cond} {own : String} {idx np : Nat} {y : MT} (h : CW WS own idx y np) {as : List Value} (ha : as.length = np) : ∀ sig, parseMethodDescriptor y.1.desc = some sig → as.length = sig.parameters.length := by
  intro sig hs
  have h2 := h.2.2.2.2.2.2
  rw [hs] at h2
  rw [ha]; exact (Option.some.inj h2).symm
variable {y : MT} {pc : Nat} {L : Lo} {st : List Value} {A : AH} {Φ : Out → AH → Prop}
set_option maxHeartbeats 1000000 in
theorem v_calls {y' : MT} {idx np : Nat} {as st0 : List Value} (hd : decode y.2.1 pc = .ok (.invokestatic idx, 3)) (hw : CW (gW g) y.1.cls idx y' np ∧ Cond.static y'.1 ∈ gW g ∧ Cond.initialized y'.1.cls ∈ gW g) (hs : st0 = as.reverse ++ st) (hnp : as.length = np) (has : (lg_sl as).length ≤ y'.2.2.1) (hst : (st.map fun v => v.category).sum ≤ 9)
    (hv : V g d y' 0 (lo0 as y'.2.2.1) [] A Ψ) (hret : ∀ a A', ¬ Ψ (.inr a) A') (kk : ∀ v A', Ψ (.inl v) A' → V g (d + 1) y (pc + 3) L (v.toList ++ st) A' Φ) : V g (d + 1) y pc L st0 A Φ := by
  intro p l e R s m args below meth c z C H locs cells slots ls X T hTh Y
  have C0 := C
  obtain ⟨hx, hb, hml, -, -, hown, -, -, hT, hfr, hlo, hgl, hgs, htr⟩ := C
  obtain ⟨hcw, w1, w2⟩ := hw
  have hK := v_back (l := l) (R := R) (below := below) (z := z) hx hT hfr hlo hgl hgs htr hcw.mw hcw.2.2.2.2.1 has hv hret
  have hsz : (F0 m pc ls st0).locals.size = c.maxLocals := by rw [hml]; exact X.1.1
  have hwt : 2 * (F0 m pc ls st0).monitorRoom + (st.map fun v => v.category).sum ≤ 9 := by
    show 2 * 0 + _ ≤ 9
    omega
  have hpre : ∀ vm₁, s.WarmedH vm₁ → as.toArray = as.toArray ∧ HR g A (T.setVm vm₁).heap ∧ s.heap.size + cells = A.2.1 ∧ z + slots = A.2.2 := fun vm₁ _ => ⟨rfl, by show HR g A T.heap; rw [hTh]; exact X.2.1, X.2.2.1, X.2.2.2.1⟩
  have fin : ∀ (v : Option Value) (vm₁ : Vm) (B : Pt), Stand p l e R s m args below meth c B.U B.locs B.cells B.slots → (∃ (K : List Loc) (A' : AH), Ψ (.inl v) A' ∧ HR g A' B.U.heap ∧ B.locs = locs ++ K ∧ (∀ q ∈ K, (gH g).size ≤ q.base) ∧ s.heap.size + B.cells = A'.2.1 ∧ z + B.slots = A'.2.2) →
      (∀ target, Steps p.tables e below (B.U.setTop { F0 m pc ls st0 with pc := pc + 3, stack := v.toList ++ st }) target → Steps p.tables e below (T.setTop (F0 m pc ls st0)) target) → ∃ t, Steps p.tables e below (T.setTop (F0 m pc ls st0)) t ∧ Ex g below s z Φ t := by
    intro v vm₁ B Y' ⟨K, A', hΨ, hH', hl', hK', hc', hz'⟩ hsteps
    obtain ⟨t, a, b⟩ := kk v A' hΨ p l e R s m args below meth c z C0 B.U.heap B.locs B.cells B.slots ls ⟨X.1, hH', hc', hz', by rw [hl']; exact t_lL X.2.2.2.2 hK'⟩ B.U rfl Y'
    exact ⟨t, hsteps t a, b⟩
  rcases hcw.1 with hl | ⟨host, hl⟩
  · obtain ⟨v, vm₁, B, -, Y', hpost, hsteps⟩ := callS Y hx hown (hT.1 _ hl) (hT.1 _ w1) (hT.1 _ w2) (hT.1 _ hcw.2.1) hcw.2.2.2.2.2.1 hK (g := F0 m pc ls st0) rfl hsz (hcw.len hnp) hs hwt (by rw [hb]; exact hd) hpre
    exact fin v vm₁ B Y' hpost hsteps
  · obtain ⟨v, vm₁, B, -, Y', hpost, hsteps⟩ := va_callSN Y hx hown (hT.1 _ hl) (hT.1 _ w1) (hT.1 _ w2) (hT.1 _ hcw.2.1) hcw.2.2.2.2.2.1 hK (g := F0 m pc ls st0) rfl hsz (hcw.len hnp) hs hwt (by rw [hb]; exact hd) hpre
    exact fin v vm₁ B Y' hpost hsteps
set_option maxHeartbeats 1000000 in
theorem v_callv {y' : MT} {idx np ci b : Nat} {fs as st0 : List Value} {r : vw_C} (hd : decode y.2.1 pc = .ok (.invokevirtual idx, 3)) (hw : CW (gW g) y.1.cls idx y' np ∧ Cond.instanceMethod y'.1 ∈ gW g ∧ Cond.selects r.1 y'.1 y'.1 ∈ gW g ∧ ci < 100) (hr : (gC g)[ci]? = some r) (hB : A.1 b = some (ci, fs)) (hs : st0 = as.reverse ++ .ref b :: st) (hnp : as.length = np) (has : (lg_sl (.ref b :: as)).length ≤ y'.2.2.1) (hst : (st.map fun v => v.category).sum ≤ 9)
    (hv : V g d y' 0 (lo0 (.ref b :: as) y'.2.2.1) [] A Ψ) (hret : ∀ a A', ¬ Ψ (.inr a) A') (kk : ∀ v A', Ψ (.inl v) A' → V g (d + 1) y (pc + 3) L (v.toList ++ st) A' Φ) : V g (d + 1) y pc L st0 A Φ := by
  intro p l e R s m args below meth c z C H locs cells slots ls X T hTh Y
  have C0 := C
  obtain ⟨hx, hb, hml, -, -, hown, -, -, hT, hfr, hlo, hgl, hgs, htr⟩ := C
  obtain ⟨hcw, w1, w2, hci⟩ := hw
  have hK := v_back (l := l) (R := R) (below := below) (z := z) hx hT hfr hlo hgl hgs htr hcw.mw hcw.2.2.2.2.1 has hv hret
  have hsz : (F0 m pc ls st0).locals.size = c.maxLocals := by rw [hml]; exact X.1.1
  have hwt : 2 * (F0 m pc ls st0).monitorRoom + (st.map fun v => v.category).sum ≤ 9 := by
    show 2 * 0 + _ ≤ 9
    omega
  have hpre : ∀ vm₁, s.WarmedH vm₁ → (Value.ref b :: as).toArray = (Value.ref b :: as).toArray ∧ HR g A (T.setVm vm₁).heap ∧ s.heap.size + cells = A.2.1 ∧ z + slots = A.2.2 := fun vm₁ _ => ⟨rfl, by show HR g A T.heap; rw [hTh]; exact X.2.1, X.2.2.1, X.2.2.2.1⟩
  obtain ⟨-, cellB, hcB, hokB⟩ := X.2.1.2.2.2.2.2 b _ hB
  obtain ⟨r', hr', hcls, hvm, -, -⟩ := hokB.obj hci
  cases hr.symm.trans hr'
  obtain ⟨-, hCA⟩ := hT.2.2.1.1 ci _ hr
  have hcB' : T.heap[b]? = some cellB := by rw [hTh]; exact hcB
  have hob : cellB.vm.isStatics = false := by rw [hvm]; rfl
  have hclB : s.vm.findClass r.1 = some cellB.cls := by rw [hcls]; exact hCA.1
  have fin : ∀ (v : Option Value) (vm₁ : Vm) (B : Pt), Stand p l e R s m args below meth c B.U B.locs B.cells B.slots → (∃ (K : List Loc) (A' : AH), Ψ (.inl v) A' ∧ HR g A' B.U.heap ∧ B.locs = locs ++ K ∧ (∀ q ∈ K, (gH g).size ≤ q.base) ∧ s.heap.size + B.cells = A'.2.1 ∧ z + B.slots = A'.2.2) →
      (∀ target, Steps p.tables e below (B.U.setTop { F0 m pc ls st0 with pc := pc + 3, stack := v.toList ++ st }) target → Steps p.tables e below (T.setTop (F0 m pc ls st0)) target) → ∃ t, Steps p.tables e below (T.setTop (F0 m pc ls st0)) t ∧ Ex g below s z Φ t := by
    intro v vm₁ B Y' ⟨K, A', hΨ, hH', hl', hK', hc', hz'⟩ hsteps
    obtain ⟨t, a, b⟩ := kk v A' hΨ p l e R s m args below meth c z C0 B.U.heap B.locs B.cells B.slots ls ⟨X.1, hH', hc', hz', by rw [hl']; exact t_lL X.2.2.2.2 hK'⟩ B.U rfl Y'
    exact ⟨t, hsteps t a, b⟩
  rcases hcw.1 with hl | ⟨host, hl⟩
  · obtain ⟨v, vm₁, B, -, Y', hpost, hsteps⟩ := callV Y hx hown (hT.1 _ hl) (hT.1 _ w1) (hT.1 _ w2) (hT.1 _ hcw.2.1) hcw.2.2.2.2.2.1 hK hcB' hob hclB (g := F0 m pc ls st0) rfl hsz (hcw.len hnp) hs hwt (by rw [hb]; exact hd) hpre
    exact fin v vm₁ B Y' hpost hsteps
  · obtain ⟨v, vm₁, B, -, Y', hpost, hsteps⟩ := va_callVN Y hx hown (hT.1 _ hl) (hT.1 _ w1) (hT.1 _ w2) (hT.1 _ hcw.2.1) hcw.2.2.2.2.2.1 hK hcB' hob hclB (g := F0 m pc ls st0) rfl hsz (hcw.len hnp) hs hwt (by rw [hb]; exact hd) hpre
    exact fin v vm₁ B Y' hpost hsteps
set_option maxHeartbeats 1000000 in
theorem v_calli {y' : MT} {idx np b : Nat} {as st0 : List Value} (hd : decode y.2.1 pc = .ok (.invokespecial idx, 3)) (hw : CW (gW g) y.1.cls idx y' np ∧ Cond.instanceMethod y'.1 ∈ gW g ∧ y'.1.name = "<init>" ∧ y'.2.2.2.1 = none) (hs : st0 = as.reverse ++ .ref b :: st) (hnp : as.length = np) (has : (lg_sl (.ref b :: as)).length ≤ y'.2.2.1) (hst : (st.map fun v => v.category).sum ≤ 9)
    (hv : V g d y' 0 (lo0 (.ref b :: as) y'.2.2.1) [] A Ψ) (hret : ∀ a A', ¬ Ψ (.inr a) A') (kk : ∀ v A', Ψ (.inl v) A' → V g (d + 1) y (pc + 3) L (v.toList ++ st) A' Φ) : V g (d + 1) y pc L st0 A Φ := by
  intro p l e R s m args below meth c z C H locs cells slots ls X T hTh Y
  have C0 := C
  obtain ⟨hx, hb, hml, -, -, hown, -, -, hT, hfr, hlo, hgl, hgs, htr⟩ := C
  obtain ⟨hcw, w1, w2, w3⟩ := hw
  have hK := v_back (l := l) (R := R) (below := below) (z := z) hx hT hfr hlo hgl hgs htr hcw.mw hcw.2.2.2.2.1 has hv hret
  have hsz : (F0 m pc ls st0).locals.size = c.maxLocals := by rw [hml]; exact X.1.1
  have hwt : 2 * (F0 m pc ls st0).monitorRoom + (st.map fun v => v.category).sum ≤ 9 := by
    show 2 * 0 + _ ≤ 9
    omega
  have hpre : ∀ vm₁, s.WarmedH vm₁ → (Value.ref b :: as).toArray = (Value.ref b :: as).toArray ∧ HR g A (T.setVm vm₁).heap ∧ s.heap.size + cells = A.2.1 ∧ z + slots = A.2.2 := fun vm₁ _ => ⟨rfl, by show HR g A T.heap; rw [hTh]; exact X.2.1, X.2.2.1, X.2.2.2.1⟩
  have hcode := hT.1 _ hcw.2.1
  rw [w3] at hcode
  have fin : ∀ (v : Option Value) (vm₁ : Vm) (B : Pt), Stand p l e R s m args below meth c B.U B.locs B.cells B.slots → (∃ (K : List Loc) (A' : AH), Ψ (.inl v) A' ∧ HR g A' B.U.heap ∧ B.locs = locs ++ K ∧ (∀ q ∈ K, (gH g).size ≤ q.base) ∧ s.heap.size + B.cells = A'.2.1 ∧ z + B.slots = A'.2.2) →
      (∀ target, Steps p.tables e below (B.U.setTop { F0 m pc ls st0 with pc := pc + 3, stack := v.toList ++ st }) target → Steps p.tables e below (T.setTop (F0 m pc ls st0)) target) → ∃ t, Steps p.tables e below (T.setTop (F0 m pc ls st0)) t ∧ Ex g below s z Φ t := by
    intro v vm₁ B Y' ⟨K, A', hΨ, hH', hl', hK', hc', hz'⟩ hsteps
    obtain ⟨t, a, b⟩ := kk v A' hΨ p l e R s m args below meth c z C0 B.U.heap B.locs B.cells B.slots ls ⟨X.1, hH', hc', hz', by rw [hl']; exact t_lL X.2.2.2.2 hK'⟩ B.U rfl Y'
    exact ⟨t, hsteps t a, b⟩
  rcases hcw.1 with hl | ⟨host, hl⟩
  · obtain ⟨v, vm₁, B, -, Y', hpost, hsteps⟩ := callI Y hx hown w2 (hT.1 _ hl) (hT.1 _ w1) hcode hcw.2.2.2.2.2.1 hK (g := F0 m pc ls st0) rfl hsz (hcw.len hnp) hs hwt (by rw [hb]; exact hd) hpre
    exact fin v vm₁ B Y' hpost hsteps
  · obtain ⟨v, vm₁, B, -, Y', hpost, hsteps⟩ := va_callIN Y hx hown w2 (hT.1 _ hl) (hT.1 _ w1) hcode hcw.2.2.2.2.2.1 hK (g := F0 m pc ls st0) rfl hsz (hcw.len hnp) hs hwt (by rw [hb]; exact hd) hpre
    exact fin v vm₁ B Y' hpost hsteps
theorem v_objinit {idx b : Nat} (hd : decode y.2.1 pc = .ok (.invokespecial idx, 3)) (hw : Cond.methodLink y.1.cls idx Lib.objectInit ∈ gW g ∧ Cond.instanceMethod Lib.objectInit ∈ gW g ∧ Cond.code Lib.objectInit ⟨#[0xb1]⟩ 1 none ∈ gW g) (hst : (st.map fun v => v.category).sum ≤ 9) (h : V g d y (pc + 3) L st A Φ) : V g d y pc L (.ref b :: st) A Φ := by
  intro p l e R s m args below meth c z C H locs cells slots ls X
  have kk := h p l e R s m args below meth c z C H locs cells slots ls X
  obtain ⟨hx, hb, hml, -, -, hown, -, -, hT, hfr, hlo, -⟩ := C
  refine W.objInit hx hb hown (hT.1 _ hw.1) (hT.1 _ hw.2.1) (hT.1 _ hw.2.2) rfl (by rw [hml]; exact X.1.1) rfl hd (by omega) ?_ kk
  show 2 * 0 + _ + 12 ≤ R.locals
  omega
end VC
end
section
/-! words that stay; instanceof, checkcast -/
theorem kp_setVm (U : State) : U.setVm U.vm = U := rfl
theorem Kp.keeps {w : Cond} (h : (w.onTables && w.keeps) = true) : Kp w := fun _ _ _ _ hW hb => word_at hW (Or.inl h) hb
theorem Kp.face {w : Cond} (h1 : w.onTables = true) (h2 : w.keepsFace = true) : Kp w := by
  intro s U a a' hW hb
  have h3 := Cond.before_shiftedFace (args := a) (State.Shifted.of_warmed hW) w h2 hb
  rw [Cond.onTables_vm (A' := a') (U' := U) U.vm w h1] at h3
  exact h3
theorem Kp.arrayClass (ty : FieldType) : Kp (.arrayClass ty) := fun _ _ _ _ hW hb => word_at hW (Or.inr ⟨ty, rfl⟩) hb
theorem Kp.fieldNest (a : String) (i : Nat) (b n d h : String) : Kp (.fieldLinkNest a i b n d h) := fun _ _ _ _ hW hb => va_Nw.use rfl (va_Nw.warmF hW (va_Nw.of rfl hb))
theorem Kp.methNest (a : String) (i : Nat) (x : MethodName) (h : String) : Kp (.methodLinkNest a i x h) := fun _ _ _ _ hW hb => va_Nw.use rfl (va_Nw.warmM hW (va_Nw.of rfl hb))
theorem Kp.over (C : String) : Kp (.arrayOver (.object C)) := fun _ _ _ _ hW hb => va_AO.use (va_AO.moved hW.alike (va_AO.of hb))
theorem Kp.notCast (C T : String) : Kp (.not (.castable C T)) := by
  intro s U a a' hW hb
  obtain ⟨c, t, h1, h2, h3⟩ := (va_Nc.of hb).moved hW.alike
  simp [Cond.before, Cond.holds, Cond.value, h1, h2, h3]
def kpB (w : Cond) : Bool := match w with
  | .arrayClass _ => true
  | .fieldLinkNest .. => true
  | .methodLinkNest .. => true
  | .arrayOver (.object _) => true
  | .not (.castable _ _) => true
  | w => w.onTables && (w.keeps || w.keepsFace)
theorem kpB_ok {w : Cond} (h : kpB w = true) : Kp w := by
  unfold kpB at h
  split at h
  · exact Kp.arrayClass _
  · exact Kp.fieldNest _ _ _ _ _ _
  · exact Kp.methNest _ _ _ _
  · exact Kp.over _
  · exact Kp.notCast _ _
  · simp only [Bool.and_eq_true, Bool.or_eq_true] at h
    rcases h.2 with h2 | h2
    · exact Kp.keeps (by rw [h.1, h2]; rfl)
    · exact Kp.face h.1 h2
section VI
variable {g : Gx} {d : Nat} {y : MT} {pc : Nat} {L : Lo} {st : List Value} {A : AH} {Φ : Out → AH → Prop}
theorem HR.recv {H : Heap} {ci a : Nat} {fs : List Value} {r : vw_C} {s : State} {args : Array Value} (h : HR g A H) (hT : TF g s args) (hA : A.1 a = some (ci, fs)) (hci : ci < 100) (hr : (gC g)[ci]? = some r) :
    (∃ cell : Cell, H[a]? = some cell ∧ cell.vm.isStatics = false ∧ s.vm.findClass r.1 = some cell.cls) ∧ ClassAt s r.1 ((gD g).1 ci) := by
  obtain ⟨-, cell, hcell, hok⟩ := h.2.2.2.2.2 a _ hA
  obtain ⟨r', hr', hcls, hvm, -, -⟩ := hok.obj hci
  cases hr.symm.trans hr'
  have hC := (hT.2.2.1.1 ci _ hr).2
  exact ⟨⟨cell, hcell, by rw [hvm]; rfl, by rw [hcls]; exact hC.1⟩, hC⟩
/-- words for a test that says yes -/
def IW (WS : List Cond) (cl : List vw_C) (own : String) (idx ci : Nat) : Prop := ci < 100 ∧ ∃ (r : vw_C) (nm : String), cl[ci]? = some r ∧ Cond.classLink own idx nm ∈ WS ∧ (r.1 = nm ∨ Cond.castable r.1 nm ∈ WS)
def IN (WS : List Cond) (cl : List vw_C) (own : String) (idx ci : Nat) : Prop := ci < 100 ∧ ∃ (r : vw_C) (nm : String), cl[ci]? = some r ∧ Cond.classLink own idx nm ∈ WS ∧ Cond.not (.castable r.1 nm) ∈ WS
theorem v_instY {idx ci a : Nat} {fs : List Value} (hd : decode y.2.1 pc = .ok (.instanceof idx, 3)) (hw : IW (gW g) (gC g) y.1.cls idx ci) (hA : A.1 a = some (ci, fs)) (h : V g d y (pc + 3) L (.int 1 :: st) A Φ) : V g d y pc L (.ref a :: st) A Φ := by
  intro p l e R s m args below meth c z C H locs cells slots ls X
  have kk := h p l e R s m args below meth c z C H locs cells slots ls X
  obtain ⟨hx, hb, -, -, -, hown, -, -, hT, -⟩ := C
  obtain ⟨hci, r, nm, hr, hl, hor⟩ := hw
  obtain ⟨h1, h2⟩ := X.2.1.recv hT hA hci hr
  rcases hor with rfl | hc
  · exact va_instS hx hb hown (hT.1 _ hl) h2 h1 hd kk
  · exact va_instY hx hb hown (hT.1 _ hl) (va_Nw.of rfl (hT.1 _ hc)) h1 hd kk
theorem v_castY {idx ci a : Nat} {fs : List Value} (hd : decode y.2.1 pc = .ok (.checkcast idx, 3)) (hw : IW (gW g) (gC g) y.1.cls idx ci) (hA : A.1 a = some (ci, fs)) (h : V g d y (pc + 3) L (.ref a :: st) A Φ) : V g d y pc L (.ref a :: st) A Φ := by
  intro p l e R s m args below meth c z C H locs cells slots ls X
  have kk := h p l e R s m args below meth c z C H locs cells slots ls X
  obtain ⟨hx, hb, -, -, -, hown, -, -, hT, -⟩ := C
  obtain ⟨hci, r, nm, hr, hl, hor⟩ := hw
  obtain ⟨h1, h2⟩ := X.2.1.recv hT hA hci hr
  rcases hor with rfl | hc
  · exact va_castS hx hb hown (hT.1 _ hl) h2 h1 hd kk
  · exact va_castY hx hb hown (hT.1 _ hl) (va_Nw.of rfl (hT.1 _ hc)) h1 hd kk
theorem v_instNo {idx ci a : Nat} {fs : List Value} (hd : decode y.2.1 pc = .ok (.instanceof idx, 3)) (hw : IN (gW g) (gC g) y.1.cls idx ci) (hA : A.1 a = some (ci, fs)) (h : V g d y (pc + 3) L (.int 0 :: st) A Φ) : V g d y pc L (.ref a :: st) A Φ := by
  intro p l e R s m args below meth c z C H locs cells slots ls X
  have kk := h p l e R s m args below meth c z C H locs cells slots ls X
  obtain ⟨hx, hb, -, -, -, hown, -, -, hT, -⟩ := C
  obtain ⟨hci, r, nm, hr, hl, hc⟩ := hw
  obtain ⟨h1, h2⟩ := X.2.1.recv hT hA hci hr
  exact va_instNo hx hb hown (hT.1 _ hl) (va_Nc.of (hT.1 _ hc)) h1 hd kk
/-- Math.max and Math.min -/
def MX (WS : List Cond) (own : String) (idx : Nat) : Prop := Cond.methodLink own idx Lib.Math.max.name ∈ WS ∧ Cond.static Lib.Math.max.name ∈ WS ∧ Cond.initialized "java/lang/Math" ∈ WS ∧ Cond.code Lib.Math.max.name Lib.Math.max.code 2 (some .int) ∈ WS
def MN (WS : List Cond) (own : String) (idx : Nat) : Prop := Cond.methodLink own idx Lib.Math.min.name ∈ WS ∧ Cond.static Lib.Math.min.name ∈ WS ∧ Cond.initialized "java/lang/Math" ∈ WS ∧ Cond.code Lib.Math.min.name Lib.Math.min.code 2 (some .int) ∈ WS
theorem v_mmax {idx : Nat} {a b : Int32} (hd : decode y.2.1 pc = .ok (.invokestatic idx, 3)) (hw : MX (gW g) y.1.cls idx) (hst : (st.map fun v => v.category).sum ≤ 9) (h : V g d y (pc + 3) L (.int (if a < b then b else a) :: st) A Φ) : V g d y pc L (.int b :: .int a :: st) A Φ := by
  intro p l e R s m args below meth c z C H locs cells slots ls X
  have kk := h p l e R s m args below meth c z C H locs cells slots ls X
  obtain ⟨hx, hb, hml, -, -, hown, -, -, hT, hfr, hlo, hgl, hgs, -⟩ := C
  obtain ⟨w1, w2, w3, w4⟩ := hw
  have h1 := X.2.2.1
  have h2 := X.2.2.2.1
  have h3 := X.2.1.2.2.2.1
  have h4 := X.2.1.2.2.2.2.1
  exact va_mmax hx hb (by rw [hml]; exact X.1.1.symm) hown (hT.1 _ w1) (hT.1 _ w2) (hT.1 _ w3) (hT.1 _ w4) (by omega) (by omega) (by omega) (by omega) hd kk
theorem v_mmin {idx : Nat} {a b : Int32} (hd : decode y.2.1 pc = .ok (.invokestatic idx, 3)) (hw : MN (gW g) y.1.cls idx) (hst : (st.map fun v => v.category).sum ≤ 9) (h : V g d y (pc + 3) L (.int (if b < a then b else a) :: st) A Φ) : V g d y pc L (.int b :: .int a :: st) A Φ := by
  intro p l e R s m args below meth c z C H locs cells slots ls X
  have kk := h p l e R s m args below meth c z C H locs cells slots ls X
  obtain ⟨hx, hb, hml, -, -, hown, -, -, hT, hfr, hlo, hgl, hgs, -⟩ := C
  obtain ⟨w1, w2, w3, w4⟩ := hw
  have h1 := X.2.2.1
  have h2 := X.2.2.2.1
  have h3 := X.2.1.2.2.2.1
  have h4 := X.2.1.2.2.2.2.1
  exact va_mmin hx hb (by rw [hml]; exact X.1.1.symm) hown (hT.1 _ w1) (hT.1 _ w2) (hT.1 _ w3) (hT.1 _ w4) (by omega) (by omega) (by omega) (by omega) hd kk
end VI
end
section
/-- a row of a method's table of instructions -/
theorem dk {t : List (Nat × Instr × Nat)} {bs : ByteArray} (h : ∀ r ∈ t, decode bs r.1 = .ok (r.2.1, r.2.2)) (i : Nat) {pc : Nat} {ins : Instr} {len : Nat} (hi : t[i]? = some (pc, ins, len)) : decode bs pc = .ok (ins, len) := h (pc, ins, len) (List.mem_of_getElem? hi)
/-- an end that gives a value and leaves the heap -/
def Rt (v : Option Value) (A : AH) : Out → AH → Prop := fun r A' => r = .inl v ∧ A' = A
theorem rt_ret {v : Option Value} {A : AH} : Rt v A (.inl v) A := ⟨rfl, rfl⟩
theorem rt_no {v : Option Value} {A : AH} : ∀ a A', ¬ Rt v A (.inr a) A' := fun a A' h => by cases h.1
section RO
variable {g : Gx} {d : Nat} {y : MT} {pc : Nat} {L : Lo} {st : List Value} {A : AH} {Φ : Out → AH → Prop}
theorem V.rt {v : Option Value} (h : V g d y pc L st A (Rt v A)) (hΦ : Φ (.inl v) A) : V g d y pc L st A Φ := h.mono fun r A' hr => by obtain ⟨rfl, rfl⟩ := hr; exact hΦ
/-- calls that leave the heap as it is -/
theorem v_rs {y' : MT} {idx np : Nat} {as st0 : List Value} {v : Option Value} (hd : decode y.2.1 pc = .ok (.invokestatic idx, 3)) (hw : CW (gW g) y.1.cls idx y' np ∧ Cond.static y'.1 ∈ gW g ∧ Cond.initialized y'.1.cls ∈ gW g) (hs : st0 = as.reverse ++ st) (hnp : as.length = np) (has : (lg_sl as).length ≤ y'.2.2.1) (hst : (st.map fun v => v.category).sum ≤ 9)
    (hv : V g d y' 0 (lo0 as y'.2.2.1) [] A (Rt v A)) (kk : V g (d + 1) y (pc + 3) L (v.toList ++ st) A Φ) : V g (d + 1) y pc L st0 A Φ :=
  v_calls hd hw hs hnp has hst hv rt_no (fun v' A' h => by obtain ⟨h1, rfl⟩ := h; cases h1; exact kk)
theorem v_rv {y' : MT} {idx np ci b : Nat} {fs as st0 : List Value} {r : vw_C} {v : Option Value} (hd : decode y.2.1 pc = .ok (.invokevirtual idx, 3)) (hw : CW (gW g) y.1.cls idx y' np ∧ Cond.instanceMethod y'.1 ∈ gW g ∧ Cond.selects r.1 y'.1 y'.1 ∈ gW g ∧ ci < 100) (hr : (gC g)[ci]? = some r) (hB : A.1 b = some (ci, fs)) (hs : st0 = as.reverse ++ .ref b :: st) (hnp : as.length = np) (has : (lg_sl (.ref b :: as)).length ≤ y'.2.2.1) (hst : (st.map fun v => v.category).sum ≤ 9)
    (hv : V g d y' 0 (lo0 (.ref b :: as) y'.2.2.1) [] A (Rt v A)) (kk : V g (d + 1) y (pc + 3) L (v.toList ++ st) A Φ) : V g (d + 1) y pc L st0 A Φ :=
  v_callv hd hw hr hB hs hnp has hst hv rt_no (fun v' A' h => by obtain ⟨h1, rfl⟩ := h; cases h1; exact kk)
end RO
end
section
/-! names: the words, the classes, the rows that a program lays -/
def ncs : List Cond := [.not (.castable "AreaWarnings$Cancel" "AreaWarnings$Spoken"), .not (.castable "AreaWarnings$Spoken" "AreaWarnings$Cancel"), .not (.castable "java/lang/IllegalArgumentException" "java/lang/IllegalStateException"), .not (.castable "java/lang/IllegalArgumentException" "java/lang/UnsupportedOperationException"), .not (.castable "java/lang/IllegalArgumentException" "java/lang/IndexOutOfBoundsException"), .not (.castable "java/lang/IllegalStateException" "java/lang/IllegalArgumentException"), .not (.castable "java/lang/IllegalStateException" "java/lang/UnsupportedOperationException"), .not (.castable "java/lang/IllegalStateException" "java/lang/IndexOutOfBoundsException"), .not (.castable "java/lang/UnsupportedOperationException" "java/lang/IllegalArgumentException"), .not (.castable "java/lang/UnsupportedOperationException" "java/lang/IllegalStateException"), .not (.castable "java/lang/UnsupportedOperationException" "java/lang/IndexOutOfBoundsException"), .not (.castable "java/lang/IndexOutOfBoundsException" "java/lang/IllegalArgumentException"), .not (.castable "java/lang/IndexOutOfBoundsException" "java/lang/IllegalStateException"), .not (.castable "java/lang/IndexOutOfBoundsException" "java/lang/UnsupportedOperationException")]
def WS : List Cond := ((tables_1.set 258 (.arrayClass .int)).set 260 (.arrayClass .int)) ++ (k2_sels lw_privs ++ ncs)
theorem in_at {ws : List Cond} {w : Cond} (i : Nat) (h : ws[i]? = some w) : w ∈ ws := List.mem_of_getElem? h
theorem in_places (ws : List Cond) (ps : List Nat) (h : ws = ps.filterMap (fun i => WS[i]?)) : ∀ w ∈ ws, w ∈ WS := by
  intro w hw
  rw [h] at hw
  obtain ⟨i, -, hi⟩ := List.mem_filterMap.mp hw
  exact List.mem_of_getElem? hi
def TT_AW : u_T := fun k => match k with
  | 0 => ("AreaWarnings", "clock", "I", false)
  | 1 => ("AreaWarnings", "cells", "[LAreaWarnings$Cell;", true)
  | 2 => ("AreaWarnings", "cellCount", "I", false)
  | 3 => ("AreaWarnings", "warningsById", "[LAreaWarnings$Warning;", true)
  | 4 => ("AreaWarnings", "warningCount", "I", false)
  | 5 => ("AreaWarnings", "versionCount", "I", false)
  | 6 => ("AreaWarnings", "handsets", "[LAreaWarnings$Handset;", true)
  | 7 => ("AreaWarnings", "handsetCount", "I", false)
  | _ => ("AreaWarnings", "typed", "LAreaWarnings$Message;", false)
def TT_Ar : u_T := fun k => match k with
  | 0 => ("AreaWarnings$Area", "xs", "[I", true)
  | 1 => ("AreaWarnings$Area", "ys", "[I", true)
  | _ => ("AreaWarnings$Area", "count", "I", false)
def TT_Ca : u_T := fun k => match k with
  | 0 => ("AreaWarnings$Version", "warning", "LAreaWarnings$Warning;", true)
  | 1 => ("AreaWarnings$Version", "number", "I", true)
  | 2 => ("AreaWarnings$Version", "severity", "I", true)
  | _ => ("AreaWarnings$Version", "end", "I", true)
def TT_Ce : u_T := fun k => match k with
  | 0 => ("AreaWarnings$Cell", "index", "I", true)
  | 1 => ("AreaWarnings$Cell", "x", "I", true)
  | 2 => ("AreaWarnings$Cell", "y", "I", true)
  | 3 => ("AreaWarnings$Cell", "radius", "I", true)
  | 4 => ("AreaWarnings$Cell", "lineWhole", "Z", false)
  | 5 => ("AreaWarnings$Cell", "list", "[LAreaWarnings$Version;", false)
  | 6 => ("AreaWarnings$Cell", "listCount", "I", false)
  | 7 => ("AreaWarnings$Cell", "spareList", "[LAreaWarnings$Version;", false)
  | 8 => ("AreaWarnings$Cell", "pageVersions", "[LAreaWarnings$Version;", true)
  | 9 => ("AreaWarnings$Cell", "pageLanguages", "[I", true)
  | 10 => ("AreaWarnings$Cell", "pageNumbers", "[I", true)
  | _ => ("AreaWarnings$Cell", "pageCount", "I", false)
def TT_Ha : u_T := fun k => match k with
  | 0 => ("AreaWarnings$Handset", "threshold", "I", true)
  | 1 => ("AreaWarnings$Handset", "liked", "[I", true)
  | 2 => ("AreaWarnings$Handset", "likedCount", "I", false)
  | 3 => ("AreaWarnings$Handset", "place", "I", false)
  | 4 => ("AreaWarnings$Handset", "toMiss", "I", false)
  | 5 => ("AreaWarnings$Handset", "alarms", "I", false)
  | 6 => ("AreaWarnings$Handset", "heard", "[LAreaWarnings$Version;", true)
  | 7 => ("AreaWarnings$Handset", "heldPages", "[I", true)
  | 8 => ("AreaWarnings$Handset", "wasShown", "[Z", true)
  | 9 => ("AreaWarnings$Handset", "shownVersions", "[LAreaWarnings$Spoken;", true)
  | 10 => ("AreaWarnings$Handset", "shownLanguages", "[I", true)
  | 11 => ("AreaWarnings$Handset", "shownMinutes", "[I", true)
  | _ => ("AreaWarnings$Handset", "shownCount", "I", false)
def TT_Me : u_T := fun k => match k with
  | 0 => ("AreaWarnings$Message", "area", "LAreaWarnings$Area;", true)
  | _ => ("AreaWarnings$Message", "texts", "LAreaWarnings$Texts;", true)
def TT_Sp : u_T := fun k => match k with
  | 0 => ("AreaWarnings$Version", "warning", "LAreaWarnings$Warning;", true)
  | 1 => ("AreaWarnings$Version", "number", "I", true)
  | 2 => ("AreaWarnings$Version", "severity", "I", true)
  | 3 => ("AreaWarnings$Version", "end", "I", true)
  | 4 => ("AreaWarnings$Spoken", "begin", "I", true)
  | 5 => ("AreaWarnings$Spoken", "span", "I", true)
  | 6 => ("AreaWarnings$Spoken", "area", "LAreaWarnings$Area;", true)
  | 7 => ("AreaWarnings$Spoken", "texts", "LAreaWarnings$Texts;", true)
  | _ => ("AreaWarnings$Spoken", "covered", "[Z", true)
def TT_Te : u_T := fun k => match k with
  | 0 => ("AreaWarnings$Texts", "bytes", "[[I", true)
  | _ => ("AreaWarnings$Texts", "lengths", "[I", true)
def TT_Wa : u_T := fun k => match k with
  | 0 => ("AreaWarnings$Warning", "id", "I", true)
  | 1 => ("AreaWarnings$Warning", "index", "I", true)
  | _ => ("AreaWarnings$Warning", "newest", "LAreaWarnings$Version;", false)
def TT_Mo : u_T := fun k => match k with
  | 0 => ("AreaWarningsModel", "thrown", "I", false)
  | 1 => ("AreaWarningsModel", "clock", "I", false)
  | 2 => ("AreaWarningsModel", "cells", "I", false)
  | 3 => ("AreaWarningsModel", "cellX", "[I", true)
  | 4 => ("AreaWarningsModel", "cellY", "[I", true)
  | 5 => ("AreaWarningsModel", "cellR", "[I", true)
  | 6 => ("AreaWarningsModel", "cut", "[Z", true)
  | 7 => ("AreaWarningsModel", "listCount", "[I", true)
  | 8 => ("AreaWarningsModel", "lists", "[I", true)
  | 9 => ("AreaWarningsModel", "newList", "[I", true)
  | 10 => ("AreaWarningsModel", "sentCount", "[I", true)
  | 11 => ("AreaWarningsModel", "sentVersion", "[I", true)
  | 12 => ("AreaWarningsModel", "sentLanguage", "[I", true)
  | 13 => ("AreaWarningsModel", "sentNumber", "[I", true)
  | 14 => ("AreaWarningsModel", "corners", "I", false)
  | 15 => ("AreaWarningsModel", "cornerX", "[I", true)
  | 16 => ("AreaWarningsModel", "cornerY", "[I", true)
  | 17 => ("AreaWarningsModel", "lengths", "[I", true)
  | 18 => ("AreaWarningsModel", "typed", "[I", true)
  | 19 => ("AreaWarningsModel", "warnings", "I", false)
  | 20 => ("AreaWarningsModel", "ids", "[I", true)
  | 21 => ("AreaWarningsModel", "newest", "[I", true)
  | 22 => ("AreaWarningsModel", "versions", "I", false)
  | 23 => ("AreaWarningsModel", "warningOf", "[I", true)
  | 24 => ("AreaWarningsModel", "numberOf", "[I", true)
  | 25 => ("AreaWarningsModel", "severities", "[I", true)
  | 26 => ("AreaWarningsModel", "ends", "[I", true)
  | 27 => ("AreaWarningsModel", "spoken", "[Z", true)
  | 28 => ("AreaWarningsModel", "begins", "[I", true)
  | 29 => ("AreaWarningsModel", "spans", "[I", true)
  | 30 => ("AreaWarningsModel", "sides", "[I", true)
  | 31 => ("AreaWarningsModel", "areaX", "[I", true)
  | 32 => ("AreaWarningsModel", "areaY", "[I", true)
  | 33 => ("AreaWarningsModel", "textLengths", "[I", true)
  | 34 => ("AreaWarningsModel", "bytes", "[I", true)
  | 35 => ("AreaWarningsModel", "handsets", "I", false)
  | 36 => ("AreaWarningsModel", "thresholds", "[I", true)
  | 37 => ("AreaWarningsModel", "likeCount", "[I", true)
  | 38 => ("AreaWarningsModel", "likes", "[I", true)
  | 39 => ("AreaWarningsModel", "camps", "[I", true)
  | 40 => ("AreaWarningsModel", "misses", "[I", true)
  | 41 => ("AreaWarningsModel", "alarms", "[I", true)
  | 42 => ("AreaWarningsModel", "heard", "[I", true)
  | 43 => ("AreaWarningsModel", "held", "[I", true)
  | 44 => ("AreaWarningsModel", "isShown", "[Z", true)
  | 45 => ("AreaWarningsModel", "shownCount", "[I", true)
  | 46 => ("AreaWarningsModel", "shownVersion", "[I", true)
  | 47 => ("AreaWarningsModel", "shownLanguage", "[I", true)
  | _ => ("AreaWarningsModel", "shownMinute", "[I", true)
def YT_AW : Nat → FieldType := fun k => match k with
  | 0 => .int
  | 1 => .array (.object "AreaWarnings$Cell")
  | 2 => .int
  | 3 => .array (.object "AreaWarnings$Warning")
  | 4 => .int
  | 5 => .int
  | 6 => .array (.object "AreaWarnings$Handset")
  | 7 => .int
  | _ => .object "AreaWarnings$Message"
def YT_Ar : Nat → FieldType := fun k => match k with
  | 0 => .array .int
  | 1 => .array .int
  | _ => .int
def YT_Ca : Nat → FieldType := fun k => match k with
  | 0 => .object "AreaWarnings$Warning"
  | 1 => .int
  | 2 => .int
  | _ => .int
def YT_Ce : Nat → FieldType := fun k => match k with
  | 0 => .int
  | 1 => .int
  | 2 => .int
  | 3 => .int
  | 4 => .boolean
  | 5 => .array (.object "AreaWarnings$Version")
  | 6 => .int
  | 7 => .array (.object "AreaWarnings$Version")
  | 8 => .array (.object "AreaWarnings$Version")
  | 9 => .array .int
  | 10 => .array .int
  | _ => .int
def YT_Ha : Nat → FieldType := fun k => match k with
  | 0 => .int
  | 1 => .array .int
  | 2 => .int
  | 3 => .int
  | 4 => .int
  | 5 => .int
  | 6 => .array (.object "AreaWarnings$Version")
  | 7 => .array .int
  | 8 => .array .boolean
  | 9 => .array (.object "AreaWarnings$Spoken")
  | 10 => .array .int
  | 11 => .array .int
  | _ => .int
def YT_Me : Nat → FieldType := fun k => match k with
  | 0 => .object "AreaWarnings$Area"
  | _ => .object "AreaWarnings$Texts"
def YT_Sp : Nat → FieldType := fun k => match k with
  | 0 => .object "AreaWarnings$Warning"
  | 1 => .int
  | 2 => .int
  | 3 => .int
  | 4 => .int
  | 5 => .int
  | 6 => .object "AreaWarnings$Area"
  | 7 => .object "AreaWarnings$Texts"
  | _ => .array .boolean
def YT_Te : Nat → FieldType := fun k => match k with
  | 0 => .array (.array .int)
  | _ => .array .int
def YT_Wa : Nat → FieldType := fun k => match k with
  | 0 => .int
  | 1 => .int
  | _ => .object "AreaWarnings$Version"
def YT_Mo : Nat → FieldType := fun k => match k with
  | 0 => .int
  | 1 => .int
  | 2 => .int
  | 3 => .array .int
  | 4 => .array .int
  | 5 => .array .int
  | 6 => .array .boolean
  | 7 => .array .int
  | 8 => .array .int
  | 9 => .array .int
  | 10 => .array .int
  | 11 => .array .int
  | 12 => .array .int
  | 13 => .array .int
  | 14 => .int
  | 15 => .array .int
  | 16 => .array .int
  | 17 => .array .int
  | 18 => .array .int
  | 19 => .int
  | 20 => .array .int
  | 21 => .array .int
  | 22 => .int
  | 23 => .array .int
  | 24 => .array .int
  | 25 => .array .int
  | 26 => .array .int
  | 27 => .array .boolean
  | 28 => .array .int
  | 29 => .array .int
  | 30 => .array .int
  | 31 => .array .int
  | 32 => .array .int
  | 33 => .array .int
  | 34 => .array .int
  | 35 => .int
  | 36 => .array .int
  | 37 => .array .int
  | 38 => .array .int
  | 39 => .array .int
  | 40 => .array .int
  | 41 => .array .int
  | 42 => .array .int
  | 43 => .array .int
  | 44 => .array .boolean
  | 45 => .array .int
  | 46 => .array .int
  | 47 => .array .int
  | _ => .array .int
def clS : List vw_C := [("AreaWarnings", TT_AW, 9), ("AreaWarnings$Area", TT_Ar, 3), ("AreaWarnings$Cancel", TT_Ca, 4), ("AreaWarnings$Cell", TT_Ce, 12), ("AreaWarnings$Handset", TT_Ha, 13), ("AreaWarnings$Message", TT_Me, 2), ("AreaWarnings$Spoken", TT_Sp, 9), ("AreaWarnings$Texts", TT_Te, 2), ("AreaWarnings$Warning", TT_Wa, 3), ("AreaWarningsModel", TT_Mo, 49)]
/-- array kinds: int, boolean, long, int[], Cell, Warning, Handset, Version, Spoken -/
def taS : List FieldType := [.int, .boolean, .long, .array .int, .object "AreaWarnings$Cell", .object "AreaWarnings$Warning", .object "AreaWarnings$Handset", .object "AreaWarnings$Version", .object "AreaWarnings$Spoken"]
theorem in_AW : ∀ w ∈ u_ws "AreaWarnings" TT_AW 9, w ∈ WS := in_places _ [96, 98, 100, 102, 104, 106, 108, 110, 112] (by decide +kernel)
theorem yt_AW : ∀ j, j < 9 → parseFieldDescriptor (TT_AW j).2.2.1 = some (YT_AW j) := by decide +kernel
theorem nm_AW : ∀ a, a < 9 → ∀ b, b < 9 → a ≠ b → (TT_AW a).2.1 ≠ (TT_AW b).2.1 := by decide +kernel
theorem in_Ar : ∀ w ∈ u_ws "AreaWarnings$Area" TT_Ar 3, w ∈ WS := in_places _ [50, 52, 54] (by decide +kernel)
theorem yt_Ar : ∀ j, j < 3 → parseFieldDescriptor (TT_Ar j).2.2.1 = some (YT_Ar j) := by decide +kernel
theorem nm_Ar : ∀ a, a < 3 → ∀ b, b < 3 → a ≠ b → (TT_Ar a).2.1 ≠ (TT_Ar b).2.1 := by decide +kernel
theorem in_Ca : ∀ w ∈ u_ws "AreaWarnings$Cancel" TT_Ca 4, w ∈ WS := in_places _ [594, 595, 596, 597] (by decide +kernel)
theorem yt_Ca : ∀ j, j < 4 → parseFieldDescriptor (TT_Ca j).2.2.1 = some (YT_Ca j) := by decide +kernel
theorem nm_Ca : ∀ a, a < 4 → ∀ b, b < 4 → a ≠ b → (TT_Ca a).2.1 ≠ (TT_Ca b).2.1 := by decide +kernel
theorem in_Ce : ∀ w ∈ u_ws "AreaWarnings$Cell" TT_Ce 12, w ∈ WS := in_places _ [344, 346, 348, 350, 352, 354, 356, 358, 360, 362, 364, 366] (by decide +kernel)
theorem yt_Ce : ∀ j, j < 12 → parseFieldDescriptor (TT_Ce j).2.2.1 = some (YT_Ce j) := by decide +kernel
theorem nm_Ce : ∀ a, a < 12 → ∀ b, b < 12 → a ≠ b → (TT_Ce a).2.1 ≠ (TT_Ce b).2.1 := by decide +kernel
theorem in_Ha : ∀ w ∈ u_ws "AreaWarnings$Handset" TT_Ha 13, w ∈ WS := in_places _ [656, 658, 660, 662, 664, 666, 668, 670, 672, 674, 676, 678, 680] (by decide +kernel)
theorem yt_Ha : ∀ j, j < 13 → parseFieldDescriptor (TT_Ha j).2.2.1 = some (YT_Ha j) := by decide +kernel
theorem nm_Ha : ∀ a, a < 13 → ∀ b, b < 13 → a ≠ b → (TT_Ha a).2.1 ≠ (TT_Ha b).2.1 := by decide +kernel
theorem in_Me : ∀ w ∈ u_ws "AreaWarnings$Message" TT_Me 2, w ∈ WS := in_places _ [82, 84] (by decide +kernel)
theorem yt_Me : ∀ j, j < 2 → parseFieldDescriptor (TT_Me j).2.2.1 = some (YT_Me j) := by decide +kernel
theorem nm_Me : ∀ a, a < 2 → ∀ b, b < 2 → a ≠ b → (TT_Me a).2.1 ≠ (TT_Me b).2.1 := by decide +kernel
theorem in_Sp : ∀ w ∈ u_ws "AreaWarnings$Spoken" TT_Sp 9, w ∈ WS := in_places _ [556, 558, 560, 562, 546, 548, 550, 552, 554] (by decide +kernel)
theorem yt_Sp : ∀ j, j < 9 → parseFieldDescriptor (TT_Sp j).2.2.1 = some (YT_Sp j) := by decide +kernel
theorem nm_Sp : ∀ a, a < 9 → ∀ b, b < 9 → a ≠ b → (TT_Sp a).2.1 ≠ (TT_Sp b).2.1 := by decide +kernel
theorem in_Te : ∀ w ∈ u_ws "AreaWarnings$Texts" TT_Te 2, w ∈ WS := in_places _ [71, 73] (by decide +kernel)
theorem yt_Te : ∀ j, j < 2 → parseFieldDescriptor (TT_Te j).2.2.1 = some (YT_Te j) := by decide +kernel
theorem nm_Te : ∀ a, a < 2 → ∀ b, b < 2 → a ≠ b → (TT_Te a).2.1 ≠ (TT_Te b).2.1 := by decide +kernel
theorem in_Wa : ∀ w ∈ u_ws "AreaWarnings$Warning" TT_Wa 3, w ∈ WS := in_places _ [495, 497, 499] (by decide +kernel)
theorem yt_Wa : ∀ j, j < 3 → parseFieldDescriptor (TT_Wa j).2.2.1 = some (YT_Wa j) := by decide +kernel
theorem nm_Wa : ∀ a, a < 3 → ∀ b, b < 3 → a ≠ b → (TT_Wa a).2.1 ≠ (TT_Wa b).2.1 := by decide +kernel
theorem in_Mo : ∀ w ∈ u_ws "AreaWarningsModel" TT_Mo 49, w ∈ WS := in_places _ [819, 821, 823, 825, 827, 829, 831, 833, 835, 837, 839, 841, 843, 845, 847, 849, 851, 853, 855, 857, 859, 861, 863, 865, 867, 869, 871, 873, 875, 877, 879, 881, 883, 885, 887, 889, 891, 893, 895, 897, 899, 901, 903, 905, 907, 909, 911, 913, 915] (by decide +kernel)
theorem yt_Mo : ∀ j, j < 49 → parseFieldDescriptor (TT_Mo j).2.2.1 = some (YT_Mo j) := by decide +kernel
theorem nm_Mo : ∀ a, a < 49 → ∀ b, b < 49 → a ≠ b → (TT_Mo a).2.1 ≠ (TT_Mo b).2.1 := by decide +kernel
theorem fg_AW_9_AW : FR WS clS "AreaWarnings" 9 0 0 := ⟨by decide, "AreaWarnings", TT_AW, 9, "AreaWarnings", rfl, by decide, in_AW, Or.inl (in_at 87 (by decide +kernel)), Or.inl rfl⟩
theorem fp_AW_9_AW : FP WS clS "AreaWarnings" 9 0 0 (.int) false := ⟨by decide, "AreaWarnings", TT_AW, 9, "AreaWarnings", YT_AW, rfl, by decide, in_AW, Or.inl (in_at 87 (by decide +kernel)), Or.inl rfl, yt_AW, nm_AW, by decide +kernel, rfl, fun h => by cases h⟩
theorem fg_AW_15_AW : FR WS clS "AreaWarnings" 15 0 1 := ⟨by decide, "AreaWarnings", TT_AW, 9, "AreaWarnings", rfl, by decide, in_AW, Or.inl (in_at 88 (by decide +kernel)), Or.inl rfl⟩
theorem fp_AW_15_AW : FP WS clS "AreaWarnings" 15 0 1 (.array (.object "AreaWarnings$Cell")) true := ⟨by decide, "AreaWarnings", TT_AW, 9, "AreaWarnings", YT_AW, rfl, by decide, in_AW, Or.inl (in_at 88 (by decide +kernel)), Or.inl rfl, yt_AW, nm_AW, by decide +kernel, rfl, fun _ => rfl⟩
theorem fg_AW_19_AW : FR WS clS "AreaWarnings" 19 0 2 := ⟨by decide, "AreaWarnings", TT_AW, 9, "AreaWarnings", rfl, by decide, in_AW, Or.inl (in_at 89 (by decide +kernel)), Or.inl rfl⟩
theorem fp_AW_19_AW : FP WS clS "AreaWarnings" 19 0 2 (.int) false := ⟨by decide, "AreaWarnings", TT_AW, 9, "AreaWarnings", YT_AW, rfl, by decide, in_AW, Or.inl (in_at 89 (by decide +kernel)), Or.inl rfl, yt_AW, nm_AW, by decide +kernel, rfl, fun h => by cases h⟩
theorem fg_AW_24_AW : FR WS clS "AreaWarnings" 24 0 3 := ⟨by decide, "AreaWarnings", TT_AW, 9, "AreaWarnings", rfl, by decide, in_AW, Or.inl (in_at 90 (by decide +kernel)), Or.inl rfl⟩
theorem fp_AW_24_AW : FP WS clS "AreaWarnings" 24 0 3 (.array (.object "AreaWarnings$Warning")) true := ⟨by decide, "AreaWarnings", TT_AW, 9, "AreaWarnings", YT_AW, rfl, by decide, in_AW, Or.inl (in_at 90 (by decide +kernel)), Or.inl rfl, yt_AW, nm_AW, by decide +kernel, rfl, fun _ => rfl⟩
theorem fg_AW_28_AW : FR WS clS "AreaWarnings" 28 0 4 := ⟨by decide, "AreaWarnings", TT_AW, 9, "AreaWarnings", rfl, by decide, in_AW, Or.inl (in_at 91 (by decide +kernel)), Or.inl rfl⟩
theorem fp_AW_28_AW : FP WS clS "AreaWarnings" 28 0 4 (.int) false := ⟨by decide, "AreaWarnings", TT_AW, 9, "AreaWarnings", YT_AW, rfl, by decide, in_AW, Or.inl (in_at 91 (by decide +kernel)), Or.inl rfl, yt_AW, nm_AW, by decide +kernel, rfl, fun h => by cases h⟩
theorem fg_AW_31_AW : FR WS clS "AreaWarnings" 31 0 5 := ⟨by decide, "AreaWarnings", TT_AW, 9, "AreaWarnings", rfl, by decide, in_AW, Or.inl (in_at 92 (by decide +kernel)), Or.inl rfl⟩
theorem fp_AW_31_AW : FP WS clS "AreaWarnings" 31 0 5 (.int) false := ⟨by decide, "AreaWarnings", TT_AW, 9, "AreaWarnings", YT_AW, rfl, by decide, in_AW, Or.inl (in_at 92 (by decide +kernel)), Or.inl rfl, yt_AW, nm_AW, by decide +kernel, rfl, fun h => by cases h⟩
theorem fg_AW_36_AW : FR WS clS "AreaWarnings" 36 0 6 := ⟨by decide, "AreaWarnings", TT_AW, 9, "AreaWarnings", rfl, by decide, in_AW, Or.inl (in_at 93 (by decide +kernel)), Or.inl rfl⟩
theorem fp_AW_36_AW : FP WS clS "AreaWarnings" 36 0 6 (.array (.object "AreaWarnings$Handset")) true := ⟨by decide, "AreaWarnings", TT_AW, 9, "AreaWarnings", YT_AW, rfl, by decide, in_AW, Or.inl (in_at 93 (by decide +kernel)), Or.inl rfl, yt_AW, nm_AW, by decide +kernel, rfl, fun _ => rfl⟩
theorem fg_AW_40_AW : FR WS clS "AreaWarnings" 40 0 7 := ⟨by decide, "AreaWarnings", TT_AW, 9, "AreaWarnings", rfl, by decide, in_AW, Or.inl (in_at 94 (by decide +kernel)), Or.inl rfl⟩
theorem fp_AW_40_AW : FP WS clS "AreaWarnings" 40 0 7 (.int) false := ⟨by decide, "AreaWarnings", TT_AW, 9, "AreaWarnings", YT_AW, rfl, by decide, in_AW, Or.inl (in_at 94 (by decide +kernel)), Or.inl rfl, yt_AW, nm_AW, by decide +kernel, rfl, fun h => by cases h⟩
theorem fg_AW_46_AW : FR WS clS "AreaWarnings" 46 0 8 := ⟨by decide, "AreaWarnings", TT_AW, 9, "AreaWarnings", rfl, by decide, in_AW, Or.inl (in_at 95 (by decide +kernel)), Or.inl rfl⟩
theorem fp_AW_46_AW : FP WS clS "AreaWarnings" 46 0 8 (.object "AreaWarnings$Message") false := ⟨by decide, "AreaWarnings", TT_AW, 9, "AreaWarnings", YT_AW, rfl, by decide, in_AW, Or.inl (in_at 95 (by decide +kernel)), Or.inl rfl, yt_AW, nm_AW, by decide +kernel, rfl, fun h => by cases h⟩
theorem fg_AW_63_Wa : FR WS clS "AreaWarnings" 63 8 2 := ⟨by decide, "AreaWarnings$Warning", TT_Wa, 3, "AreaWarnings$Warning", rfl, by decide, in_Wa, Or.inl (in_at 494 (by decide +kernel)), Or.inl rfl⟩
theorem fp_AW_63_Wa : FP WS clS "AreaWarnings" 63 8 2 (.object "AreaWarnings$Version") false := ⟨by decide, "AreaWarnings$Warning", TT_Wa, 3, "AreaWarnings$Warning", YT_Wa, rfl, by decide, in_Wa, Or.inl (in_at 494 (by decide +kernel)), Or.inl rfl, yt_Wa, nm_Wa, by decide +kernel, rfl, fun h => by cases h⟩
theorem fg_AW_73_Ce : FR WS clS "AreaWarnings" 73 3 0 := ⟨by decide, "AreaWarnings$Cell", TT_Ce, 12, "AreaWarnings$Cell", rfl, by decide, in_Ce, Or.inl (in_at 318 (by decide +kernel)), Or.inl rfl⟩
theorem fg_AW_76_Me : FR WS clS "AreaWarnings" 76 5 0 := ⟨by decide, "AreaWarnings$Message", TT_Me, 2, "AreaWarnings$Message", rfl, by decide, in_Me, Or.inl (in_at 78 (by decide +kernel)), Or.inl rfl⟩
theorem fg_AW_80_Ar : FR WS clS "AreaWarnings" 80 1 2 := ⟨by decide, "AreaWarnings$Area", TT_Ar, 3, "AreaWarnings$Area", rfl, by decide, in_Ar, Or.inl (in_at 49 (by decide +kernel)), Or.inl rfl⟩
theorem fg_AW_92_Me : FR WS clS "AreaWarnings" 92 5 1 := ⟨by decide, "AreaWarnings$Message", TT_Me, 2, "AreaWarnings$Message", rfl, by decide, in_Me, Or.inl (in_at 81 (by decide +kernel)), Or.inl rfl⟩
theorem fg_AW_96_Te : FR WS clS "AreaWarnings" 96 7 1 := ⟨by decide, "AreaWarnings$Texts", TT_Te, 2, "AreaWarnings$Texts", rfl, by decide, in_Te, Or.inl (in_at 69 (by decide +kernel)), Or.inl rfl⟩
theorem fg_AW_151_Ca : FR WS clS "AreaWarnings" 151 2 2 := ⟨by decide, "AreaWarnings$Cancel", TT_Ca, 4, "AreaWarnings$Version", rfl, by decide, in_Ca, Or.inl (in_at 540 (by decide +kernel)), Or.inl rfl⟩
theorem fg_AW_151_Sp : FR WS clS "AreaWarnings" 151 6 2 := ⟨by decide, "AreaWarnings$Spoken", TT_Sp, 9, "AreaWarnings$Version", rfl, by decide, in_Sp, Or.inl (in_at 540 (by decide +kernel)), Or.inl rfl⟩
theorem fg_AW_156_Ca : FR WS clS "AreaWarnings" 156 2 3 := ⟨by decide, "AreaWarnings$Cancel", TT_Ca, 4, "AreaWarnings$Version", rfl, by decide, in_Ca, Or.inl (in_at 545 (by decide +kernel)), Or.inl rfl⟩
theorem fg_AW_156_Sp : FR WS clS "AreaWarnings" 156 6 3 := ⟨by decide, "AreaWarnings$Spoken", TT_Sp, 9, "AreaWarnings$Version", rfl, by decide, in_Sp, Or.inl (in_at 545 (by decide +kernel)), Or.inl rfl⟩
theorem fg_AW_162_Ca : FR WS clS "AreaWarnings" 162 2 1 := ⟨by decide, "AreaWarnings$Cancel", TT_Ca, 4, "AreaWarnings$Version", rfl, by decide, in_Ca, Or.inl (in_at 533 (by decide +kernel)), Or.inl rfl⟩
theorem fg_AW_162_Sp : FR WS clS "AreaWarnings" 162 6 1 := ⟨by decide, "AreaWarnings$Spoken", TT_Sp, 9, "AreaWarnings$Version", rfl, by decide, in_Sp, Or.inl (in_at 533 (by decide +kernel)), Or.inl rfl⟩
theorem fg_AW_165_Ce : FR WS clS "AreaWarnings" 165 3 4 := ⟨by decide, "AreaWarnings$Cell", TT_Ce, 12, "AreaWarnings$Cell", rfl, by decide, in_Ce, Or.inl (in_at 326 (by decide +kernel)), Or.inl rfl⟩
theorem fp_AW_165_Ce : FP WS clS "AreaWarnings" 165 3 4 (.boolean) false := ⟨by decide, "AreaWarnings$Cell", TT_Ce, 12, "AreaWarnings$Cell", YT_Ce, rfl, by decide, in_Ce, Or.inl (in_at 326 (by decide +kernel)), Or.inl rfl, yt_Ce, nm_Ce, by decide +kernel, rfl, fun h => by cases h⟩
theorem fg_AW_180_Ce : FR WS clS "AreaWarnings" 180 3 11 := ⟨by decide, "AreaWarnings$Cell", TT_Ce, 12, "AreaWarnings$Cell", rfl, by decide, in_Ce, Or.inl (in_at 343 (by decide +kernel)), Or.inl rfl⟩
theorem fg_AW_183_Ha : FR WS clS "AreaWarnings" 183 4 3 := ⟨by decide, "AreaWarnings$Handset", TT_Ha, 13, "AreaWarnings$Handset", rfl, by decide, in_Ha, Or.inl (in_at 640 (by decide +kernel)), Or.inl rfl⟩
theorem fp_AW_183_Ha : FP WS clS "AreaWarnings" 183 4 3 (.int) false := ⟨by decide, "AreaWarnings$Handset", TT_Ha, 13, "AreaWarnings$Handset", YT_Ha, rfl, by decide, in_Ha, Or.inl (in_at 640 (by decide +kernel)), Or.inl rfl, yt_Ha, nm_Ha, by decide +kernel, rfl, fun h => by cases h⟩
theorem fg_AW_201_Ha : FR WS clS "AreaWarnings" 201 4 2 := ⟨by decide, "AreaWarnings$Handset", TT_Ha, 13, "AreaWarnings$Handset", rfl, by decide, in_Ha, Or.inl (in_at 638 (by decide +kernel)), Or.inl rfl⟩
theorem fg_AW_208_Ha : FR WS clS "AreaWarnings" 208 4 4 := ⟨by decide, "AreaWarnings$Handset", TT_Ha, 13, "AreaWarnings$Handset", rfl, by decide, in_Ha, Or.inl (in_at 642 (by decide +kernel)), Or.inl rfl⟩
theorem fp_AW_208_Ha : FP WS clS "AreaWarnings" 208 4 4 (.int) false := ⟨by decide, "AreaWarnings$Handset", TT_Ha, 13, "AreaWarnings$Handset", YT_Ha, rfl, by decide, in_Ha, Or.inl (in_at 642 (by decide +kernel)), Or.inl rfl, yt_Ha, nm_Ha, by decide +kernel, rfl, fun h => by cases h⟩
theorem fg_AW_211_Sp : FR WS clS "AreaWarnings" 211 6 8 := ⟨by decide, "AreaWarnings$Spoken", TT_Sp, 9, "AreaWarnings$Spoken", rfl, by decide, in_Sp, Or.inl (in_at 523 (by decide +kernel)), Or.inl rfl⟩
theorem fg_AW_215_Ce : FR WS clS "AreaWarnings" 215 3 6 := ⟨by decide, "AreaWarnings$Cell", TT_Ce, 12, "AreaWarnings$Cell", rfl, by decide, in_Ce, Or.inl (in_at 330 (by decide +kernel)), Or.inl rfl⟩
theorem fg_AW_218_Ce : FR WS clS "AreaWarnings" 218 3 5 := ⟨by decide, "AreaWarnings$Cell", TT_Ce, 12, "AreaWarnings$Cell", rfl, by decide, in_Ce, Or.inl (in_at 328 (by decide +kernel)), Or.inl rfl⟩
theorem fg_AW_222_Ca : FR WS clS "AreaWarnings" 222 2 0 := ⟨by decide, "AreaWarnings$Cancel", TT_Ca, 4, "AreaWarnings$Version", rfl, by decide, in_Ca, Or.inl (in_at 529 (by decide +kernel)), Or.inl rfl⟩
theorem fg_AW_222_Sp : FR WS clS "AreaWarnings" 222 6 0 := ⟨by decide, "AreaWarnings$Spoken", TT_Sp, 9, "AreaWarnings$Version", rfl, by decide, in_Sp, Or.inl (in_at 529 (by decide +kernel)), Or.inl rfl⟩
theorem fg_AW_226_Wa : FR WS clS "AreaWarnings" 226 8 0 := ⟨by decide, "AreaWarnings$Warning", TT_Wa, 3, "AreaWarnings$Warning", rfl, by decide, in_Wa, Or.inl (in_at 488 (by decide +kernel)), Or.inl rfl⟩
theorem fg_AW_229_Ce : FR WS clS "AreaWarnings" 229 3 8 := ⟨by decide, "AreaWarnings$Cell", TT_Ce, 12, "AreaWarnings$Cell", rfl, by decide, in_Ce, Or.inl (in_at 334 (by decide +kernel)), Or.inl rfl⟩
theorem fg_AW_232_Ce : FR WS clS "AreaWarnings" 232 3 9 := ⟨by decide, "AreaWarnings$Cell", TT_Ce, 12, "AreaWarnings$Cell", rfl, by decide, in_Ce, Or.inl (in_at 337 (by decide +kernel)), Or.inl rfl⟩
theorem fg_AW_235_Ce : FR WS clS "AreaWarnings" 235 3 10 := ⟨by decide, "AreaWarnings$Cell", TT_Ce, 12, "AreaWarnings$Cell", rfl, by decide, in_Ce, Or.inl (in_at 340 (by decide +kernel)), Or.inl rfl⟩
theorem fg_AW_241_Ha : FR WS clS "AreaWarnings" 241 4 12 := ⟨by decide, "AreaWarnings$Handset", TT_Ha, 13, "AreaWarnings$Handset", rfl, by decide, in_Ha, Or.inl (in_at 655 (by decide +kernel)), Or.inl rfl⟩
theorem fg_AW_244_Ha : FR WS clS "AreaWarnings" 244 4 9 := ⟨by decide, "AreaWarnings$Handset", TT_Ha, 13, "AreaWarnings$Handset", rfl, by decide, in_Ha, Or.inl (in_at 649 (by decide +kernel)), Or.inl rfl⟩
theorem fg_AW_248_Sp : FR WS clS "AreaWarnings" 248 6 0 := ⟨by decide, "AreaWarnings$Spoken", TT_Sp, 9, "AreaWarnings$Spoken", rfl, by decide, in_Sp, Or.inl (in_at 530 (by decide +kernel)), Or.inr (in_at 528 (by decide +kernel))⟩
theorem fg_AW_249_Sp : FR WS clS "AreaWarnings" 249 6 1 := ⟨by decide, "AreaWarnings$Spoken", TT_Sp, 9, "AreaWarnings$Spoken", rfl, by decide, in_Sp, Or.inl (in_at 534 (by decide +kernel)), Or.inr (in_at 535 (by decide +kernel))⟩
theorem fg_AW_250_Ha : FR WS clS "AreaWarnings" 250 4 10 := ⟨by decide, "AreaWarnings$Handset", TT_Ha, 13, "AreaWarnings$Handset", rfl, by decide, in_Ha, Or.inl (in_at 651 (by decide +kernel)), Or.inl rfl⟩
theorem fg_AW_253_Ha : FR WS clS "AreaWarnings" 253 4 11 := ⟨by decide, "AreaWarnings$Handset", TT_Ha, 13, "AreaWarnings$Handset", rfl, by decide, in_Ha, Or.inl (in_at 653 (by decide +kernel)), Or.inl rfl⟩
theorem fg_AW_263_Sp : FR WS clS "AreaWarnings" 263 6 7 := ⟨by decide, "AreaWarnings$Spoken", TT_Sp, 9, "AreaWarnings$Spoken", rfl, by decide, in_Sp, Or.inl (in_at 520 (by decide +kernel)), Or.inl rfl⟩
theorem fg_AW_264_Te : FR WS clS "AreaWarnings" 264 7 0 := ⟨by decide, "AreaWarnings$Texts", TT_Te, 2, "AreaWarnings$Texts", rfl, by decide, in_Te, Or.inl (in_at 67 (by decide +kernel)), Or.inl rfl⟩
theorem fg_AW_268_Ha : FR WS clS "AreaWarnings" 268 4 5 := ⟨by decide, "AreaWarnings$Handset", TT_Ha, 13, "AreaWarnings$Handset", rfl, by decide, in_Ha, Or.inl (in_at 644 (by decide +kernel)), Or.inl rfl⟩
theorem fg_Ar_9_Ar : FR WS clS "AreaWarnings$Area" 9 1 0 := ⟨by decide, "AreaWarnings$Area", TT_Ar, 3, "AreaWarnings$Area", rfl, by decide, in_Ar, Or.inl (in_at 46 (by decide +kernel)), Or.inl rfl⟩
theorem fp_Ar_9_Ar : FP WS clS "AreaWarnings$Area" 9 1 0 (.array .int) true := ⟨by decide, "AreaWarnings$Area", TT_Ar, 3, "AreaWarnings$Area", YT_Ar, rfl, by decide, in_Ar, Or.inl (in_at 46 (by decide +kernel)), Or.inl rfl, yt_Ar, nm_Ar, by decide +kernel, rfl, fun _ => rfl⟩
theorem fg_Ar_15_Ar : FR WS clS "AreaWarnings$Area" 15 1 1 := ⟨by decide, "AreaWarnings$Area", TT_Ar, 3, "AreaWarnings$Area", rfl, by decide, in_Ar, Or.inl (in_at 47 (by decide +kernel)), Or.inl rfl⟩
theorem fp_Ar_15_Ar : FP WS clS "AreaWarnings$Area" 15 1 1 (.array .int) true := ⟨by decide, "AreaWarnings$Area", TT_Ar, 3, "AreaWarnings$Area", YT_Ar, rfl, by decide, in_Ar, Or.inl (in_at 47 (by decide +kernel)), Or.inl rfl, yt_Ar, nm_Ar, by decide +kernel, rfl, fun _ => rfl⟩
theorem fg_Ar_18_Ar : FR WS clS "AreaWarnings$Area" 18 1 2 := ⟨by decide, "AreaWarnings$Area", TT_Ar, 3, "AreaWarnings$Area", rfl, by decide, in_Ar, Or.inl (in_at 48 (by decide +kernel)), Or.inl rfl⟩
theorem fp_Ar_18_Ar : FP WS clS "AreaWarnings$Area" 18 1 2 (.int) false := ⟨by decide, "AreaWarnings$Area", TT_Ar, 3, "AreaWarnings$Area", YT_Ar, rfl, by decide, in_Ar, Or.inl (in_at 48 (by decide +kernel)), Or.inl rfl, yt_Ar, nm_Ar, by decide +kernel, rfl, fun h => by cases h⟩
theorem fg_Ce_9_Ce : FR WS clS "AreaWarnings$Cell" 9 3 0 := ⟨by decide, "AreaWarnings$Cell", TT_Ce, 12, "AreaWarnings$Cell", rfl, by decide, in_Ce, Or.inl (in_at 316 (by decide +kernel)), Or.inl rfl⟩
theorem fp_Ce_9_Ce : FP WS clS "AreaWarnings$Cell" 9 3 0 (.int) true := ⟨by decide, "AreaWarnings$Cell", TT_Ce, 12, "AreaWarnings$Cell", YT_Ce, rfl, by decide, in_Ce, Or.inl (in_at 316 (by decide +kernel)), Or.inl rfl, yt_Ce, nm_Ce, by decide +kernel, rfl, fun _ => rfl⟩
theorem fp_Ce_15_Ce : FP WS clS "AreaWarnings$Cell" 15 3 1 (.int) true := ⟨by decide, "AreaWarnings$Cell", TT_Ce, 12, "AreaWarnings$Cell", YT_Ce, rfl, by decide, in_Ce, Or.inl (in_at 319 (by decide +kernel)), Or.inl rfl, yt_Ce, nm_Ce, by decide +kernel, rfl, fun _ => rfl⟩
theorem fp_Ce_18_Ce : FP WS clS "AreaWarnings$Cell" 18 3 2 (.int) true := ⟨by decide, "AreaWarnings$Cell", TT_Ce, 12, "AreaWarnings$Cell", YT_Ce, rfl, by decide, in_Ce, Or.inl (in_at 321 (by decide +kernel)), Or.inl rfl, yt_Ce, nm_Ce, by decide +kernel, rfl, fun _ => rfl⟩
theorem fp_Ce_21_Ce : FP WS clS "AreaWarnings$Cell" 21 3 3 (.int) true := ⟨by decide, "AreaWarnings$Cell", TT_Ce, 12, "AreaWarnings$Cell", YT_Ce, rfl, by decide, in_Ce, Or.inl (in_at 323 (by decide +kernel)), Or.inl rfl, yt_Ce, nm_Ce, by decide +kernel, rfl, fun _ => rfl⟩
theorem fp_Ce_24_Ce : FP WS clS "AreaWarnings$Cell" 24 3 4 (.boolean) false := ⟨by decide, "AreaWarnings$Cell", TT_Ce, 12, "AreaWarnings$Cell", YT_Ce, rfl, by decide, in_Ce, Or.inl (in_at 325 (by decide +kernel)), Or.inl rfl, yt_Ce, nm_Ce, by decide +kernel, rfl, fun h => by cases h⟩
theorem fg_Ce_30_Ce : FR WS clS "AreaWarnings$Cell" 30 3 5 := ⟨by decide, "AreaWarnings$Cell", TT_Ce, 12, "AreaWarnings$Cell", rfl, by decide, in_Ce, Or.inl (in_at 327 (by decide +kernel)), Or.inl rfl⟩
theorem fp_Ce_30_Ce : FP WS clS "AreaWarnings$Cell" 30 3 5 (.array (.object "AreaWarnings$Version")) false := ⟨by decide, "AreaWarnings$Cell", TT_Ce, 12, "AreaWarnings$Cell", YT_Ce, rfl, by decide, in_Ce, Or.inl (in_at 327 (by decide +kernel)), Or.inl rfl, yt_Ce, nm_Ce, by decide +kernel, rfl, fun h => by cases h⟩
theorem fg_Ce_34_Ce : FR WS clS "AreaWarnings$Cell" 34 3 6 := ⟨by decide, "AreaWarnings$Cell", TT_Ce, 12, "AreaWarnings$Cell", rfl, by decide, in_Ce, Or.inl (in_at 329 (by decide +kernel)), Or.inl rfl⟩
theorem fp_Ce_34_Ce : FP WS clS "AreaWarnings$Cell" 34 3 6 (.int) false := ⟨by decide, "AreaWarnings$Cell", TT_Ce, 12, "AreaWarnings$Cell", YT_Ce, rfl, by decide, in_Ce, Or.inl (in_at 329 (by decide +kernel)), Or.inl rfl, yt_Ce, nm_Ce, by decide +kernel, rfl, fun h => by cases h⟩
theorem fg_Ce_37_Ce : FR WS clS "AreaWarnings$Cell" 37 3 7 := ⟨by decide, "AreaWarnings$Cell", TT_Ce, 12, "AreaWarnings$Cell", rfl, by decide, in_Ce, Or.inl (in_at 331 (by decide +kernel)), Or.inl rfl⟩
theorem fp_Ce_37_Ce : FP WS clS "AreaWarnings$Cell" 37 3 7 (.array (.object "AreaWarnings$Version")) false := ⟨by decide, "AreaWarnings$Cell", TT_Ce, 12, "AreaWarnings$Cell", YT_Ce, rfl, by decide, in_Ce, Or.inl (in_at 331 (by decide +kernel)), Or.inl rfl, yt_Ce, nm_Ce, by decide +kernel, rfl, fun h => by cases h⟩
theorem fg_Ce_40_Ce : FR WS clS "AreaWarnings$Cell" 40 3 8 := ⟨by decide, "AreaWarnings$Cell", TT_Ce, 12, "AreaWarnings$Cell", rfl, by decide, in_Ce, Or.inl (in_at 332 (by decide +kernel)), Or.inl rfl⟩
theorem fp_Ce_40_Ce : FP WS clS "AreaWarnings$Cell" 40 3 8 (.array (.object "AreaWarnings$Version")) true := ⟨by decide, "AreaWarnings$Cell", TT_Ce, 12, "AreaWarnings$Cell", YT_Ce, rfl, by decide, in_Ce, Or.inl (in_at 332 (by decide +kernel)), Or.inl rfl, yt_Ce, nm_Ce, by decide +kernel, rfl, fun _ => rfl⟩
theorem fg_Ce_43_Ce : FR WS clS "AreaWarnings$Cell" 43 3 9 := ⟨by decide, "AreaWarnings$Cell", TT_Ce, 12, "AreaWarnings$Cell", rfl, by decide, in_Ce, Or.inl (in_at 335 (by decide +kernel)), Or.inl rfl⟩
theorem fp_Ce_43_Ce : FP WS clS "AreaWarnings$Cell" 43 3 9 (.array .int) true := ⟨by decide, "AreaWarnings$Cell", TT_Ce, 12, "AreaWarnings$Cell", YT_Ce, rfl, by decide, in_Ce, Or.inl (in_at 335 (by decide +kernel)), Or.inl rfl, yt_Ce, nm_Ce, by decide +kernel, rfl, fun _ => rfl⟩
theorem fg_Ce_47_Ce : FR WS clS "AreaWarnings$Cell" 47 3 10 := ⟨by decide, "AreaWarnings$Cell", TT_Ce, 12, "AreaWarnings$Cell", rfl, by decide, in_Ce, Or.inl (in_at 338 (by decide +kernel)), Or.inl rfl⟩
theorem fp_Ce_47_Ce : FP WS clS "AreaWarnings$Cell" 47 3 10 (.array .int) true := ⟨by decide, "AreaWarnings$Cell", TT_Ce, 12, "AreaWarnings$Cell", YT_Ce, rfl, by decide, in_Ce, Or.inl (in_at 338 (by decide +kernel)), Or.inl rfl, yt_Ce, nm_Ce, by decide +kernel, rfl, fun _ => rfl⟩
theorem fg_Ce_50_Ce : FR WS clS "AreaWarnings$Cell" 50 3 11 := ⟨by decide, "AreaWarnings$Cell", TT_Ce, 12, "AreaWarnings$Cell", rfl, by decide, in_Ce, Or.inl (in_at 341 (by decide +kernel)), Or.inl rfl⟩
theorem fp_Ce_50_Ce : FP WS clS "AreaWarnings$Cell" 50 3 11 (.int) false := ⟨by decide, "AreaWarnings$Cell", TT_Ce, 12, "AreaWarnings$Cell", YT_Ce, rfl, by decide, in_Ce, Or.inl (in_at 341 (by decide +kernel)), Or.inl rfl, yt_Ce, nm_Ce, by decide +kernel, rfl, fun h => by cases h⟩
theorem fg_Ce_53_Wa : FR WS clS "AreaWarnings$Cell" 53 8 2 := ⟨by decide, "AreaWarnings$Warning", TT_Wa, 3, "AreaWarnings$Warning", rfl, by decide, in_Wa, Or.inl (in_at 493 (by decide +kernel)), Or.inl rfl⟩
theorem fg_Ce_59_Ca : FR WS clS "AreaWarnings$Cell" 59 2 3 := ⟨by decide, "AreaWarnings$Cancel", TT_Ca, 4, "AreaWarnings$Version", rfl, by decide, in_Ca, Or.inl (in_at 542 (by decide +kernel)), Or.inl rfl⟩
theorem fg_Ce_59_Sp : FR WS clS "AreaWarnings$Cell" 59 6 3 := ⟨by decide, "AreaWarnings$Spoken", TT_Sp, 9, "AreaWarnings$Version", rfl, by decide, in_Sp, Or.inl (in_at 542 (by decide +kernel)), Or.inl rfl⟩
theorem fg_Ce_68_Sp : FR WS clS "AreaWarnings$Cell" 68 6 8 := ⟨by decide, "AreaWarnings$Spoken", TT_Sp, 9, "AreaWarnings$Spoken", rfl, by decide, in_Sp, Or.inl (in_at 522 (by decide +kernel)), Or.inl rfl⟩
theorem fg_Ce_72_Ca : FR WS clS "AreaWarnings$Cell" 72 2 0 := ⟨by decide, "AreaWarnings$Cancel", TT_Ca, 4, "AreaWarnings$Version", rfl, by decide, in_Ca, Or.inl (in_at 525 (by decide +kernel)), Or.inl rfl⟩
theorem fg_Ce_72_Sp : FR WS clS "AreaWarnings$Cell" 72 6 0 := ⟨by decide, "AreaWarnings$Spoken", TT_Sp, 9, "AreaWarnings$Version", rfl, by decide, in_Sp, Or.inl (in_at 525 (by decide +kernel)), Or.inl rfl⟩
theorem fg_Ce_80_Ca : FR WS clS "AreaWarnings$Cell" 80 2 2 := ⟨by decide, "AreaWarnings$Cancel", TT_Ca, 4, "AreaWarnings$Version", rfl, by decide, in_Ca, Or.inl (in_at 537 (by decide +kernel)), Or.inl rfl⟩
theorem fg_Ce_80_Sp : FR WS clS "AreaWarnings$Cell" 80 6 2 := ⟨by decide, "AreaWarnings$Spoken", TT_Sp, 9, "AreaWarnings$Version", rfl, by decide, in_Sp, Or.inl (in_at 537 (by decide +kernel)), Or.inl rfl⟩
theorem fg_Ce_99_Sp : FR WS clS "AreaWarnings$Cell" 99 6 7 := ⟨by decide, "AreaWarnings$Spoken", TT_Sp, 9, "AreaWarnings$Spoken", rfl, by decide, in_Sp, Or.inl (in_at 519 (by decide +kernel)), Or.inl rfl⟩
theorem fg_Ha_9_Ha : FR WS clS "AreaWarnings$Handset" 9 4 0 := ⟨by decide, "AreaWarnings$Handset", TT_Ha, 13, "AreaWarnings$Handset", rfl, by decide, in_Ha, Or.inl (in_at 635 (by decide +kernel)), Or.inl rfl⟩
theorem fp_Ha_9_Ha : FP WS clS "AreaWarnings$Handset" 9 4 0 (.int) true := ⟨by decide, "AreaWarnings$Handset", TT_Ha, 13, "AreaWarnings$Handset", YT_Ha, rfl, by decide, in_Ha, Or.inl (in_at 635 (by decide +kernel)), Or.inl rfl, yt_Ha, nm_Ha, by decide +kernel, rfl, fun _ => rfl⟩
theorem fg_Ha_15_Ha : FR WS clS "AreaWarnings$Handset" 15 4 1 := ⟨by decide, "AreaWarnings$Handset", TT_Ha, 13, "AreaWarnings$Handset", rfl, by decide, in_Ha, Or.inl (in_at 636 (by decide +kernel)), Or.inl rfl⟩
theorem fp_Ha_15_Ha : FP WS clS "AreaWarnings$Handset" 15 4 1 (.array .int) true := ⟨by decide, "AreaWarnings$Handset", TT_Ha, 13, "AreaWarnings$Handset", YT_Ha, rfl, by decide, in_Ha, Or.inl (in_at 636 (by decide +kernel)), Or.inl rfl, yt_Ha, nm_Ha, by decide +kernel, rfl, fun _ => rfl⟩
theorem fg_Ha_19_Ha : FR WS clS "AreaWarnings$Handset" 19 4 2 := ⟨by decide, "AreaWarnings$Handset", TT_Ha, 13, "AreaWarnings$Handset", rfl, by decide, in_Ha, Or.inl (in_at 637 (by decide +kernel)), Or.inl rfl⟩
theorem fp_Ha_19_Ha : FP WS clS "AreaWarnings$Handset" 19 4 2 (.int) false := ⟨by decide, "AreaWarnings$Handset", TT_Ha, 13, "AreaWarnings$Handset", YT_Ha, rfl, by decide, in_Ha, Or.inl (in_at 637 (by decide +kernel)), Or.inl rfl, yt_Ha, nm_Ha, by decide +kernel, rfl, fun h => by cases h⟩
theorem fp_Ha_22_Ha : FP WS clS "AreaWarnings$Handset" 22 4 3 (.int) false := ⟨by decide, "AreaWarnings$Handset", TT_Ha, 13, "AreaWarnings$Handset", YT_Ha, rfl, by decide, in_Ha, Or.inl (in_at 639 (by decide +kernel)), Or.inl rfl, yt_Ha, nm_Ha, by decide +kernel, rfl, fun h => by cases h⟩
theorem fg_Ha_25_Ha : FR WS clS "AreaWarnings$Handset" 25 4 4 := ⟨by decide, "AreaWarnings$Handset", TT_Ha, 13, "AreaWarnings$Handset", rfl, by decide, in_Ha, Or.inl (in_at 641 (by decide +kernel)), Or.inl rfl⟩
theorem fp_Ha_25_Ha : FP WS clS "AreaWarnings$Handset" 25 4 4 (.int) false := ⟨by decide, "AreaWarnings$Handset", TT_Ha, 13, "AreaWarnings$Handset", YT_Ha, rfl, by decide, in_Ha, Or.inl (in_at 641 (by decide +kernel)), Or.inl rfl, yt_Ha, nm_Ha, by decide +kernel, rfl, fun h => by cases h⟩
theorem fg_Ha_28_Ha : FR WS clS "AreaWarnings$Handset" 28 4 5 := ⟨by decide, "AreaWarnings$Handset", TT_Ha, 13, "AreaWarnings$Handset", rfl, by decide, in_Ha, Or.inl (in_at 643 (by decide +kernel)), Or.inl rfl⟩
theorem fp_Ha_28_Ha : FP WS clS "AreaWarnings$Handset" 28 4 5 (.int) false := ⟨by decide, "AreaWarnings$Handset", TT_Ha, 13, "AreaWarnings$Handset", YT_Ha, rfl, by decide, in_Ha, Or.inl (in_at 643 (by decide +kernel)), Or.inl rfl, yt_Ha, nm_Ha, by decide +kernel, rfl, fun h => by cases h⟩
theorem fg_Ha_33_Ha : FR WS clS "AreaWarnings$Handset" 33 4 6 := ⟨by decide, "AreaWarnings$Handset", TT_Ha, 13, "AreaWarnings$Handset", rfl, by decide, in_Ha, Or.inl (in_at 645 (by decide +kernel)), Or.inl rfl⟩
theorem fp_Ha_33_Ha : FP WS clS "AreaWarnings$Handset" 33 4 6 (.array (.object "AreaWarnings$Version")) true := ⟨by decide, "AreaWarnings$Handset", TT_Ha, 13, "AreaWarnings$Handset", YT_Ha, rfl, by decide, in_Ha, Or.inl (in_at 645 (by decide +kernel)), Or.inl rfl, yt_Ha, nm_Ha, by decide +kernel, rfl, fun _ => rfl⟩
theorem fg_Ha_37_Ha : FR WS clS "AreaWarnings$Handset" 37 4 7 := ⟨by decide, "AreaWarnings$Handset", TT_Ha, 13, "AreaWarnings$Handset", rfl, by decide, in_Ha, Or.inl (in_at 646 (by decide +kernel)), Or.inl rfl⟩
theorem fp_Ha_37_Ha : FP WS clS "AreaWarnings$Handset" 37 4 7 (.array .int) true := ⟨by decide, "AreaWarnings$Handset", TT_Ha, 13, "AreaWarnings$Handset", YT_Ha, rfl, by decide, in_Ha, Or.inl (in_at 646 (by decide +kernel)), Or.inl rfl, yt_Ha, nm_Ha, by decide +kernel, rfl, fun _ => rfl⟩
theorem fg_Ha_40_Ha : FR WS clS "AreaWarnings$Handset" 40 4 8 := ⟨by decide, "AreaWarnings$Handset", TT_Ha, 13, "AreaWarnings$Handset", rfl, by decide, in_Ha, Or.inl (in_at 647 (by decide +kernel)), Or.inl rfl⟩
theorem fp_Ha_40_Ha : FP WS clS "AreaWarnings$Handset" 40 4 8 (.array .boolean) true := ⟨by decide, "AreaWarnings$Handset", TT_Ha, 13, "AreaWarnings$Handset", YT_Ha, rfl, by decide, in_Ha, Or.inl (in_at 647 (by decide +kernel)), Or.inl rfl, yt_Ha, nm_Ha, by decide +kernel, rfl, fun _ => rfl⟩
theorem fg_Ha_46_Ha : FR WS clS "AreaWarnings$Handset" 46 4 9 := ⟨by decide, "AreaWarnings$Handset", TT_Ha, 13, "AreaWarnings$Handset", rfl, by decide, in_Ha, Or.inl (in_at 648 (by decide +kernel)), Or.inl rfl⟩
theorem fp_Ha_46_Ha : FP WS clS "AreaWarnings$Handset" 46 4 9 (.array (.object "AreaWarnings$Spoken")) true := ⟨by decide, "AreaWarnings$Handset", TT_Ha, 13, "AreaWarnings$Handset", YT_Ha, rfl, by decide, in_Ha, Or.inl (in_at 648 (by decide +kernel)), Or.inl rfl, yt_Ha, nm_Ha, by decide +kernel, rfl, fun _ => rfl⟩
theorem fg_Ha_50_Ha : FR WS clS "AreaWarnings$Handset" 50 4 10 := ⟨by decide, "AreaWarnings$Handset", TT_Ha, 13, "AreaWarnings$Handset", rfl, by decide, in_Ha, Or.inl (in_at 650 (by decide +kernel)), Or.inl rfl⟩
theorem fp_Ha_50_Ha : FP WS clS "AreaWarnings$Handset" 50 4 10 (.array .int) true := ⟨by decide, "AreaWarnings$Handset", TT_Ha, 13, "AreaWarnings$Handset", YT_Ha, rfl, by decide, in_Ha, Or.inl (in_at 650 (by decide +kernel)), Or.inl rfl, yt_Ha, nm_Ha, by decide +kernel, rfl, fun _ => rfl⟩
theorem fg_Ha_53_Ha : FR WS clS "AreaWarnings$Handset" 53 4 11 := ⟨by decide, "AreaWarnings$Handset", TT_Ha, 13, "AreaWarnings$Handset", rfl, by decide, in_Ha, Or.inl (in_at 652 (by decide +kernel)), Or.inl rfl⟩
theorem fp_Ha_53_Ha : FP WS clS "AreaWarnings$Handset" 53 4 11 (.array .int) true := ⟨by decide, "AreaWarnings$Handset", TT_Ha, 13, "AreaWarnings$Handset", YT_Ha, rfl, by decide, in_Ha, Or.inl (in_at 652 (by decide +kernel)), Or.inl rfl, yt_Ha, nm_Ha, by decide +kernel, rfl, fun _ => rfl⟩
theorem fg_Ha_56_Ha : FR WS clS "AreaWarnings$Handset" 56 4 12 := ⟨by decide, "AreaWarnings$Handset", TT_Ha, 13, "AreaWarnings$Handset", rfl, by decide, in_Ha, Or.inl (in_at 654 (by decide +kernel)), Or.inl rfl⟩
theorem fp_Ha_56_Ha : FP WS clS "AreaWarnings$Handset" 56 4 12 (.int) false := ⟨by decide, "AreaWarnings$Handset", TT_Ha, 13, "AreaWarnings$Handset", YT_Ha, rfl, by decide, in_Ha, Or.inl (in_at 654 (by decide +kernel)), Or.inl rfl, yt_Ha, nm_Ha, by decide +kernel, rfl, fun h => by cases h⟩
theorem fg_Ha_59_Ce : FR WS clS "AreaWarnings$Handset" 59 3 11 := ⟨by decide, "AreaWarnings$Cell", TT_Ce, 12, "AreaWarnings$Cell", rfl, by decide, in_Ce, Or.inl (in_at 342 (by decide +kernel)), Or.inl rfl⟩
theorem fg_Ha_64_Ce : FR WS clS "AreaWarnings$Handset" 64 3 8 := ⟨by decide, "AreaWarnings$Cell", TT_Ce, 12, "AreaWarnings$Cell", rfl, by decide, in_Ce, Or.inl (in_at 333 (by decide +kernel)), Or.inl rfl⟩
theorem fg_Ha_67_Ce : FR WS clS "AreaWarnings$Handset" 67 3 9 := ⟨by decide, "AreaWarnings$Cell", TT_Ce, 12, "AreaWarnings$Cell", rfl, by decide, in_Ce, Or.inl (in_at 336 (by decide +kernel)), Or.inl rfl⟩
theorem fg_Ha_70_Ce : FR WS clS "AreaWarnings$Handset" 70 3 10 := ⟨by decide, "AreaWarnings$Cell", TT_Ce, 12, "AreaWarnings$Cell", rfl, by decide, in_Ce, Or.inl (in_at 339 (by decide +kernel)), Or.inl rfl⟩
theorem fg_Ha_77_Ca : FR WS clS "AreaWarnings$Handset" 77 2 0 := ⟨by decide, "AreaWarnings$Cancel", TT_Ca, 4, "AreaWarnings$Version", rfl, by decide, in_Ca, Or.inl (in_at 526 (by decide +kernel)), Or.inl rfl⟩
theorem fg_Ha_77_Sp : FR WS clS "AreaWarnings$Handset" 77 6 0 := ⟨by decide, "AreaWarnings$Spoken", TT_Sp, 9, "AreaWarnings$Version", rfl, by decide, in_Sp, Or.inl (in_at 526 (by decide +kernel)), Or.inl rfl⟩
theorem fg_Ha_81_Wa : FR WS clS "AreaWarnings$Handset" 81 8 1 := ⟨by decide, "AreaWarnings$Warning", TT_Wa, 3, "AreaWarnings$Warning", rfl, by decide, in_Wa, Or.inl (in_at 490 (by decide +kernel)), Or.inl rfl⟩
theorem fg_Ha_86_Ca : FR WS clS "AreaWarnings$Handset" 86 2 1 := ⟨by decide, "AreaWarnings$Cancel", TT_Ca, 4, "AreaWarnings$Version", rfl, by decide, in_Ca, Or.inl (in_at 532 (by decide +kernel)), Or.inl rfl⟩
theorem fg_Ha_86_Sp : FR WS clS "AreaWarnings$Handset" 86 6 1 := ⟨by decide, "AreaWarnings$Spoken", TT_Sp, 9, "AreaWarnings$Version", rfl, by decide, in_Sp, Or.inl (in_at 532 (by decide +kernel)), Or.inl rfl⟩
theorem fg_Ha_97_Sp : FR WS clS "AreaWarnings$Handset" 97 6 0 := ⟨by decide, "AreaWarnings$Spoken", TT_Sp, 9, "AreaWarnings$Spoken", rfl, by decide, in_Sp, Or.inl (in_at 527 (by decide +kernel)), Or.inr (in_at 528 (by decide +kernel))⟩
theorem fg_Ha_98_Sp : FR WS clS "AreaWarnings$Handset" 98 6 7 := ⟨by decide, "AreaWarnings$Spoken", TT_Sp, 9, "AreaWarnings$Spoken", rfl, by decide, in_Sp, Or.inl (in_at 518 (by decide +kernel)), Or.inl rfl⟩
theorem fg_Ha_112_Sp : FR WS clS "AreaWarnings$Handset" 112 6 2 := ⟨by decide, "AreaWarnings$Spoken", TT_Sp, 9, "AreaWarnings$Spoken", rfl, by decide, in_Sp, Or.inl (in_at 538 (by decide +kernel)), Or.inr (in_at 539 (by decide +kernel))⟩
theorem fg_Ha_119_Sp : FR WS clS "AreaWarnings$Handset" 119 6 3 := ⟨by decide, "AreaWarnings$Spoken", TT_Sp, 9, "AreaWarnings$Spoken", rfl, by decide, in_Sp, Or.inl (in_at 543 (by decide +kernel)), Or.inr (in_at 544 (by decide +kernel))⟩
theorem fg_Ha_122_Te : FR WS clS "AreaWarnings$Handset" 122 7 1 := ⟨by decide, "AreaWarnings$Texts", TT_Te, 2, "AreaWarnings$Texts", rfl, by decide, in_Te, Or.inl (in_at 70 (by decide +kernel)), Or.inl rfl⟩
theorem fg_Me_10_Me : FR WS clS "AreaWarnings$Message" 10 5 0 := ⟨by decide, "AreaWarnings$Message", TT_Me, 2, "AreaWarnings$Message", rfl, by decide, in_Me, Or.inl (in_at 76 (by decide +kernel)), Or.inl rfl⟩
theorem fp_Me_10_Me : FP WS clS "AreaWarnings$Message" 10 5 0 (.object "AreaWarnings$Area") true := ⟨by decide, "AreaWarnings$Message", TT_Me, 2, "AreaWarnings$Message", YT_Me, rfl, by decide, in_Me, Or.inl (in_at 76 (by decide +kernel)), Or.inl rfl, yt_Me, nm_Me, by decide +kernel, rfl, fun _ => rfl⟩
theorem fg_Me_19_Me : FR WS clS "AreaWarnings$Message" 19 5 1 := ⟨by decide, "AreaWarnings$Message", TT_Me, 2, "AreaWarnings$Message", rfl, by decide, in_Me, Or.inl (in_at 79 (by decide +kernel)), Or.inl rfl⟩
theorem fp_Me_19_Me : FP WS clS "AreaWarnings$Message" 19 5 1 (.object "AreaWarnings$Texts") true := ⟨by decide, "AreaWarnings$Message", TT_Me, 2, "AreaWarnings$Message", YT_Me, rfl, by decide, in_Me, Or.inl (in_at 79 (by decide +kernel)), Or.inl rfl, yt_Me, nm_Me, by decide +kernel, rfl, fun _ => rfl⟩
theorem fg_Sp_9_Sp : FR WS clS "AreaWarnings$Spoken" 9 6 4 := ⟨by decide, "AreaWarnings$Spoken", TT_Sp, 9, "AreaWarnings$Spoken", rfl, by decide, in_Sp, Or.inl (in_at 514 (by decide +kernel)), Or.inl rfl⟩
theorem fp_Sp_9_Sp : FP WS clS "AreaWarnings$Spoken" 9 6 4 (.int) true := ⟨by decide, "AreaWarnings$Spoken", TT_Sp, 9, "AreaWarnings$Spoken", YT_Sp, rfl, by decide, in_Sp, Or.inl (in_at 514 (by decide +kernel)), Or.inl rfl, yt_Sp, nm_Sp, by decide +kernel, rfl, fun _ => rfl⟩
theorem fg_Sp_15_Sp : FR WS clS "AreaWarnings$Spoken" 15 6 5 := ⟨by decide, "AreaWarnings$Spoken", TT_Sp, 9, "AreaWarnings$Spoken", rfl, by decide, in_Sp, Or.inl (in_at 515 (by decide +kernel)), Or.inl rfl⟩
theorem fp_Sp_15_Sp : FP WS clS "AreaWarnings$Spoken" 15 6 5 (.int) true := ⟨by decide, "AreaWarnings$Spoken", TT_Sp, 9, "AreaWarnings$Spoken", YT_Sp, rfl, by decide, in_Sp, Or.inl (in_at 515 (by decide +kernel)), Or.inl rfl, yt_Sp, nm_Sp, by decide +kernel, rfl, fun _ => rfl⟩
theorem fg_Sp_18_Me : FR WS clS "AreaWarnings$Spoken" 18 5 0 := ⟨by decide, "AreaWarnings$Message", TT_Me, 2, "AreaWarnings$Message", rfl, by decide, in_Me, Or.inl (in_at 77 (by decide +kernel)), Or.inl rfl⟩
theorem fg_Sp_24_Sp : FR WS clS "AreaWarnings$Spoken" 24 6 6 := ⟨by decide, "AreaWarnings$Spoken", TT_Sp, 9, "AreaWarnings$Spoken", rfl, by decide, in_Sp, Or.inl (in_at 516 (by decide +kernel)), Or.inl rfl⟩
theorem fp_Sp_24_Sp : FP WS clS "AreaWarnings$Spoken" 24 6 6 (.object "AreaWarnings$Area") true := ⟨by decide, "AreaWarnings$Spoken", TT_Sp, 9, "AreaWarnings$Spoken", YT_Sp, rfl, by decide, in_Sp, Or.inl (in_at 516 (by decide +kernel)), Or.inl rfl, yt_Sp, nm_Sp, by decide +kernel, rfl, fun _ => rfl⟩
theorem fg_Sp_25_Me : FR WS clS "AreaWarnings$Spoken" 25 5 1 := ⟨by decide, "AreaWarnings$Message", TT_Me, 2, "AreaWarnings$Message", rfl, by decide, in_Me, Or.inl (in_at 80 (by decide +kernel)), Or.inl rfl⟩
theorem fp_Sp_29_Sp : FP WS clS "AreaWarnings$Spoken" 29 6 7 (.object "AreaWarnings$Texts") true := ⟨by decide, "AreaWarnings$Spoken", TT_Sp, 9, "AreaWarnings$Spoken", YT_Sp, rfl, by decide, in_Sp, Or.inl (in_at 517 (by decide +kernel)), Or.inl rfl, yt_Sp, nm_Sp, by decide +kernel, rfl, fun _ => rfl⟩
theorem fg_Sp_30_Sp : FR WS clS "AreaWarnings$Spoken" 30 6 8 := ⟨by decide, "AreaWarnings$Spoken", TT_Sp, 9, "AreaWarnings$Spoken", rfl, by decide, in_Sp, Or.inl (in_at 521 (by decide +kernel)), Or.inl rfl⟩
theorem fp_Sp_30_Sp : FP WS clS "AreaWarnings$Spoken" 30 6 8 (.array .boolean) true := ⟨by decide, "AreaWarnings$Spoken", TT_Sp, 9, "AreaWarnings$Spoken", YT_Sp, rfl, by decide, in_Sp, Or.inl (in_at 521 (by decide +kernel)), Or.inl rfl, yt_Sp, nm_Sp, by decide +kernel, rfl, fun _ => rfl⟩
theorem fg_Sp_34_Ce : FR WS clS "AreaWarnings$Spoken" 34 3 0 := ⟨by decide, "AreaWarnings$Cell", TT_Ce, 12, "AreaWarnings$Cell", rfl, by decide, in_Ce, Or.inl (in_at 317 (by decide +kernel)), Or.inl rfl⟩
theorem fg_Sp_39_Ce : FR WS clS "AreaWarnings$Spoken" 39 3 1 := ⟨by decide, "AreaWarnings$Cell", TT_Ce, 12, "AreaWarnings$Cell", rfl, by decide, in_Ce, Or.inl (in_at 320 (by decide +kernel)), Or.inl rfl⟩
theorem fg_Sp_42_Ce : FR WS clS "AreaWarnings$Spoken" 42 3 2 := ⟨by decide, "AreaWarnings$Cell", TT_Ce, 12, "AreaWarnings$Cell", rfl, by decide, in_Ce, Or.inl (in_at 322 (by decide +kernel)), Or.inl rfl⟩
theorem fg_Sp_45_Ce : FR WS clS "AreaWarnings$Spoken" 45 3 3 := ⟨by decide, "AreaWarnings$Cell", TT_Ce, 12, "AreaWarnings$Cell", rfl, by decide, in_Ce, Or.inl (in_at 324 (by decide +kernel)), Or.inl rfl⟩
theorem fg_Te_11_Te : FR WS clS "AreaWarnings$Texts" 11 7 0 := ⟨by decide, "AreaWarnings$Texts", TT_Te, 2, "AreaWarnings$Texts", rfl, by decide, in_Te, Or.inl (in_at 66 (by decide +kernel)), Or.inl rfl⟩
theorem fp_Te_11_Te : FP WS clS "AreaWarnings$Texts" 11 7 0 (.array (.array .int)) true := ⟨by decide, "AreaWarnings$Texts", TT_Te, 2, "AreaWarnings$Texts", YT_Te, rfl, by decide, in_Te, Or.inl (in_at 66 (by decide +kernel)), Or.inl rfl, yt_Te, nm_Te, by decide +kernel, rfl, fun _ => rfl⟩
theorem fg_Te_16_Te : FR WS clS "AreaWarnings$Texts" 16 7 1 := ⟨by decide, "AreaWarnings$Texts", TT_Te, 2, "AreaWarnings$Texts", rfl, by decide, in_Te, Or.inl (in_at 68 (by decide +kernel)), Or.inl rfl⟩
theorem fp_Te_16_Te : FP WS clS "AreaWarnings$Texts" 16 7 1 (.array .int) true := ⟨by decide, "AreaWarnings$Texts", TT_Te, 2, "AreaWarnings$Texts", YT_Te, rfl, by decide, in_Te, Or.inl (in_at 68 (by decide +kernel)), Or.inl rfl, yt_Te, nm_Te, by decide +kernel, rfl, fun _ => rfl⟩
theorem fp_Ve_7_Ca : FP WS clS "AreaWarnings$Version" 7 2 0 (.object "AreaWarnings$Warning") true := ⟨by decide, "AreaWarnings$Cancel", TT_Ca, 4, "AreaWarnings$Version", YT_Ca, rfl, by decide, in_Ca, Or.inl (in_at 524 (by decide +kernel)), Or.inl rfl, yt_Ca, nm_Ca, by decide +kernel, rfl, fun _ => rfl⟩
theorem fp_Ve_7_Sp : FP WS clS "AreaWarnings$Version" 7 6 0 (.object "AreaWarnings$Warning") true := ⟨by decide, "AreaWarnings$Spoken", TT_Sp, 9, "AreaWarnings$Version", YT_Sp, rfl, by decide, in_Sp, Or.inl (in_at 524 (by decide +kernel)), Or.inl rfl, yt_Sp, nm_Sp, by decide +kernel, rfl, fun _ => rfl⟩
theorem fg_Ve_13_Wa : FR WS clS "AreaWarnings$Version" 13 8 2 := ⟨by decide, "AreaWarnings$Warning", TT_Wa, 3, "AreaWarnings$Warning", rfl, by decide, in_Wa, Or.inl (in_at 491 (by decide +kernel)), Or.inl rfl⟩
theorem fg_Ve_19_Ca : FR WS clS "AreaWarnings$Version" 19 2 1 := ⟨by decide, "AreaWarnings$Cancel", TT_Ca, 4, "AreaWarnings$Version", rfl, by decide, in_Ca, Or.inl (in_at 531 (by decide +kernel)), Or.inl rfl⟩
theorem fp_Ve_19_Ca : FP WS clS "AreaWarnings$Version" 19 2 1 (.int) true := ⟨by decide, "AreaWarnings$Cancel", TT_Ca, 4, "AreaWarnings$Version", YT_Ca, rfl, by decide, in_Ca, Or.inl (in_at 531 (by decide +kernel)), Or.inl rfl, yt_Ca, nm_Ca, by decide +kernel, rfl, fun _ => rfl⟩
theorem fg_Ve_19_Sp : FR WS clS "AreaWarnings$Version" 19 6 1 := ⟨by decide, "AreaWarnings$Spoken", TT_Sp, 9, "AreaWarnings$Version", rfl, by decide, in_Sp, Or.inl (in_at 531 (by decide +kernel)), Or.inl rfl⟩
theorem fp_Ve_19_Sp : FP WS clS "AreaWarnings$Version" 19 6 1 (.int) true := ⟨by decide, "AreaWarnings$Spoken", TT_Sp, 9, "AreaWarnings$Version", YT_Sp, rfl, by decide, in_Sp, Or.inl (in_at 531 (by decide +kernel)), Or.inl rfl, yt_Sp, nm_Sp, by decide +kernel, rfl, fun _ => rfl⟩
theorem fp_Ve_23_Ca : FP WS clS "AreaWarnings$Version" 23 2 2 (.int) true := ⟨by decide, "AreaWarnings$Cancel", TT_Ca, 4, "AreaWarnings$Version", YT_Ca, rfl, by decide, in_Ca, Or.inl (in_at 536 (by decide +kernel)), Or.inl rfl, yt_Ca, nm_Ca, by decide +kernel, rfl, fun _ => rfl⟩
theorem fp_Ve_23_Sp : FP WS clS "AreaWarnings$Version" 23 6 2 (.int) true := ⟨by decide, "AreaWarnings$Spoken", TT_Sp, 9, "AreaWarnings$Version", YT_Sp, rfl, by decide, in_Sp, Or.inl (in_at 536 (by decide +kernel)), Or.inl rfl, yt_Sp, nm_Sp, by decide +kernel, rfl, fun _ => rfl⟩
theorem fp_Ve_26_Ca : FP WS clS "AreaWarnings$Version" 26 2 3 (.int) true := ⟨by decide, "AreaWarnings$Cancel", TT_Ca, 4, "AreaWarnings$Version", YT_Ca, rfl, by decide, in_Ca, Or.inl (in_at 541 (by decide +kernel)), Or.inl rfl, yt_Ca, nm_Ca, by decide +kernel, rfl, fun _ => rfl⟩
theorem fp_Ve_26_Sp : FP WS clS "AreaWarnings$Version" 26 6 3 (.int) true := ⟨by decide, "AreaWarnings$Spoken", TT_Sp, 9, "AreaWarnings$Version", YT_Sp, rfl, by decide, in_Sp, Or.inl (in_at 541 (by decide +kernel)), Or.inl rfl, yt_Sp, nm_Sp, by decide +kernel, rfl, fun _ => rfl⟩
theorem fp_Wa_7_Wa : FP WS clS "AreaWarnings$Warning" 7 8 0 (.int) true := ⟨by decide, "AreaWarnings$Warning", TT_Wa, 3, "AreaWarnings$Warning", YT_Wa, rfl, by decide, in_Wa, Or.inl (in_at 487 (by decide +kernel)), Or.inl rfl, yt_Wa, nm_Wa, by decide +kernel, rfl, fun _ => rfl⟩
theorem fp_Wa_13_Wa : FP WS clS "AreaWarnings$Warning" 13 8 1 (.int) true := ⟨by decide, "AreaWarnings$Warning", TT_Wa, 3, "AreaWarnings$Warning", YT_Wa, rfl, by decide, in_Wa, Or.inl (in_at 489 (by decide +kernel)), Or.inl rfl, yt_Wa, nm_Wa, by decide +kernel, rfl, fun _ => rfl⟩
theorem fp_Wa_16_Wa : FP WS clS "AreaWarnings$Warning" 16 8 2 (.object "AreaWarnings$Version") false := ⟨by decide, "AreaWarnings$Warning", TT_Wa, 3, "AreaWarnings$Warning", YT_Wa, rfl, by decide, in_Wa, Or.inl (in_at 492 (by decide +kernel)), Or.inl rfl, yt_Wa, nm_Wa, by decide +kernel, rfl, fun h => by cases h⟩
theorem fg_Mo_7_Mo : FR WS clS "AreaWarningsModel" 7 9 3 := ⟨by decide, "AreaWarningsModel", TT_Mo, 49, "AreaWarningsModel", rfl, by decide, in_Mo, Or.inl (in_at 773 (by decide +kernel)), Or.inl rfl⟩
theorem fp_Mo_7_Mo : FP WS clS "AreaWarningsModel" 7 9 3 (.array .int) true := ⟨by decide, "AreaWarningsModel", TT_Mo, 49, "AreaWarningsModel", YT_Mo, rfl, by decide, in_Mo, Or.inl (in_at 773 (by decide +kernel)), Or.inl rfl, yt_Mo, nm_Mo, by decide +kernel, rfl, fun _ => rfl⟩
theorem fg_Mo_13_Mo : FR WS clS "AreaWarningsModel" 13 9 4 := ⟨by decide, "AreaWarningsModel", TT_Mo, 49, "AreaWarningsModel", rfl, by decide, in_Mo, Or.inl (in_at 774 (by decide +kernel)), Or.inl rfl⟩
theorem fp_Mo_13_Mo : FP WS clS "AreaWarningsModel" 13 9 4 (.array .int) true := ⟨by decide, "AreaWarningsModel", TT_Mo, 49, "AreaWarningsModel", YT_Mo, rfl, by decide, in_Mo, Or.inl (in_at 774 (by decide +kernel)), Or.inl rfl, yt_Mo, nm_Mo, by decide +kernel, rfl, fun _ => rfl⟩
theorem fg_Mo_16_Mo : FR WS clS "AreaWarningsModel" 16 9 5 := ⟨by decide, "AreaWarningsModel", TT_Mo, 49, "AreaWarningsModel", rfl, by decide, in_Mo, Or.inl (in_at 775 (by decide +kernel)), Or.inl rfl⟩
theorem fp_Mo_16_Mo : FP WS clS "AreaWarningsModel" 16 9 5 (.array .int) true := ⟨by decide, "AreaWarningsModel", TT_Mo, 49, "AreaWarningsModel", YT_Mo, rfl, by decide, in_Mo, Or.inl (in_at 775 (by decide +kernel)), Or.inl rfl, yt_Mo, nm_Mo, by decide +kernel, rfl, fun _ => rfl⟩
theorem fg_Mo_19_Mo : FR WS clS "AreaWarningsModel" 19 9 6 := ⟨by decide, "AreaWarningsModel", TT_Mo, 49, "AreaWarningsModel", rfl, by decide, in_Mo, Or.inl (in_at 776 (by decide +kernel)), Or.inl rfl⟩
theorem fp_Mo_19_Mo : FP WS clS "AreaWarningsModel" 19 9 6 (.array .boolean) true := ⟨by decide, "AreaWarningsModel", TT_Mo, 49, "AreaWarningsModel", YT_Mo, rfl, by decide, in_Mo, Or.inl (in_at 776 (by decide +kernel)), Or.inl rfl, yt_Mo, nm_Mo, by decide +kernel, rfl, fun _ => rfl⟩
theorem fg_Mo_23_Mo : FR WS clS "AreaWarningsModel" 23 9 7 := ⟨by decide, "AreaWarningsModel", TT_Mo, 49, "AreaWarningsModel", rfl, by decide, in_Mo, Or.inl (in_at 777 (by decide +kernel)), Or.inl rfl⟩
theorem fp_Mo_23_Mo : FP WS clS "AreaWarningsModel" 23 9 7 (.array .int) true := ⟨by decide, "AreaWarningsModel", TT_Mo, 49, "AreaWarningsModel", YT_Mo, rfl, by decide, in_Mo, Or.inl (in_at 777 (by decide +kernel)), Or.inl rfl, yt_Mo, nm_Mo, by decide +kernel, rfl, fun _ => rfl⟩
theorem fg_Mo_26_Mo : FR WS clS "AreaWarningsModel" 26 9 8 := ⟨by decide, "AreaWarningsModel", TT_Mo, 49, "AreaWarningsModel", rfl, by decide, in_Mo, Or.inl (in_at 778 (by decide +kernel)), Or.inl rfl⟩
theorem fp_Mo_26_Mo : FP WS clS "AreaWarningsModel" 26 9 8 (.array .int) true := ⟨by decide, "AreaWarningsModel", TT_Mo, 49, "AreaWarningsModel", YT_Mo, rfl, by decide, in_Mo, Or.inl (in_at 778 (by decide +kernel)), Or.inl rfl, yt_Mo, nm_Mo, by decide +kernel, rfl, fun _ => rfl⟩
theorem fg_Mo_29_Mo : FR WS clS "AreaWarningsModel" 29 9 9 := ⟨by decide, "AreaWarningsModel", TT_Mo, 49, "AreaWarningsModel", rfl, by decide, in_Mo, Or.inl (in_at 779 (by decide +kernel)), Or.inl rfl⟩
theorem fp_Mo_29_Mo : FP WS clS "AreaWarningsModel" 29 9 9 (.array .int) true := ⟨by decide, "AreaWarningsModel", TT_Mo, 49, "AreaWarningsModel", YT_Mo, rfl, by decide, in_Mo, Or.inl (in_at 779 (by decide +kernel)), Or.inl rfl, yt_Mo, nm_Mo, by decide +kernel, rfl, fun _ => rfl⟩
theorem fg_Mo_32_Mo : FR WS clS "AreaWarningsModel" 32 9 10 := ⟨by decide, "AreaWarningsModel", TT_Mo, 49, "AreaWarningsModel", rfl, by decide, in_Mo, Or.inl (in_at 780 (by decide +kernel)), Or.inl rfl⟩
theorem fp_Mo_32_Mo : FP WS clS "AreaWarningsModel" 32 9 10 (.array .int) true := ⟨by decide, "AreaWarningsModel", TT_Mo, 49, "AreaWarningsModel", YT_Mo, rfl, by decide, in_Mo, Or.inl (in_at 780 (by decide +kernel)), Or.inl rfl, yt_Mo, nm_Mo, by decide +kernel, rfl, fun _ => rfl⟩
theorem fg_Mo_35_Mo : FR WS clS "AreaWarningsModel" 35 9 11 := ⟨by decide, "AreaWarningsModel", TT_Mo, 49, "AreaWarningsModel", rfl, by decide, in_Mo, Or.inl (in_at 781 (by decide +kernel)), Or.inl rfl⟩
theorem fp_Mo_35_Mo : FP WS clS "AreaWarningsModel" 35 9 11 (.array .int) true := ⟨by decide, "AreaWarningsModel", TT_Mo, 49, "AreaWarningsModel", YT_Mo, rfl, by decide, in_Mo, Or.inl (in_at 781 (by decide +kernel)), Or.inl rfl, yt_Mo, nm_Mo, by decide +kernel, rfl, fun _ => rfl⟩
theorem fg_Mo_38_Mo : FR WS clS "AreaWarningsModel" 38 9 12 := ⟨by decide, "AreaWarningsModel", TT_Mo, 49, "AreaWarningsModel", rfl, by decide, in_Mo, Or.inl (in_at 782 (by decide +kernel)), Or.inl rfl⟩
theorem fp_Mo_38_Mo : FP WS clS "AreaWarningsModel" 38 9 12 (.array .int) true := ⟨by decide, "AreaWarningsModel", TT_Mo, 49, "AreaWarningsModel", YT_Mo, rfl, by decide, in_Mo, Or.inl (in_at 782 (by decide +kernel)), Or.inl rfl, yt_Mo, nm_Mo, by decide +kernel, rfl, fun _ => rfl⟩
theorem fg_Mo_41_Mo : FR WS clS "AreaWarningsModel" 41 9 13 := ⟨by decide, "AreaWarningsModel", TT_Mo, 49, "AreaWarningsModel", rfl, by decide, in_Mo, Or.inl (in_at 783 (by decide +kernel)), Or.inl rfl⟩
theorem fp_Mo_41_Mo : FP WS clS "AreaWarningsModel" 41 9 13 (.array .int) true := ⟨by decide, "AreaWarningsModel", TT_Mo, 49, "AreaWarningsModel", YT_Mo, rfl, by decide, in_Mo, Or.inl (in_at 783 (by decide +kernel)), Or.inl rfl, yt_Mo, nm_Mo, by decide +kernel, rfl, fun _ => rfl⟩
theorem fg_Mo_44_Mo : FR WS clS "AreaWarningsModel" 44 9 15 := ⟨by decide, "AreaWarningsModel", TT_Mo, 49, "AreaWarningsModel", rfl, by decide, in_Mo, Or.inl (in_at 785 (by decide +kernel)), Or.inl rfl⟩
theorem fp_Mo_44_Mo : FP WS clS "AreaWarningsModel" 44 9 15 (.array .int) true := ⟨by decide, "AreaWarningsModel", TT_Mo, 49, "AreaWarningsModel", YT_Mo, rfl, by decide, in_Mo, Or.inl (in_at 785 (by decide +kernel)), Or.inl rfl, yt_Mo, nm_Mo, by decide +kernel, rfl, fun _ => rfl⟩
theorem fg_Mo_47_Mo : FR WS clS "AreaWarningsModel" 47 9 16 := ⟨by decide, "AreaWarningsModel", TT_Mo, 49, "AreaWarningsModel", rfl, by decide, in_Mo, Or.inl (in_at 786 (by decide +kernel)), Or.inl rfl⟩
theorem fp_Mo_47_Mo : FP WS clS "AreaWarningsModel" 47 9 16 (.array .int) true := ⟨by decide, "AreaWarningsModel", TT_Mo, 49, "AreaWarningsModel", YT_Mo, rfl, by decide, in_Mo, Or.inl (in_at 786 (by decide +kernel)), Or.inl rfl, yt_Mo, nm_Mo, by decide +kernel, rfl, fun _ => rfl⟩
theorem fg_Mo_50_Mo : FR WS clS "AreaWarningsModel" 50 9 17 := ⟨by decide, "AreaWarningsModel", TT_Mo, 49, "AreaWarningsModel", rfl, by decide, in_Mo, Or.inl (in_at 787 (by decide +kernel)), Or.inl rfl⟩
theorem fp_Mo_50_Mo : FP WS clS "AreaWarningsModel" 50 9 17 (.array .int) true := ⟨by decide, "AreaWarningsModel", TT_Mo, 49, "AreaWarningsModel", YT_Mo, rfl, by decide, in_Mo, Or.inl (in_at 787 (by decide +kernel)), Or.inl rfl, yt_Mo, nm_Mo, by decide +kernel, rfl, fun _ => rfl⟩
theorem fg_Mo_53_Mo : FR WS clS "AreaWarningsModel" 53 9 18 := ⟨by decide, "AreaWarningsModel", TT_Mo, 49, "AreaWarningsModel", rfl, by decide, in_Mo, Or.inl (in_at 788 (by decide +kernel)), Or.inl rfl⟩
theorem fp_Mo_53_Mo : FP WS clS "AreaWarningsModel" 53 9 18 (.array .int) true := ⟨by decide, "AreaWarningsModel", TT_Mo, 49, "AreaWarningsModel", YT_Mo, rfl, by decide, in_Mo, Or.inl (in_at 788 (by decide +kernel)), Or.inl rfl, yt_Mo, nm_Mo, by decide +kernel, rfl, fun _ => rfl⟩
theorem fg_Mo_56_Mo : FR WS clS "AreaWarningsModel" 56 9 20 := ⟨by decide, "AreaWarningsModel", TT_Mo, 49, "AreaWarningsModel", rfl, by decide, in_Mo, Or.inl (in_at 790 (by decide +kernel)), Or.inl rfl⟩
theorem fp_Mo_56_Mo : FP WS clS "AreaWarningsModel" 56 9 20 (.array .int) true := ⟨by decide, "AreaWarningsModel", TT_Mo, 49, "AreaWarningsModel", YT_Mo, rfl, by decide, in_Mo, Or.inl (in_at 790 (by decide +kernel)), Or.inl rfl, yt_Mo, nm_Mo, by decide +kernel, rfl, fun _ => rfl⟩
theorem fg_Mo_59_Mo : FR WS clS "AreaWarningsModel" 59 9 21 := ⟨by decide, "AreaWarningsModel", TT_Mo, 49, "AreaWarningsModel", rfl, by decide, in_Mo, Or.inl (in_at 791 (by decide +kernel)), Or.inl rfl⟩
theorem fp_Mo_59_Mo : FP WS clS "AreaWarningsModel" 59 9 21 (.array .int) true := ⟨by decide, "AreaWarningsModel", TT_Mo, 49, "AreaWarningsModel", YT_Mo, rfl, by decide, in_Mo, Or.inl (in_at 791 (by decide +kernel)), Or.inl rfl, yt_Mo, nm_Mo, by decide +kernel, rfl, fun _ => rfl⟩
theorem fg_Mo_62_Mo : FR WS clS "AreaWarningsModel" 62 9 23 := ⟨by decide, "AreaWarningsModel", TT_Mo, 49, "AreaWarningsModel", rfl, by decide, in_Mo, Or.inl (in_at 793 (by decide +kernel)), Or.inl rfl⟩
theorem fp_Mo_62_Mo : FP WS clS "AreaWarningsModel" 62 9 23 (.array .int) true := ⟨by decide, "AreaWarningsModel", TT_Mo, 49, "AreaWarningsModel", YT_Mo, rfl, by decide, in_Mo, Or.inl (in_at 793 (by decide +kernel)), Or.inl rfl, yt_Mo, nm_Mo, by decide +kernel, rfl, fun _ => rfl⟩
theorem fg_Mo_65_Mo : FR WS clS "AreaWarningsModel" 65 9 24 := ⟨by decide, "AreaWarningsModel", TT_Mo, 49, "AreaWarningsModel", rfl, by decide, in_Mo, Or.inl (in_at 794 (by decide +kernel)), Or.inl rfl⟩
theorem fp_Mo_65_Mo : FP WS clS "AreaWarningsModel" 65 9 24 (.array .int) true := ⟨by decide, "AreaWarningsModel", TT_Mo, 49, "AreaWarningsModel", YT_Mo, rfl, by decide, in_Mo, Or.inl (in_at 794 (by decide +kernel)), Or.inl rfl, yt_Mo, nm_Mo, by decide +kernel, rfl, fun _ => rfl⟩
theorem fg_Mo_68_Mo : FR WS clS "AreaWarningsModel" 68 9 25 := ⟨by decide, "AreaWarningsModel", TT_Mo, 49, "AreaWarningsModel", rfl, by decide, in_Mo, Or.inl (in_at 795 (by decide +kernel)), Or.inl rfl⟩
theorem fp_Mo_68_Mo : FP WS clS "AreaWarningsModel" 68 9 25 (.array .int) true := ⟨by decide, "AreaWarningsModel", TT_Mo, 49, "AreaWarningsModel", YT_Mo, rfl, by decide, in_Mo, Or.inl (in_at 795 (by decide +kernel)), Or.inl rfl, yt_Mo, nm_Mo, by decide +kernel, rfl, fun _ => rfl⟩
theorem fg_Mo_71_Mo : FR WS clS "AreaWarningsModel" 71 9 26 := ⟨by decide, "AreaWarningsModel", TT_Mo, 49, "AreaWarningsModel", rfl, by decide, in_Mo, Or.inl (in_at 796 (by decide +kernel)), Or.inl rfl⟩
theorem fp_Mo_71_Mo : FP WS clS "AreaWarningsModel" 71 9 26 (.array .int) true := ⟨by decide, "AreaWarningsModel", TT_Mo, 49, "AreaWarningsModel", YT_Mo, rfl, by decide, in_Mo, Or.inl (in_at 796 (by decide +kernel)), Or.inl rfl, yt_Mo, nm_Mo, by decide +kernel, rfl, fun _ => rfl⟩
theorem fg_Mo_74_Mo : FR WS clS "AreaWarningsModel" 74 9 27 := ⟨by decide, "AreaWarningsModel", TT_Mo, 49, "AreaWarningsModel", rfl, by decide, in_Mo, Or.inl (in_at 797 (by decide +kernel)), Or.inl rfl⟩
theorem fp_Mo_74_Mo : FP WS clS "AreaWarningsModel" 74 9 27 (.array .boolean) true := ⟨by decide, "AreaWarningsModel", TT_Mo, 49, "AreaWarningsModel", YT_Mo, rfl, by decide, in_Mo, Or.inl (in_at 797 (by decide +kernel)), Or.inl rfl, yt_Mo, nm_Mo, by decide +kernel, rfl, fun _ => rfl⟩
theorem fg_Mo_77_Mo : FR WS clS "AreaWarningsModel" 77 9 28 := ⟨by decide, "AreaWarningsModel", TT_Mo, 49, "AreaWarningsModel", rfl, by decide, in_Mo, Or.inl (in_at 798 (by decide +kernel)), Or.inl rfl⟩
theorem fp_Mo_77_Mo : FP WS clS "AreaWarningsModel" 77 9 28 (.array .int) true := ⟨by decide, "AreaWarningsModel", TT_Mo, 49, "AreaWarningsModel", YT_Mo, rfl, by decide, in_Mo, Or.inl (in_at 798 (by decide +kernel)), Or.inl rfl, yt_Mo, nm_Mo, by decide +kernel, rfl, fun _ => rfl⟩
theorem fg_Mo_80_Mo : FR WS clS "AreaWarningsModel" 80 9 29 := ⟨by decide, "AreaWarningsModel", TT_Mo, 49, "AreaWarningsModel", rfl, by decide, in_Mo, Or.inl (in_at 799 (by decide +kernel)), Or.inl rfl⟩
theorem fp_Mo_80_Mo : FP WS clS "AreaWarningsModel" 80 9 29 (.array .int) true := ⟨by decide, "AreaWarningsModel", TT_Mo, 49, "AreaWarningsModel", YT_Mo, rfl, by decide, in_Mo, Or.inl (in_at 799 (by decide +kernel)), Or.inl rfl, yt_Mo, nm_Mo, by decide +kernel, rfl, fun _ => rfl⟩
theorem fg_Mo_83_Mo : FR WS clS "AreaWarningsModel" 83 9 30 := ⟨by decide, "AreaWarningsModel", TT_Mo, 49, "AreaWarningsModel", rfl, by decide, in_Mo, Or.inl (in_at 800 (by decide +kernel)), Or.inl rfl⟩
theorem fp_Mo_83_Mo : FP WS clS "AreaWarningsModel" 83 9 30 (.array .int) true := ⟨by decide, "AreaWarningsModel", TT_Mo, 49, "AreaWarningsModel", YT_Mo, rfl, by decide, in_Mo, Or.inl (in_at 800 (by decide +kernel)), Or.inl rfl, yt_Mo, nm_Mo, by decide +kernel, rfl, fun _ => rfl⟩
theorem fg_Mo_86_Mo : FR WS clS "AreaWarningsModel" 86 9 31 := ⟨by decide, "AreaWarningsModel", TT_Mo, 49, "AreaWarningsModel", rfl, by decide, in_Mo, Or.inl (in_at 801 (by decide +kernel)), Or.inl rfl⟩
theorem fp_Mo_86_Mo : FP WS clS "AreaWarningsModel" 86 9 31 (.array .int) true := ⟨by decide, "AreaWarningsModel", TT_Mo, 49, "AreaWarningsModel", YT_Mo, rfl, by decide, in_Mo, Or.inl (in_at 801 (by decide +kernel)), Or.inl rfl, yt_Mo, nm_Mo, by decide +kernel, rfl, fun _ => rfl⟩
theorem fg_Mo_89_Mo : FR WS clS "AreaWarningsModel" 89 9 32 := ⟨by decide, "AreaWarningsModel", TT_Mo, 49, "AreaWarningsModel", rfl, by decide, in_Mo, Or.inl (in_at 802 (by decide +kernel)), Or.inl rfl⟩
theorem fp_Mo_89_Mo : FP WS clS "AreaWarningsModel" 89 9 32 (.array .int) true := ⟨by decide, "AreaWarningsModel", TT_Mo, 49, "AreaWarningsModel", YT_Mo, rfl, by decide, in_Mo, Or.inl (in_at 802 (by decide +kernel)), Or.inl rfl, yt_Mo, nm_Mo, by decide +kernel, rfl, fun _ => rfl⟩
theorem fg_Mo_92_Mo : FR WS clS "AreaWarningsModel" 92 9 33 := ⟨by decide, "AreaWarningsModel", TT_Mo, 49, "AreaWarningsModel", rfl, by decide, in_Mo, Or.inl (in_at 803 (by decide +kernel)), Or.inl rfl⟩
theorem fp_Mo_92_Mo : FP WS clS "AreaWarningsModel" 92 9 33 (.array .int) true := ⟨by decide, "AreaWarningsModel", TT_Mo, 49, "AreaWarningsModel", YT_Mo, rfl, by decide, in_Mo, Or.inl (in_at 803 (by decide +kernel)), Or.inl rfl, yt_Mo, nm_Mo, by decide +kernel, rfl, fun _ => rfl⟩
theorem fg_Mo_95_Mo : FR WS clS "AreaWarningsModel" 95 9 34 := ⟨by decide, "AreaWarningsModel", TT_Mo, 49, "AreaWarningsModel", rfl, by decide, in_Mo, Or.inl (in_at 804 (by decide +kernel)), Or.inl rfl⟩
theorem fp_Mo_95_Mo : FP WS clS "AreaWarningsModel" 95 9 34 (.array .int) true := ⟨by decide, "AreaWarningsModel", TT_Mo, 49, "AreaWarningsModel", YT_Mo, rfl, by decide, in_Mo, Or.inl (in_at 804 (by decide +kernel)), Or.inl rfl, yt_Mo, nm_Mo, by decide +kernel, rfl, fun _ => rfl⟩
theorem fg_Mo_98_Mo : FR WS clS "AreaWarningsModel" 98 9 36 := ⟨by decide, "AreaWarningsModel", TT_Mo, 49, "AreaWarningsModel", rfl, by decide, in_Mo, Or.inl (in_at 806 (by decide +kernel)), Or.inl rfl⟩
theorem fp_Mo_98_Mo : FP WS clS "AreaWarningsModel" 98 9 36 (.array .int) true := ⟨by decide, "AreaWarningsModel", TT_Mo, 49, "AreaWarningsModel", YT_Mo, rfl, by decide, in_Mo, Or.inl (in_at 806 (by decide +kernel)), Or.inl rfl, yt_Mo, nm_Mo, by decide +kernel, rfl, fun _ => rfl⟩
theorem fg_Mo_101_Mo : FR WS clS "AreaWarningsModel" 101 9 37 := ⟨by decide, "AreaWarningsModel", TT_Mo, 49, "AreaWarningsModel", rfl, by decide, in_Mo, Or.inl (in_at 807 (by decide +kernel)), Or.inl rfl⟩
theorem fp_Mo_101_Mo : FP WS clS "AreaWarningsModel" 101 9 37 (.array .int) true := ⟨by decide, "AreaWarningsModel", TT_Mo, 49, "AreaWarningsModel", YT_Mo, rfl, by decide, in_Mo, Or.inl (in_at 807 (by decide +kernel)), Or.inl rfl, yt_Mo, nm_Mo, by decide +kernel, rfl, fun _ => rfl⟩
theorem fg_Mo_104_Mo : FR WS clS "AreaWarningsModel" 104 9 38 := ⟨by decide, "AreaWarningsModel", TT_Mo, 49, "AreaWarningsModel", rfl, by decide, in_Mo, Or.inl (in_at 808 (by decide +kernel)), Or.inl rfl⟩
theorem fp_Mo_104_Mo : FP WS clS "AreaWarningsModel" 104 9 38 (.array .int) true := ⟨by decide, "AreaWarningsModel", TT_Mo, 49, "AreaWarningsModel", YT_Mo, rfl, by decide, in_Mo, Or.inl (in_at 808 (by decide +kernel)), Or.inl rfl, yt_Mo, nm_Mo, by decide +kernel, rfl, fun _ => rfl⟩
theorem fg_Mo_107_Mo : FR WS clS "AreaWarningsModel" 107 9 39 := ⟨by decide, "AreaWarningsModel", TT_Mo, 49, "AreaWarningsModel", rfl, by decide, in_Mo, Or.inl (in_at 809 (by decide +kernel)), Or.inl rfl⟩
theorem fp_Mo_107_Mo : FP WS clS "AreaWarningsModel" 107 9 39 (.array .int) true := ⟨by decide, "AreaWarningsModel", TT_Mo, 49, "AreaWarningsModel", YT_Mo, rfl, by decide, in_Mo, Or.inl (in_at 809 (by decide +kernel)), Or.inl rfl, yt_Mo, nm_Mo, by decide +kernel, rfl, fun _ => rfl⟩
theorem fg_Mo_110_Mo : FR WS clS "AreaWarningsModel" 110 9 40 := ⟨by decide, "AreaWarningsModel", TT_Mo, 49, "AreaWarningsModel", rfl, by decide, in_Mo, Or.inl (in_at 810 (by decide +kernel)), Or.inl rfl⟩
theorem fp_Mo_110_Mo : FP WS clS "AreaWarningsModel" 110 9 40 (.array .int) true := ⟨by decide, "AreaWarningsModel", TT_Mo, 49, "AreaWarningsModel", YT_Mo, rfl, by decide, in_Mo, Or.inl (in_at 810 (by decide +kernel)), Or.inl rfl, yt_Mo, nm_Mo, by decide +kernel, rfl, fun _ => rfl⟩
theorem fg_Mo_113_Mo : FR WS clS "AreaWarningsModel" 113 9 41 := ⟨by decide, "AreaWarningsModel", TT_Mo, 49, "AreaWarningsModel", rfl, by decide, in_Mo, Or.inl (in_at 811 (by decide +kernel)), Or.inl rfl⟩
theorem fp_Mo_113_Mo : FP WS clS "AreaWarningsModel" 113 9 41 (.array .int) true := ⟨by decide, "AreaWarningsModel", TT_Mo, 49, "AreaWarningsModel", YT_Mo, rfl, by decide, in_Mo, Or.inl (in_at 811 (by decide +kernel)), Or.inl rfl, yt_Mo, nm_Mo, by decide +kernel, rfl, fun _ => rfl⟩
theorem fg_Mo_116_Mo : FR WS clS "AreaWarningsModel" 116 9 42 := ⟨by decide, "AreaWarningsModel", TT_Mo, 49, "AreaWarningsModel", rfl, by decide, in_Mo, Or.inl (in_at 812 (by decide +kernel)), Or.inl rfl⟩
theorem fp_Mo_116_Mo : FP WS clS "AreaWarningsModel" 116 9 42 (.array .int) true := ⟨by decide, "AreaWarningsModel", TT_Mo, 49, "AreaWarningsModel", YT_Mo, rfl, by decide, in_Mo, Or.inl (in_at 812 (by decide +kernel)), Or.inl rfl, yt_Mo, nm_Mo, by decide +kernel, rfl, fun _ => rfl⟩
theorem fg_Mo_119_Mo : FR WS clS "AreaWarningsModel" 119 9 43 := ⟨by decide, "AreaWarningsModel", TT_Mo, 49, "AreaWarningsModel", rfl, by decide, in_Mo, Or.inl (in_at 813 (by decide +kernel)), Or.inl rfl⟩
theorem fp_Mo_119_Mo : FP WS clS "AreaWarningsModel" 119 9 43 (.array .int) true := ⟨by decide, "AreaWarningsModel", TT_Mo, 49, "AreaWarningsModel", YT_Mo, rfl, by decide, in_Mo, Or.inl (in_at 813 (by decide +kernel)), Or.inl rfl, yt_Mo, nm_Mo, by decide +kernel, rfl, fun _ => rfl⟩
theorem fg_Mo_122_Mo : FR WS clS "AreaWarningsModel" 122 9 44 := ⟨by decide, "AreaWarningsModel", TT_Mo, 49, "AreaWarningsModel", rfl, by decide, in_Mo, Or.inl (in_at 814 (by decide +kernel)), Or.inl rfl⟩
theorem fp_Mo_122_Mo : FP WS clS "AreaWarningsModel" 122 9 44 (.array .boolean) true := ⟨by decide, "AreaWarningsModel", TT_Mo, 49, "AreaWarningsModel", YT_Mo, rfl, by decide, in_Mo, Or.inl (in_at 814 (by decide +kernel)), Or.inl rfl, yt_Mo, nm_Mo, by decide +kernel, rfl, fun _ => rfl⟩
theorem fg_Mo_125_Mo : FR WS clS "AreaWarningsModel" 125 9 45 := ⟨by decide, "AreaWarningsModel", TT_Mo, 49, "AreaWarningsModel", rfl, by decide, in_Mo, Or.inl (in_at 815 (by decide +kernel)), Or.inl rfl⟩
theorem fp_Mo_125_Mo : FP WS clS "AreaWarningsModel" 125 9 45 (.array .int) true := ⟨by decide, "AreaWarningsModel", TT_Mo, 49, "AreaWarningsModel", YT_Mo, rfl, by decide, in_Mo, Or.inl (in_at 815 (by decide +kernel)), Or.inl rfl, yt_Mo, nm_Mo, by decide +kernel, rfl, fun _ => rfl⟩
theorem fg_Mo_128_Mo : FR WS clS "AreaWarningsModel" 128 9 46 := ⟨by decide, "AreaWarningsModel", TT_Mo, 49, "AreaWarningsModel", rfl, by decide, in_Mo, Or.inl (in_at 816 (by decide +kernel)), Or.inl rfl⟩
theorem fp_Mo_128_Mo : FP WS clS "AreaWarningsModel" 128 9 46 (.array .int) true := ⟨by decide, "AreaWarningsModel", TT_Mo, 49, "AreaWarningsModel", YT_Mo, rfl, by decide, in_Mo, Or.inl (in_at 816 (by decide +kernel)), Or.inl rfl, yt_Mo, nm_Mo, by decide +kernel, rfl, fun _ => rfl⟩
theorem fg_Mo_131_Mo : FR WS clS "AreaWarningsModel" 131 9 47 := ⟨by decide, "AreaWarningsModel", TT_Mo, 49, "AreaWarningsModel", rfl, by decide, in_Mo, Or.inl (in_at 817 (by decide +kernel)), Or.inl rfl⟩
theorem fp_Mo_131_Mo : FP WS clS "AreaWarningsModel" 131 9 47 (.array .int) true := ⟨by decide, "AreaWarningsModel", TT_Mo, 49, "AreaWarningsModel", YT_Mo, rfl, by decide, in_Mo, Or.inl (in_at 817 (by decide +kernel)), Or.inl rfl, yt_Mo, nm_Mo, by decide +kernel, rfl, fun _ => rfl⟩
theorem fg_Mo_134_Mo : FR WS clS "AreaWarningsModel" 134 9 48 := ⟨by decide, "AreaWarningsModel", TT_Mo, 49, "AreaWarningsModel", rfl, by decide, in_Mo, Or.inl (in_at 818 (by decide +kernel)), Or.inl rfl⟩
theorem fp_Mo_134_Mo : FP WS clS "AreaWarningsModel" 134 9 48 (.array .int) true := ⟨by decide, "AreaWarningsModel", TT_Mo, 49, "AreaWarningsModel", YT_Mo, rfl, by decide, in_Mo, Or.inl (in_at 818 (by decide +kernel)), Or.inl rfl, yt_Mo, nm_Mo, by decide +kernel, rfl, fun _ => rfl⟩
theorem fg_Mo_137_Mo : FR WS clS "AreaWarningsModel" 137 9 0 := ⟨by decide, "AreaWarningsModel", TT_Mo, 49, "AreaWarningsModel", rfl, by decide, in_Mo, Or.inl (in_at 770 (by decide +kernel)), Or.inl rfl⟩
theorem fp_Mo_137_Mo : FP WS clS "AreaWarningsModel" 137 9 0 (.int) false := ⟨by decide, "AreaWarningsModel", TT_Mo, 49, "AreaWarningsModel", YT_Mo, rfl, by decide, in_Mo, Or.inl (in_at 770 (by decide +kernel)), Or.inl rfl, yt_Mo, nm_Mo, by decide +kernel, rfl, fun h => by cases h⟩
theorem fg_Mo_145_Mo : FR WS clS "AreaWarningsModel" 145 9 2 := ⟨by decide, "AreaWarningsModel", TT_Mo, 49, "AreaWarningsModel", rfl, by decide, in_Mo, Or.inl (in_at 772 (by decide +kernel)), Or.inl rfl⟩
theorem fp_Mo_145_Mo : FP WS clS "AreaWarningsModel" 145 9 2 (.int) false := ⟨by decide, "AreaWarningsModel", TT_Mo, 49, "AreaWarningsModel", YT_Mo, rfl, by decide, in_Mo, Or.inl (in_at 772 (by decide +kernel)), Or.inl rfl, yt_Mo, nm_Mo, by decide +kernel, rfl, fun h => by cases h⟩
theorem fg_Mo_148_Mo : FR WS clS "AreaWarningsModel" 148 9 14 := ⟨by decide, "AreaWarningsModel", TT_Mo, 49, "AreaWarningsModel", rfl, by decide, in_Mo, Or.inl (in_at 784 (by decide +kernel)), Or.inl rfl⟩
theorem fp_Mo_148_Mo : FP WS clS "AreaWarningsModel" 148 9 14 (.int) false := ⟨by decide, "AreaWarningsModel", TT_Mo, 49, "AreaWarningsModel", YT_Mo, rfl, by decide, in_Mo, Or.inl (in_at 784 (by decide +kernel)), Or.inl rfl, yt_Mo, nm_Mo, by decide +kernel, rfl, fun h => by cases h⟩
theorem fg_Mo_184_Mo : FR WS clS "AreaWarningsModel" 184 9 19 := ⟨by decide, "AreaWarningsModel", TT_Mo, 49, "AreaWarningsModel", rfl, by decide, in_Mo, Or.inl (in_at 789 (by decide +kernel)), Or.inl rfl⟩
theorem fp_Mo_184_Mo : FP WS clS "AreaWarningsModel" 184 9 19 (.int) false := ⟨by decide, "AreaWarningsModel", TT_Mo, 49, "AreaWarningsModel", YT_Mo, rfl, by decide, in_Mo, Or.inl (in_at 789 (by decide +kernel)), Or.inl rfl, yt_Mo, nm_Mo, by decide +kernel, rfl, fun h => by cases h⟩
theorem fg_Mo_187_Mo : FR WS clS "AreaWarningsModel" 187 9 1 := ⟨by decide, "AreaWarningsModel", TT_Mo, 49, "AreaWarningsModel", rfl, by decide, in_Mo, Or.inl (in_at 771 (by decide +kernel)), Or.inl rfl⟩
theorem fp_Mo_187_Mo : FP WS clS "AreaWarningsModel" 187 9 1 (.int) false := ⟨by decide, "AreaWarningsModel", TT_Mo, 49, "AreaWarningsModel", YT_Mo, rfl, by decide, in_Mo, Or.inl (in_at 771 (by decide +kernel)), Or.inl rfl, yt_Mo, nm_Mo, by decide +kernel, rfl, fun h => by cases h⟩
theorem fg_Mo_194_Mo : FR WS clS "AreaWarningsModel" 194 9 22 := ⟨by decide, "AreaWarningsModel", TT_Mo, 49, "AreaWarningsModel", rfl, by decide, in_Mo, Or.inl (in_at 792 (by decide +kernel)), Or.inl rfl⟩
theorem fp_Mo_194_Mo : FP WS clS "AreaWarningsModel" 194 9 22 (.int) false := ⟨by decide, "AreaWarningsModel", TT_Mo, 49, "AreaWarningsModel", YT_Mo, rfl, by decide, in_Mo, Or.inl (in_at 792 (by decide +kernel)), Or.inl rfl, yt_Mo, nm_Mo, by decide +kernel, rfl, fun h => by cases h⟩
theorem fg_Mo_248_Mo : FR WS clS "AreaWarningsModel" 248 9 35 := ⟨by decide, "AreaWarningsModel", TT_Mo, 49, "AreaWarningsModel", rfl, by decide, in_Mo, Or.inl (in_at 805 (by decide +kernel)), Or.inl rfl⟩
theorem fp_Mo_248_Mo : FP WS clS "AreaWarningsModel" 248 9 35 (.int) false := ⟨by decide, "AreaWarningsModel", TT_Mo, 49, "AreaWarningsModel", YT_Mo, rfl, by decide, in_Mo, Or.inl (in_at 805 (by decide +kernel)), Or.inl rfl, yt_Mo, nm_Mo, by decide +kernel, rfl, fun h => by cases h⟩
theorem nw_AW_13 : NW WS clS "AreaWarnings" 13 3 [.int 0, .int 0, .int 0, .int 0, .int 0, .null, .int 0, .null, .null, .null, .null, .int 0] := ⟨by decide, "AreaWarnings$Cell", TT_Ce, 12, YT_Ce, rfl, in_Ce, yt_Ce, in_at 28 (by decide +kernel), in_at 142 (by decide +kernel), in_at 11 (by decide +kernel), rfl, by decide +kernel⟩
theorem nq_AW_13 : Cond.classLink "AreaWarnings" 13 "AreaWarnings$Cell" ∈ WS ∧ Cond.arrayOver (.object "AreaWarnings$Cell") ∈ WS := ⟨in_at 28 (by decide +kernel), in_at 29 (by decide +kernel)⟩
theorem nw_AW_22 : NW WS clS "AreaWarnings" 22 8 [.int 0, .int 0, .null] := ⟨by decide, "AreaWarnings$Warning", TT_Wa, 3, YT_Wa, rfl, in_Wa, yt_Wa, in_at 30 (by decide +kernel), in_at 482 (by decide +kernel), in_at 14 (by decide +kernel), rfl, by decide +kernel⟩
theorem nq_AW_22 : Cond.classLink "AreaWarnings" 22 "AreaWarnings$Warning" ∈ WS ∧ Cond.arrayOver (.object "AreaWarnings$Warning") ∈ WS := ⟨in_at 30 (by decide +kernel), in_at 31 (by decide +kernel)⟩
theorem nw_AW_34 : NW WS clS "AreaWarnings" 34 4 [.int 0, .null, .int 0, .int 0, .int 0, .int 0, .null, .null, .null, .null, .null, .null, .int 0] := ⟨by decide, "AreaWarnings$Handset", TT_Ha, 13, YT_Ha, rfl, in_Ha, yt_Ha, in_at 32 (by decide +kernel), in_at 188 (by decide +kernel), in_at 18 (by decide +kernel), rfl, by decide +kernel⟩
theorem nq_AW_34 : Cond.classLink "AreaWarnings" 34 "AreaWarnings$Handset" ∈ WS ∧ Cond.arrayOver (.object "AreaWarnings$Handset") ∈ WS := ⟨in_at 32 (by decide +kernel), in_at 33 (by decide +kernel)⟩
theorem nw_AW_43 : NW WS clS "AreaWarnings" 43 5 [.null, .null] := ⟨by decide, "AreaWarnings$Message", TT_Me, 2, YT_Me, rfl, in_Me, yt_Me, in_at 34 (by decide +kernel), in_at 35 (by decide +kernel), in_at 2 (by decide +kernel), rfl, by decide +kernel⟩
theorem nw_AW_67 : NW WS clS "AreaWarnings" 67 6 [.null, .int 0, .int 0, .int 0, .int 0, .int 0, .null, .null, .null] := ⟨by decide, "AreaWarnings$Spoken", TT_Sp, 9, YT_Sp, rfl, in_Sp, yt_Sp, in_at 369 (by decide +kernel), in_at 506 (by decide +kernel), in_at 16 (by decide +kernel), rfl, by decide +kernel⟩
theorem nw_AW_149 : NW WS clS "AreaWarnings" 149 2 [.null, .int 0, .int 0, .int 0] := ⟨by decide, "AreaWarnings$Cancel", TT_Ca, 4, YT_Ca, rfl, in_Ca, yt_Ca, in_at 581 (by decide +kernel), in_at 589 (by decide +kernel), in_at 17 (by decide +kernel), rfl, by decide +kernel⟩
theorem nq_Ce_28 : Cond.classLink "AreaWarnings$Cell" 28 "AreaWarnings$Version" ∈ WS ∧ Cond.arrayOver (.object "AreaWarnings$Version") ∈ WS := ⟨in_at 314 (by decide +kernel), in_at 315 (by decide +kernel)⟩
theorem nq_Ha_31 : Cond.classLink "AreaWarnings$Handset" 31 "AreaWarnings$Version" ∈ WS ∧ Cond.arrayOver (.object "AreaWarnings$Version") ∈ WS := ⟨in_at 633 (by decide +kernel), in_at 315 (by decide +kernel)⟩
theorem nq_Ha_44 : Cond.classLink "AreaWarnings$Handset" 44 "AreaWarnings$Spoken" ∈ WS ∧ Cond.arrayOver (.object "AreaWarnings$Spoken") ∈ WS := ⟨in_at 190 (by decide +kernel), in_at 634 (by decide +kernel)⟩
theorem nw_Me_7 : NW WS clS "AreaWarnings$Message" 7 1 [.null, .null, .int 0] := ⟨by decide, "AreaWarnings$Area", TT_Ar, 3, YT_Ar, rfl, in_Ar, yt_Ar, in_at 40 (by decide +kernel), in_at 41 (by decide +kernel), in_at 3 (by decide +kernel), rfl, by decide +kernel⟩
theorem nw_Me_16 : NW WS clS "AreaWarnings$Message" 16 7 [.null, .null] := ⟨by decide, "AreaWarnings$Texts", TT_Te, 2, YT_Te, rfl, in_Te, yt_Te, in_at 58 (by decide +kernel), in_at 59 (by decide +kernel), in_at 4 (by decide +kernel), rfl, by decide +kernel⟩
theorem nw_La_8 : NW WS clS "AreaWarningsLaw" 8 0 [.int 0, .null, .int 0, .null, .int 0, .int 0, .null, .int 0, .null] := ⟨by decide, "AreaWarnings", TT_AW, 9, YT_AW, rfl, in_AW, yt_AW, in_at 20 (by decide +kernel), in_at 21 (by decide +kernel), in_at 1 (by decide +kernel), rfl, by decide +kernel⟩
theorem nw_La_73 : NW WS clS "AreaWarningsLaw" 73 9 [.int 0, .int 0, .int 0, .null, .null, .null, .null, .null, .null, .null, .null, .null, .null, .null, .int 0, .null, .null, .null, .null, .int 0, .null, .null, .int 0, .null, .null, .null, .null, .null, .null, .null, .null, .null, .null, .null, .null, .int 0, .null, .null, .null, .null, .null, .null, .null, .null, .null, .null, .null, .null, .null] := ⟨by decide, "AreaWarningsModel", TT_Mo, 49, YT_Mo, rfl, in_Mo, yt_Mo, in_at 764 (by decide +kernel), in_at 765 (by decide +kernel), in_at 5 (by decide +kernel), rfl, by decide +kernel⟩
theorem iy_AW_67_Sp : IW WS clS "AreaWarnings" 67 6 := ⟨by decide, _, "AreaWarnings$Spoken", rfl, in_at 369 (by decide +kernel), Or.inl rfl⟩
theorem in_AW_67_Ca : IN WS clS "AreaWarnings" 67 2 := ⟨by decide, _, "AreaWarnings$Spoken", rfl, in_at 369 (by decide +kernel), in_at 1169 (by decide +kernel)⟩
theorem in_AW_149_Sp : IN WS clS "AreaWarnings" 149 6 := ⟨by decide, _, "AreaWarnings$Cancel", rfl, in_at 581 (by decide +kernel), in_at 1170 (by decide +kernel)⟩
theorem iy_AW_149_Ca : IW WS clS "AreaWarnings" 149 2 := ⟨by decide, _, "AreaWarnings$Cancel", rfl, in_at 581 (by decide +kernel), Or.inl rfl⟩
theorem iy_Ce_66_Sp : IW WS clS "AreaWarnings$Cell" 66 6 := ⟨by decide, _, "AreaWarnings$Spoken", rfl, in_at 144 (by decide +kernel), Or.inl rfl⟩
theorem in_Ce_66_Ca : IN WS clS "AreaWarnings$Cell" 66 2 := ⟨by decide, _, "AreaWarnings$Spoken", rfl, in_at 144 (by decide +kernel), in_at 1169 (by decide +kernel)⟩
theorem iy_Ha_44_Sp : IW WS clS "AreaWarnings$Handset" 44 6 := ⟨by decide, _, "AreaWarnings$Spoken", rfl, in_at 190 (by decide +kernel), Or.inl rfl⟩
theorem in_Ha_44_Ca : IN WS clS "AreaWarnings$Handset" 44 2 := ⟨by decide, _, "AreaWarnings$Spoken", rfl, in_at 190 (by decide +kernel), in_at 1169 (by decide +kernel)⟩
theorem as_4_Ce : AS WS clS taS 4 3 := ⟨by decide, by decide, "AreaWarnings$Cell", _, rfl, rfl, Or.inl rfl⟩
theorem as_5_Wa : AS WS clS taS 5 8 := ⟨by decide, by decide, "AreaWarnings$Warning", _, rfl, rfl, Or.inl rfl⟩
theorem as_6_Ha : AS WS clS taS 6 4 := ⟨by decide, by decide, "AreaWarnings$Handset", _, rfl, rfl, Or.inl rfl⟩
theorem as_7_Sp : AS WS clS taS 7 6 := ⟨by decide, by decide, "AreaWarnings$Version", _, rfl, rfl, Or.inr (in_at 1120 (by decide +kernel))⟩
theorem as_7_Ca : AS WS clS taS 7 2 := ⟨by decide, by decide, "AreaWarnings$Version", _, rfl, rfl, Or.inr (in_at 1119 (by decide +kernel))⟩
theorem as_8_Sp : AS WS clS taS 8 6 := ⟨by decide, by decide, "AreaWarnings$Spoken", _, rfl, rfl, Or.inl rfl⟩
def mm_AW_init : MT := (⟨"AreaWarnings", "<init>", "()V"⟩, prog_1_method_1_code, 1, none, [])
def mm_AW_cell : MT := (⟨"AreaWarnings", "cell", "(III)I"⟩, prog_1_method_2_code, 8, (some .int), [])
def mm_AW_corner : MT := (⟨"AreaWarnings", "corner", "(II)I"⟩, prog_1_method_3_code, 3, (some .int), [])
def mm_AW_text : MT := (⟨"AreaWarnings", "text", "(II)I"⟩, prog_1_method_4_code, 3, (some .int), [])
def mm_AW_clear : MT := (⟨"AreaWarnings", "clear", "()I"⟩, prog_1_method_5_code, 2, (some .int), [])
def mm_AW_issue : MT := (⟨"AreaWarnings", "issue", "(IIIII)I"⟩, prog_1_method_6_code, 7, (some .int), [])
def mm_AW_update : MT := (⟨"AreaWarnings", "update", "(IIII)I"⟩, prog_1_method_7_code, 7, (some .int), [])
def mm_AW_cancel : MT := (⟨"AreaWarnings", "cancel", "(I)I"⟩, prog_1_method_8_code, 3, (some .int), [])
def mm_AW_minute : MT := (⟨"AreaWarnings", "minute", "()I"⟩, prog_1_method_9_code, 4, (some .int), [])
def mm_AW_line : MT := (⟨"AreaWarnings", "line", "(IZ)Z"⟩, prog_1_method_10_code, 4, (some .boolean), [])
def mm_AW_handset : MT := (⟨"AreaWarnings", "handset", "(I)I"⟩, prog_1_method_11_code, 2, (some .int), [])
def mm_AW_likes : MT := (⟨"AreaWarnings", "likes", "(II)I"⟩, prog_1_method_12_code, 3, (some .int), [])
def mm_AW_camp : MT := (⟨"AreaWarnings", "camp", "(II)I"⟩, prog_1_method_13_code, 4, (some .int), [])
def mm_AW_miss : MT := (⟨"AreaWarnings", "miss", "(II)I"⟩, prog_1_method_14_code, 3, (some .int), [])
def mm_AW_covers : MT := (⟨"AreaWarnings", "covers", "(II)Z"⟩, prog_1_method_15_code, 6, (some .boolean), [])
def mm_AW_version : MT := (⟨"AreaWarnings", "version", "(I)I"⟩, prog_1_method_16_code, 3, (some .int), [])
def mm_AW_listed : MT := (⟨"AreaWarnings", "listed", "(III)I"⟩, prog_1_method_17_code, 5, (some .int), [])
def mm_AW_sent : MT := (⟨"AreaWarnings", "sent", "(III)I"⟩, prog_1_method_18_code, 5, (some .int), [])
def mm_AW_shown : MT := (⟨"AreaWarnings", "shown", "(III)I"⟩, prog_1_method_19_code, 5, (some .int), [])
def mm_AW_shownByte : MT := (⟨"AreaWarnings", "shownByte", "(III)I"⟩, prog_1_method_20_code, 5, (some .int), [])
def mm_AW_total : MT := (⟨"AreaWarnings", "total", "(I)I"⟩, prog_1_method_21_code, 2, (some .int), [])
def mm_AW_isCoordinate : MT := (⟨"AreaWarnings", "isCoordinate", "(I)Z"⟩, prog_1_method_22_code, 1, (some .boolean), [])
def mm_AW_isLanguage : MT := (⟨"AreaWarnings", "isLanguage", "(I)Z"⟩, prog_1_method_23_code, 1, (some .boolean), [])
def mm_AW_isSeverity : MT := (⟨"AreaWarnings", "isSeverity", "(I)Z"⟩, prog_1_method_24_code, 1, (some .boolean), [])
def mm_AW_isSpan : MT := (⟨"AreaWarnings", "isSpan", "(I)Z"⟩, prog_1_method_25_code, 1, (some .boolean), [])
def mm_AW_isCell : MT := (⟨"AreaWarnings", "isCell", "(I)Z"⟩, prog_1_method_26_code, 2, (some .boolean), [])
def mm_AW_isHandset : MT := (⟨"AreaWarnings", "isHandset", "(I)Z"⟩, prog_1_method_27_code, 2, (some .boolean), [])
def mm_AW_findWarning : MT := (⟨"AreaWarnings", "findWarning", "(I)LAreaWarnings$Warning;"⟩, prog_1_method_28_code, 3, (some (.object "AreaWarnings$Warning")), [])
def mm_AW_findLive : MT := (⟨"AreaWarnings", "findLive", "(I)LAreaWarnings$Warning;"⟩, prog_1_method_29_code, 3, (some (.object "AreaWarnings$Warning")), [])
def mm_AW_insertById : MT := (⟨"AreaWarnings", "insertById", "(LAreaWarnings$Warning;)V"⟩, prog_1_method_30_code, 3, none, [])
def mm_AW_speak : MT := (⟨"AreaWarnings", "speak", "(LAreaWarnings$Warning;LAreaWarnings$Spoken;)I"⟩, prog_1_method_31_code, 5, (some .int), [])
def mm_Mo_init : MT := (⟨"AreaWarningsModel", "<init>", "()V"⟩, prog_12_method_1_code, 1, none, [])
def mm_Mo_thrown : MT := (⟨"AreaWarningsModel", "thrown", "()I"⟩, prog_12_method_2_code, 1, (some .int), [])
def mm_Mo_isPlace : MT := (⟨"AreaWarningsModel", "isPlace", "(I)Z"⟩, prog_12_method_3_code, 1, (some .boolean), [])
def mm_Mo_cell : MT := (⟨"AreaWarningsModel", "cell", "(III)I"⟩, prog_12_method_4_code, 4, (some .int), [])
def mm_Mo_corner : MT := (⟨"AreaWarningsModel", "corner", "(II)I"⟩, prog_12_method_5_code, 3, (some .int), [])
def mm_Mo_text : MT := (⟨"AreaWarningsModel", "text", "(II)I"⟩, prog_12_method_6_code, 3, (some .int), [])
def mm_Mo_clear : MT := (⟨"AreaWarningsModel", "clear", "()I"⟩, prog_12_method_7_code, 3, (some .int), [])
def mm_Mo_sign : MT := (⟨"AreaWarningsModel", "sign", "(I)I"⟩, prog_12_method_8_code, 1, (some .int), [])
def mm_Mo_turn : MT := (⟨"AreaWarningsModel", "turn", "(III)I"⟩, prog_12_method_9_code, 4, (some .int), [])
def mm_Mo_isBetween : MT := (⟨"AreaWarningsModel", "isBetween", "(III)Z"⟩, prog_12_method_10_code, 5, (some .boolean), [])
def mm_Mo_meet : MT := (⟨"AreaWarningsModel", "meet", "(IIII)Z"⟩, prog_12_method_11_code, 6, (some .boolean), [])
def mm_Mo_fold : MT := (⟨"AreaWarningsModel", "fold", "(III)Z"⟩, prog_12_method_12_code, 5, (some .boolean), [])
def mm_Mo_isSimple : MT := (⟨"AreaWarningsModel", "isSimple", "()Z"⟩, prog_12_method_13_code, 7, (some .boolean), [])
def mm_Mo_square : MT := (⟨"AreaWarningsModel", "square", "(J)J"⟩, prog_12_method_14_code, 2, (some .long), [])
def mm_Mo_isNear : MT := (⟨"AreaWarningsModel", "isNear", "(III)Z"⟩, prog_12_method_15_code, 20, (some .boolean), [])
def mm_Mo_isIn : MT := (⟨"AreaWarningsModel", "isIn", "(II)Z"⟩, prog_12_method_16_code, 10, (some .boolean), [])
def mm_Mo_isCovered : MT := (⟨"AreaWarningsModel", "isCovered", "(II)Z"⟩, prog_12_method_17_code, 5, (some .boolean), [])
def mm_Mo_covered : MT := (⟨"AreaWarningsModel", "covered", "(I)I"⟩, prog_12_method_18_code, 4, (some .int), [])
def mm_Mo_find : MT := (⟨"AreaWarningsModel", "find", "(I)I"⟩, prog_12_method_19_code, 4, (some .int), [])
def mm_Mo_isLive : MT := (⟨"AreaWarningsModel", "isLive", "(I)Z"⟩, prog_12_method_20_code, 2, (some .boolean), [])
def mm_Mo_isSpan : MT := (⟨"AreaWarningsModel", "isSpan", "(II)Z"⟩, prog_12_method_21_code, 2, (some .boolean), [])
def mm_Mo_isSaid : MT := (⟨"AreaWarningsModel", "isSaid", "()Z"⟩, prog_12_method_22_code, 1, (some .boolean), [])
def mm_Mo_make : MT := (⟨"AreaWarningsModel", "make", "(IIIIZ)I"⟩, prog_12_method_23_code, 7, (some .int), [])
def mm_Mo_fill : MT := (⟨"AreaWarningsModel", "fill", "(III)I"⟩, prog_12_method_24_code, 5, (some .int), [])
def mm_Mo_issue : MT := (⟨"AreaWarningsModel", "issue", "(IIIII)I"⟩, prog_12_method_25_code, 7, (some .int), [])
def mm_Mo_update : MT := (⟨"AreaWarningsModel", "update", "(IIII)I"⟩, prog_12_method_26_code, 7, (some .int), [])
def mm_Mo_cancel : MT := (⟨"AreaWarningsModel", "cancel", "(I)I"⟩, prog_12_method_27_code, 4, (some .int), [])
def mm_Mo_isListed : MT := (⟨"AreaWarningsModel", "isListed", "(II)Z"⟩, prog_12_method_28_code, 5, (some .boolean), [])
def mm_Mo_insert : MT := (⟨"AreaWarningsModel", "insert", "(II)V"⟩, prog_12_method_29_code, 4, none, [])
def mm_Mo_relist : MT := (⟨"AreaWarningsModel", "relist", "(I)V"⟩, prog_12_method_30_code, 5, none, [])
def mm_Mo_page : MT := (⟨"AreaWarningsModel", "page", "(IIII)V"⟩, prog_12_method_31_code, 6, none, [])
def mm_Mo_pagesOf : MT := (⟨"AreaWarningsModel", "pagesOf", "(II)I"⟩, prog_12_method_32_code, 3, (some .int), [])
def mm_Mo_sendAll : MT := (⟨"AreaWarningsModel", "sendAll", "(I)V"⟩, prog_12_method_33_code, 8, none, [])
def mm_Mo_chosen : MT := (⟨"AreaWarningsModel", "chosen", "(II)I"⟩, prog_12_method_34_code, 6, (some .int), [])
def mm_Mo_hear : MT := (⟨"AreaWarningsModel", "hear", "(IIII)V"⟩, prog_12_method_35_code, 9, none, [])
def mm_Mo_minute : MT := (⟨"AreaWarningsModel", "minute", "()I"⟩, prog_12_method_36_code, 6, (some .int), [])
def mm_Mo_isCell : MT := (⟨"AreaWarningsModel", "isCell", "(I)Z"⟩, prog_12_method_37_code, 2, (some .boolean), [])
def mm_Mo_isHandset : MT := (⟨"AreaWarningsModel", "isHandset", "(I)Z"⟩, prog_12_method_38_code, 2, (some .boolean), [])
def mm_Mo_line : MT := (⟨"AreaWarningsModel", "line", "(IZ)Z"⟩, prog_12_method_39_code, 4, (some .boolean), [])
def mm_Mo_handset : MT := (⟨"AreaWarningsModel", "handset", "(I)I"⟩, prog_12_method_40_code, 2, (some .int), [])
def mm_Mo_likes : MT := (⟨"AreaWarningsModel", "likes", "(II)I"⟩, prog_12_method_41_code, 3, (some .int), [])
def mm_Mo_camp : MT := (⟨"AreaWarningsModel", "camp", "(II)I"⟩, prog_12_method_42_code, 4, (some .int), [])
def mm_Mo_miss : MT := (⟨"AreaWarningsModel", "miss", "(II)I"⟩, prog_12_method_43_code, 3, (some .int), [])
def mm_Mo_covers : MT := (⟨"AreaWarningsModel", "covers", "(II)Z"⟩, prog_12_method_44_code, 4, (some .boolean), [])
def mm_Mo_version : MT := (⟨"AreaWarningsModel", "version", "(I)I"⟩, prog_12_method_45_code, 3, (some .int), [])
def mm_Mo_listed : MT := (⟨"AreaWarningsModel", "listed", "(III)I"⟩, prog_12_method_46_code, 5, (some .int), [])
def mm_Mo_sent : MT := (⟨"AreaWarningsModel", "sent", "(III)I"⟩, prog_12_method_47_code, 8, (some .int), [])
def mm_Mo_isCurrent : MT := (⟨"AreaWarningsModel", "isCurrent", "(II)Z"⟩, prog_12_method_48_code, 3, (some .boolean), [])
def mm_Mo_shown : MT := (⟨"AreaWarningsModel", "shown", "(III)I"⟩, prog_12_method_49_code, 7, (some .int), [])
def mm_Mo_shownByte : MT := (⟨"AreaWarningsModel", "shownByte", "(III)I"⟩, prog_12_method_50_code, 6, (some .int), [])
def mm_Mo_total : MT := (⟨"AreaWarningsModel", "total", "(I)I"⟩, prog_12_method_51_code, 2, (some .int), [])
def mm_Ar_init : MT := (⟨"AreaWarnings$Area", "<init>", "()V"⟩, prog_2_method_1_code, 1, none, [])
def mm_Ar_addCorner : MT := (⟨"AreaWarnings$Area", "addCorner", "(II)I"⟩, prog_2_method_2_code, 3, (some .int), [])
def mm_Ar_dropCorners : MT := (⟨"AreaWarnings$Area", "dropCorners", "()V"⟩, prog_2_method_3_code, 1, none, [])
def mm_Ar_isSimple : MT := (⟨"AreaWarnings$Area", "isSimple", "()Z"⟩, prog_2_method_4_code, 3, (some .boolean), [])
def mm_Ar_reaches : MT := (⟨"AreaWarnings$Area", "reaches", "(III)Z"⟩, prog_2_method_5_code, 5, (some .boolean), [])
def mm_Ar_next : MT := (⟨"AreaWarnings$Area", "next", "(I)I"⟩, prog_2_method_6_code, 2, (some .int), [])
def mm_Ar_sidesClash : MT := (⟨"AreaWarnings$Area", "sidesClash", "(II)Z"⟩, prog_2_method_7_code, 3, (some .boolean), [])
def mm_Ar_foldsBack : MT := (⟨"AreaWarnings$Area", "foldsBack", "(III)Z"⟩, prog_2_method_8_code, 12, (some .boolean), [])
def mm_Ar_sidesMeet : MT := (⟨"AreaWarnings$Area", "sidesMeet", "(II)Z"⟩, prog_2_method_9_code, 5, (some .boolean), [])
def mm_Ar_rangesMeet : MT := (⟨"AreaWarnings$Area", "rangesMeet", "(IIII)Z"⟩, prog_2_method_10_code, 4, (some .boolean), [])
def mm_Ar_turn : MT := (⟨"AreaWarnings$Area", "turn", "(III)J"⟩, prog_2_method_11_code, 9, (some .long), [])
def mm_Ar_sideReaches : MT := (⟨"AreaWarnings$Area", "sideReaches", "(IIII)Z"⟩, prog_2_method_12_code, 18, (some .boolean), [])
def mm_Ar_squareToCorner : MT := (⟨"AreaWarnings$Area", "squareToCorner", "(III)J"⟩, prog_2_method_13_code, 8, (some .long), [])
def mm_Ar_surrounds : MT := (⟨"AreaWarnings$Area", "surrounds", "(II)Z"⟩, prog_2_method_14_code, 7, (some .boolean), [])
def mm_Ca_init : MT := (⟨"AreaWarnings$Cancel", "<init>", "(LAreaWarnings$Warning;II)V"⟩, prog_3_method_1_code, 4, none, [])
def mm_Ce_init : MT := (⟨"AreaWarnings$Cell", "<init>", "(IIII)V"⟩, prog_4_method_1_code, 5, none, [])
def mm_Ce_makeListAnew : MT := (⟨"AreaWarnings$Cell", "makeListAnew", "([LAreaWarnings$Warning;II)V"⟩, prog_4_method_2_code, 7, none, [])
def mm_Ce_belongsHere : MT := (⟨"AreaWarnings$Cell", "belongsHere", "(LAreaWarnings$Version;)Z"⟩, prog_4_method_3_code, 3, (some .boolean), [])
def mm_Ce_listsWarning : MT := (⟨"AreaWarnings$Cell", "listsWarning", "(LAreaWarnings$Warning;)Z"⟩, prog_4_method_4_code, 3, (some .boolean), [])
def mm_Ce_dropEnded : MT := (⟨"AreaWarnings$Cell", "dropEnded", "(I)V"⟩, prog_4_method_5_code, 4, none, [])
def mm_Ce_sendPages : MT := (⟨"AreaWarnings$Cell", "sendPages", "(I)V"⟩, prog_4_method_6_code, 4, none, [])
def mm_Ce_sendVersion : MT := (⟨"AreaWarnings$Cell", "sendVersion", "(LAreaWarnings$Version;I)V"⟩, prog_4_method_7_code, 4, none, [])
def mm_Ce_sendTexts : MT := (⟨"AreaWarnings$Cell", "sendTexts", "(LAreaWarnings$Spoken;)V"⟩, prog_4_method_8_code, 5, none, [])
def mm_Ce_sendPage : MT := (⟨"AreaWarnings$Cell", "sendPage", "(LAreaWarnings$Version;II)V"⟩, prog_4_method_9_code, 4, none, [])
def mm_Ce_bytesOfPage : MT := (⟨"AreaWarnings$Cell", "bytesOfPage", "(I)I"⟩, prog_4_method_10_code, 4, (some .int), [])
def mm_Ha_init : MT := (⟨"AreaWarnings$Handset", "<init>", "(I)V"⟩, prog_5_method_1_code, 2, none, [])
def mm_Ha_addLiked : MT := (⟨"AreaWarnings$Handset", "addLiked", "(I)I"⟩, prog_5_method_2_code, 2, (some .int), [])
def mm_Ha_listen : MT := (⟨"AreaWarnings$Handset", "listen", "(LAreaWarnings$Cell;I)V"⟩, prog_5_method_3_code, 4, none, [])
def mm_Ha_hear : MT := (⟨"AreaWarnings$Handset", "hear", "(LAreaWarnings$Version;III)V"⟩, prog_5_method_4_code, 7, none, [])
def mm_Ha_pageBits : MT := (⟨"AreaWarnings$Handset", "pageBits", "(II)I"⟩, prog_5_method_5_code, 2, (some .int), [])
def mm_Ha_showIfWhole : MT := (⟨"AreaWarnings$Handset", "showIfWhole", "(LAreaWarnings$Spoken;I)V"⟩, prog_5_method_6_code, 6, none, [])
def mm_Ha_choose : MT := (⟨"AreaWarnings$Handset", "choose", "(LAreaWarnings$Texts;)I"⟩, prog_5_method_7_code, 3, (some .int), [])
def mm_Ha_isCurrent : MT := (⟨"AreaWarnings$Handset", "isCurrent", "(II)Z"⟩, prog_5_method_8_code, 4, (some .boolean), [])
def mm_Ha_bytesOfShown : MT := (⟨"AreaWarnings$Handset", "bytesOfShown", "(I)I"⟩, prog_5_method_9_code, 2, (some .int), [])
def mm_Me_init : MT := (⟨"AreaWarnings$Message", "<init>", "()V"⟩, prog_6_method_1_code, 1, none, [])
def mm_Me_canBeSpoken : MT := (⟨"AreaWarnings$Message", "canBeSpoken", "()Z"⟩, prog_6_method_2_code, 1, (some .boolean), [])
def mm_Sp_init : MT := (⟨"AreaWarnings$Spoken", "<init>", "(LAreaWarnings$Warning;IIIILAreaWarnings$Message;)V"⟩, prog_7_method_1_code, 7, none, [])
def mm_Sp_measure : MT := (⟨"AreaWarnings$Spoken", "measure", "(LAreaWarnings$Cell;)Z"⟩, prog_7_method_2_code, 2, (some .boolean), [])
def mm_Sp_isDue : MT := (⟨"AreaWarnings$Spoken", "isDue", "(I)Z"⟩, prog_7_method_3_code, 2, (some .boolean), [])
def mm_Te_init : MT := (⟨"AreaWarnings$Texts", "<init>", "()V"⟩, prog_8_method_1_code, 1, none, [])
def mm_Te_addByte : MT := (⟨"AreaWarnings$Texts", "addByte", "(II)I"⟩, prog_8_method_2_code, 3, (some .int), [])
def mm_Te_dropBytes : MT := (⟨"AreaWarnings$Texts", "dropBytes", "()V"⟩, prog_8_method_3_code, 2, none, [])
def mm_Te_byteCount : MT := (⟨"AreaWarnings$Texts", "byteCount", "()I"⟩, prog_8_method_4_code, 3, (some .int), [])
def mm_Te_offers : MT := (⟨"AreaWarnings$Texts", "offers", "(I)Z"⟩, prog_8_method_5_code, 2, (some .boolean), [])
def mm_Te_pagesOf : MT := (⟨"AreaWarnings$Texts", "pagesOf", "(I)I"⟩, prog_8_method_6_code, 2, (some .int), [])
def mm_Te_bytesOfPage : MT := (⟨"AreaWarnings$Texts", "bytesOfPage", "(II)I"⟩, prog_8_method_7_code, 3, (some .int), [])
def mm_Ve_init : MT := (⟨"AreaWarnings$Version", "<init>", "(LAreaWarnings$Warning;II)V"⟩, prog_9_method_1_code, 4, none, [])
def mm_Wa_init : MT := (⟨"AreaWarnings$Warning", "<init>", "(II)V"⟩, prog_10_method_1_code, 3, none, [])
def mm_La_cell : MT := (⟨"AreaWarningsLaw", "cell", "(LAreaWarnings;III[J)I"⟩, method_3_code, 6, (some .int), [(0, 12, 15, 13), (0, 12, 19, 15)])
def mm_La_corner : MT := (⟨"AreaWarningsLaw", "corner", "(LAreaWarnings;II[J)I"⟩, method_4_code, 5, (some .int), [(0, 10, 13, 13), (0, 10, 17, 15)])
def mm_La_text : MT := (⟨"AreaWarningsLaw", "text", "(LAreaWarnings;II[J)I"⟩, method_5_code, 5, (some .int), [(0, 10, 13, 13), (0, 10, 17, 15)])
def mm_La_issue : MT := (⟨"AreaWarningsLaw", "issue", "(LAreaWarnings;IIIII[J)I"⟩, method_6_code, 8, (some .int), [(0, 16, 19, 13), (0, 16, 23, 28), (0, 16, 27, 15)])
def mm_La_update : MT := (⟨"AreaWarningsLaw", "update", "(LAreaWarnings;IIII[J)I"⟩, method_7_code, 7, (some .int), [(0, 14, 17, 13), (0, 14, 21, 28), (0, 14, 25, 15)])
def mm_La_cancel : MT := (⟨"AreaWarningsLaw", "cancel", "(LAreaWarnings;I[J)I"⟩, method_8_code, 4, (some .int), [(0, 9, 12, 15)])
def mm_La_line : MT := (⟨"AreaWarningsLaw", "line", "(LAreaWarnings;IZ[J)I"⟩, method_9_code, 5, (some .int), [(0, 17, 20, 42)])
def mm_La_handset : MT := (⟨"AreaWarningsLaw", "handset", "(LAreaWarnings;I[J)I"⟩, method_10_code, 4, (some .int), [(0, 9, 12, 13), (0, 9, 15, 15)])
def mm_La_likes : MT := (⟨"AreaWarningsLaw", "likes", "(LAreaWarnings;II[J)I"⟩, method_11_code, 5, (some .int), [(0, 10, 13, 42), (0, 10, 17, 13), (0, 10, 21, 15)])
def mm_La_camp : MT := (⟨"AreaWarningsLaw", "camp", "(LAreaWarnings;II[J)I"⟩, method_12_code, 5, (some .int), [(0, 10, 13, 42)])
def mm_La_miss : MT := (⟨"AreaWarningsLaw", "miss", "(LAreaWarnings;II[J)I"⟩, method_13_code, 5, (some .int), [(0, 10, 13, 42), (0, 10, 17, 13)])
def mm_La_covers : MT := (⟨"AreaWarningsLaw", "covers", "(LAreaWarnings;II[J)I"⟩, method_14_code, 5, (some .int), [(0, 17, 20, 42), (0, 17, 24, 15)])
def mm_La_listed : MT := (⟨"AreaWarningsLaw", "listed", "(LAreaWarnings;III[J)I"⟩, method_15_code, 6, (some .int), [(0, 12, 15, 42), (0, 12, 19, 13)])
def mm_La_sent : MT := (⟨"AreaWarningsLaw", "sent", "(LAreaWarnings;III[J)I"⟩, method_16_code, 6, (some .int), [(0, 12, 15, 42), (0, 12, 19, 13)])
def mm_La_shown : MT := (⟨"AreaWarningsLaw", "shown", "(LAreaWarnings;III[J)I"⟩, method_17_code, 6, (some .int), [(0, 12, 15, 42), (0, 12, 19, 13)])
def mm_La_shownByte : MT := (⟨"AreaWarningsLaw", "shownByte", "(LAreaWarnings;III[J)I"⟩, method_18_code, 6, (some .int), [(0, 12, 15, 42)])
theorem ob_AW_3 : Cond.methodLink "AreaWarnings" 3 Lib.objectInit ∈ WS ∧ Cond.instanceMethod Lib.objectInit ∈ WS ∧ Cond.code Lib.objectInit ⟨#[0xb1]⟩ 1 none ∈ WS := ⟨in_at 25 (by decide +kernel), in_at 26 (by decide +kernel), in_at 27 (by decide +kernel)⟩
theorem ci_AW_45 : CW WS "AreaWarnings" 45 mm_Me_init 0 ∧ Cond.instanceMethod mm_Me_init.1 ∈ WS ∧ mm_Me_init.1.name = "<init>" ∧ mm_Me_init.2.2.2.1 = none := ⟨⟨Or.inl (in_at 36 (by decide +kernel)), in_at 38 (by decide +kernel), rfl, by decide +kernel, by decide, ⟨by decide +kernel, by decide +kernel⟩, by decide +kernel⟩, in_at 37 (by decide +kernel), rfl, rfl⟩
theorem cs_AW_50 : CW WS "AreaWarnings" 50 mm_AW_isCoordinate 1 ∧ Cond.static mm_AW_isCoordinate.1 ∈ WS ∧ Cond.initialized mm_AW_isCoordinate.1.cls ∈ WS := ⟨⟨Or.inl (in_at 228 (by decide +kernel)), in_at 230 (by decide +kernel), rfl, by decide +kernel, by decide, ⟨by decide +kernel, by decide +kernel⟩, by decide +kernel⟩, in_at 229 (by decide +kernel), in_at 1 (by decide +kernel)⟩
theorem ci_AW_60 : CW WS "AreaWarnings" 60 mm_Ce_init 4 ∧ Cond.instanceMethod mm_Ce_init.1 ∈ WS ∧ mm_Ce_init.1.name = "<init>" ∧ mm_Ce_init.2.2.2.1 = none := ⟨⟨Or.inl (in_at 310 (by decide +kernel)), in_at 312 (by decide +kernel), rfl, by decide +kernel, by decide, ⟨by decide +kernel, by decide +kernel⟩, by decide +kernel⟩, in_at 311 (by decide +kernel), rfl, rfl⟩
theorem cv_AW_69 : CW WS "AreaWarnings" 69 mm_Sp_measure 1 ∧ Cond.instanceMethod mm_Sp_measure.1 ∈ WS ∧ Cond.selects "AreaWarnings$Spoken" mm_Sp_measure.1 mm_Sp_measure.1 ∈ WS ∧ 6 < 100 := ⟨⟨Or.inl (in_at 370 (by decide +kernel)), in_at 373 (by decide +kernel), rfl, by decide +kernel, by decide, ⟨by decide +kernel, by decide +kernel⟩, by decide +kernel⟩, in_at 371 (by decide +kernel), in_at 372 (by decide +kernel), by decide⟩
theorem cv_AW_85 : CW WS "AreaWarnings" 85 mm_Ar_addCorner 2 ∧ Cond.instanceMethod mm_Ar_addCorner.1 ∈ WS ∧ Cond.selects "AreaWarnings$Area" mm_Ar_addCorner.1 mm_Ar_addCorner.1 ∈ WS ∧ 1 < 100 := ⟨⟨Or.inl (in_at 405 (by decide +kernel)), in_at 408 (by decide +kernel), rfl, by decide +kernel, by decide, ⟨by decide +kernel, by decide +kernel⟩, by decide +kernel⟩, in_at 406 (by decide +kernel), in_at 407 (by decide +kernel), by decide⟩
theorem cs_AW_89 : CW WS "AreaWarnings" 89 mm_AW_isLanguage 1 ∧ Cond.static mm_AW_isLanguage.1 ∈ WS ∧ Cond.initialized mm_AW_isLanguage.1.cls ∈ WS := ⟨⟨Or.inl (in_at 416 (by decide +kernel)), in_at 418 (by decide +kernel), rfl, by decide +kernel, by decide, ⟨by decide +kernel, by decide +kernel⟩, by decide +kernel⟩, in_at 417 (by decide +kernel), in_at 1 (by decide +kernel)⟩
theorem cv_AW_102 : CW WS "AreaWarnings" 102 mm_Te_addByte 2 ∧ Cond.instanceMethod mm_Te_addByte.1 ∈ WS ∧ Cond.selects "AreaWarnings$Texts" mm_Te_addByte.1 mm_Te_addByte.1 ∈ WS ∧ 7 < 100 := ⟨⟨Or.inl (in_at 419 (by decide +kernel)), in_at 422 (by decide +kernel), rfl, by decide +kernel, by decide, ⟨by decide +kernel, by decide +kernel⟩, by decide +kernel⟩, in_at 420 (by decide +kernel), in_at 421 (by decide +kernel), by decide⟩
theorem cv_AW_105 : CW WS "AreaWarnings" 105 mm_Te_byteCount 0 ∧ Cond.instanceMethod mm_Te_byteCount.1 ∈ WS ∧ Cond.selects "AreaWarnings$Texts" mm_Te_byteCount.1 mm_Te_byteCount.1 ∈ WS ∧ 7 < 100 := ⟨⟨Or.inl (in_at 119 (by decide +kernel)), in_at 122 (by decide +kernel), rfl, by decide +kernel, by decide, ⟨by decide +kernel, by decide +kernel⟩, by decide +kernel⟩, in_at 120 (by decide +kernel), in_at 121 (by decide +kernel), by decide⟩
theorem cv_AW_109 : CW WS "AreaWarnings" 109 mm_Ar_dropCorners 0 ∧ Cond.instanceMethod mm_Ar_dropCorners.1 ∈ WS ∧ Cond.selects "AreaWarnings$Area" mm_Ar_dropCorners.1 mm_Ar_dropCorners.1 ∈ WS ∧ 1 < 100 := ⟨⟨Or.inl (in_at 123 (by decide +kernel)), in_at 126 (by decide +kernel), rfl, by decide +kernel, by decide, ⟨by decide +kernel, by decide +kernel⟩, by decide +kernel⟩, in_at 124 (by decide +kernel), in_at 125 (by decide +kernel), by decide⟩
theorem cv_AW_112 : CW WS "AreaWarnings" 112 mm_Te_dropBytes 0 ∧ Cond.instanceMethod mm_Te_dropBytes.1 ∈ WS ∧ Cond.selects "AreaWarnings$Texts" mm_Te_dropBytes.1 mm_Te_dropBytes.1 ∈ WS ∧ 7 < 100 := ⟨⟨Or.inl (in_at 127 (by decide +kernel)), in_at 130 (by decide +kernel), rfl, by decide +kernel, by decide, ⟨by decide +kernel, by decide +kernel⟩, by decide +kernel⟩, in_at 128 (by decide +kernel), in_at 129 (by decide +kernel), by decide⟩
theorem cs_AW_115 : CW WS "AreaWarnings" 115 mm_AW_isSeverity 1 ∧ Cond.static mm_AW_isSeverity.1 ∈ WS ∧ Cond.initialized mm_AW_isSeverity.1.cls ∈ WS := ⟨⟨Or.inl (in_at 431 (by decide +kernel)), in_at 433 (by decide +kernel), rfl, by decide +kernel, by decide, ⟨by decide +kernel, by decide +kernel⟩, by decide +kernel⟩, in_at 432 (by decide +kernel), in_at 1 (by decide +kernel)⟩
theorem cs_AW_118 : CW WS "AreaWarnings" 118 mm_AW_isSpan 1 ∧ Cond.static mm_AW_isSpan.1 ∈ WS ∧ Cond.initialized mm_AW_isSpan.1.cls ∈ WS := ⟨⟨Or.inl (in_at 434 (by decide +kernel)), in_at 436 (by decide +kernel), rfl, by decide +kernel, by decide, ⟨by decide +kernel, by decide +kernel⟩, by decide +kernel⟩, in_at 435 (by decide +kernel), in_at 1 (by decide +kernel)⟩
theorem cv_AW_121 : CW WS "AreaWarnings" 121 mm_Me_canBeSpoken 0 ∧ Cond.instanceMethod mm_Me_canBeSpoken.1 ∈ WS ∧ Cond.selects "AreaWarnings$Message" mm_Me_canBeSpoken.1 mm_Me_canBeSpoken.1 ∈ WS ∧ 5 < 100 := ⟨⟨Or.inl (in_at 437 (by decide +kernel)), in_at 440 (by decide +kernel), rfl, by decide +kernel, by decide, ⟨by decide +kernel, by decide +kernel⟩, by decide +kernel⟩, in_at 438 (by decide +kernel), in_at 439 (by decide +kernel), by decide⟩
theorem cv_AW_128 : CW WS "AreaWarnings" 128 mm_AW_findWarning 1 ∧ Cond.instanceMethod mm_AW_findWarning.1 ∈ WS ∧ Cond.selects "AreaWarnings" mm_AW_findWarning.1 mm_AW_findWarning.1 ∈ WS ∧ 0 < 100 := ⟨⟨Or.inl (in_at 211 (by decide +kernel)), in_at 214 (by decide +kernel), rfl, by decide +kernel, by decide, ⟨by decide +kernel, by decide +kernel⟩, by decide +kernel⟩, in_at 213 (by decide +kernel), in_at 1130 (by decide +kernel), by decide⟩
theorem ci_AW_132 : CW WS "AreaWarnings" 132 mm_Wa_init 2 ∧ Cond.instanceMethod mm_Wa_init.1 ∈ WS ∧ mm_Wa_init.1.name = "<init>" ∧ mm_Wa_init.2.2.2.1 = none := ⟨⟨Or.inl (in_at 483 (by decide +kernel)), in_at 485 (by decide +kernel), rfl, by decide +kernel, by decide, ⟨by decide +kernel, by decide +kernel⟩, by decide +kernel⟩, in_at 484 (by decide +kernel), rfl, rfl⟩
theorem cv_AW_135 : CW WS "AreaWarnings" 135 mm_AW_insertById 1 ∧ Cond.instanceMethod mm_AW_insertById.1 ∈ WS ∧ Cond.selects "AreaWarnings" mm_AW_insertById.1 mm_AW_insertById.1 ∈ WS ∧ 0 < 100 := ⟨⟨Or.inl (in_at 502 (by decide +kernel)), in_at 505 (by decide +kernel), rfl, by decide +kernel, by decide, ⟨by decide +kernel, by decide +kernel⟩, by decide +kernel⟩, in_at 504 (by decide +kernel), in_at 1140 (by decide +kernel), by decide⟩
theorem ci_AW_139 : CW WS "AreaWarnings" 139 mm_Sp_init 6 ∧ Cond.instanceMethod mm_Sp_init.1 ∈ WS ∧ mm_Sp_init.1.name = "<init>" ∧ mm_Sp_init.2.2.2.1 = none := ⟨⟨Or.inl (in_at 507 (by decide +kernel)), in_at 509 (by decide +kernel), rfl, by decide +kernel, by decide, ⟨by decide +kernel, by decide +kernel⟩, by decide +kernel⟩, in_at 508 (by decide +kernel), rfl, rfl⟩
theorem cv_AW_142 : CW WS "AreaWarnings" 142 mm_AW_speak 2 ∧ Cond.instanceMethod mm_AW_speak.1 ∈ WS ∧ Cond.selects "AreaWarnings" mm_AW_speak.1 mm_AW_speak.1 ∈ WS ∧ 0 < 100 := ⟨⟨Or.inl (in_at 566 (by decide +kernel)), in_at 569 (by decide +kernel), rfl, by decide +kernel, by decide, ⟨by decide +kernel, by decide +kernel⟩, by decide +kernel⟩, in_at 568 (by decide +kernel), in_at 1141 (by decide +kernel), by decide⟩
theorem cv_AW_146 : CW WS "AreaWarnings" 146 mm_AW_findLive 1 ∧ Cond.instanceMethod mm_AW_findLive.1 ∈ WS ∧ Cond.selects "AreaWarnings" mm_AW_findLive.1 mm_AW_findLive.1 ∈ WS ∧ 0 < 100 := ⟨⟨Or.inl (in_at 577 (by decide +kernel)), in_at 580 (by decide +kernel), rfl, by decide +kernel, by decide, ⟨by decide +kernel, by decide +kernel⟩, by decide +kernel⟩, in_at 579 (by decide +kernel), in_at 1142 (by decide +kernel), by decide⟩
theorem ci_AW_159 : CW WS "AreaWarnings" 159 mm_Ca_init 3 ∧ Cond.instanceMethod mm_Ca_init.1 ∈ WS ∧ mm_Ca_init.1.name = "<init>" ∧ mm_Ca_init.2.2.2.1 = none := ⟨⟨Or.inl (in_at 590 (by decide +kernel)), in_at 592 (by decide +kernel), rfl, by decide +kernel, by decide, ⟨by decide +kernel, by decide +kernel⟩, by decide +kernel⟩, in_at 591 (by decide +kernel), rfl, rfl⟩
theorem cv_AW_169 : CW WS "AreaWarnings" 169 mm_Ce_makeListAnew 3 ∧ Cond.instanceMethod mm_Ce_makeListAnew.1 ∈ WS ∧ Cond.selects "AreaWarnings$Cell" mm_Ce_makeListAnew.1 mm_Ce_makeListAnew.1 ∈ WS ∧ 3 < 100 := ⟨⟨Or.inl (in_at 135 (by decide +kernel)), in_at 138 (by decide +kernel), rfl, by decide +kernel, by decide, ⟨by decide +kernel, by decide +kernel⟩, by decide +kernel⟩, in_at 136 (by decide +kernel), in_at 137 (by decide +kernel), by decide⟩
theorem cv_AW_173 : CW WS "AreaWarnings" 173 mm_Ce_dropEnded 1 ∧ Cond.instanceMethod mm_Ce_dropEnded.1 ∈ WS ∧ Cond.selects "AreaWarnings$Cell" mm_Ce_dropEnded.1 mm_Ce_dropEnded.1 ∈ WS ∧ 3 < 100 := ⟨⟨Or.inl (in_at 149 (by decide +kernel)), in_at 152 (by decide +kernel), rfl, by decide +kernel, by decide, ⟨by decide +kernel, by decide +kernel⟩, by decide +kernel⟩, in_at 150 (by decide +kernel), in_at 151 (by decide +kernel), by decide⟩
theorem cv_AW_177 : CW WS "AreaWarnings" 177 mm_Ce_sendPages 1 ∧ Cond.instanceMethod mm_Ce_sendPages.1 ∈ WS ∧ Cond.selects "AreaWarnings$Cell" mm_Ce_sendPages.1 mm_Ce_sendPages.1 ∈ WS ∧ 3 < 100 := ⟨⟨Or.inl (in_at 153 (by decide +kernel)), in_at 156 (by decide +kernel), rfl, by decide +kernel, by decide, ⟨by decide +kernel, by decide +kernel⟩, by decide +kernel⟩, in_at 154 (by decide +kernel), in_at 155 (by decide +kernel), by decide⟩
theorem cv_AW_186 : CW WS "AreaWarnings" 186 mm_AW_isCell 1 ∧ Cond.instanceMethod mm_AW_isCell.1 ∈ WS ∧ Cond.selects "AreaWarnings" mm_AW_isCell.1 mm_AW_isCell.1 ∈ WS ∧ 0 < 100 := ⟨⟨Or.inl (in_at 177 (by decide +kernel)), in_at 180 (by decide +kernel), rfl, by decide +kernel, by decide, ⟨by decide +kernel, by decide +kernel⟩, by decide +kernel⟩, in_at 179 (by decide +kernel), in_at 1126 (by decide +kernel), by decide⟩
theorem cv_AW_189 : CW WS "AreaWarnings" 189 mm_Ha_listen 2 ∧ Cond.instanceMethod mm_Ha_listen.1 ∈ WS ∧ Cond.selects "AreaWarnings$Handset" mm_Ha_listen.1 mm_Ha_listen.1 ∈ WS ∧ 4 < 100 := ⟨⟨Or.inl (in_at 181 (by decide +kernel)), in_at 184 (by decide +kernel), rfl, by decide +kernel, by decide, ⟨by decide +kernel, by decide +kernel⟩, by decide +kernel⟩, in_at 182 (by decide +kernel), in_at 183 (by decide +kernel), by decide⟩
theorem ci_AW_196 : CW WS "AreaWarnings" 196 mm_Ha_init 1 ∧ Cond.instanceMethod mm_Ha_init.1 ∈ WS ∧ mm_Ha_init.1.name = "<init>" ∧ mm_Ha_init.2.2.2.1 = none := ⟨⟨Or.inl (in_at 629 (by decide +kernel)), in_at 631 (by decide +kernel), rfl, by decide +kernel, by decide, ⟨by decide +kernel, by decide +kernel⟩, by decide +kernel⟩, in_at 630 (by decide +kernel), rfl, rfl⟩
theorem cv_AW_198 : CW WS "AreaWarnings" 198 mm_AW_isHandset 1 ∧ Cond.instanceMethod mm_AW_isHandset.1 ∈ WS ∧ Cond.selects "AreaWarnings" mm_AW_isHandset.1 mm_AW_isHandset.1 ∈ WS ∧ 0 < 100 := ⟨⟨Or.inl (in_at 690 (by decide +kernel)), in_at 693 (by decide +kernel), rfl, by decide +kernel, by decide, ⟨by decide +kernel, by decide +kernel⟩, by decide +kernel⟩, in_at 692 (by decide +kernel), in_at 1143 (by decide +kernel), by decide⟩
theorem cv_AW_204 : CW WS "AreaWarnings" 204 mm_Ha_addLiked 1 ∧ Cond.instanceMethod mm_Ha_addLiked.1 ∈ WS ∧ Cond.selects "AreaWarnings$Handset" mm_Ha_addLiked.1 mm_Ha_addLiked.1 ∈ WS ∧ 4 < 100 := ⟨⟨Or.inl (in_at 694 (by decide +kernel)), in_at 697 (by decide +kernel), rfl, by decide +kernel, by decide, ⟨by decide +kernel, by decide +kernel⟩, by decide +kernel⟩, in_at 695 (by decide +kernel), in_at 696 (by decide +kernel), by decide⟩
theorem cv_AW_238 : CW WS "AreaWarnings" 238 mm_Ce_bytesOfPage 1 ∧ Cond.instanceMethod mm_Ce_bytesOfPage.1 ∈ WS ∧ Cond.selects "AreaWarnings$Cell" mm_Ce_bytesOfPage.1 mm_Ce_bytesOfPage.1 ∈ WS ∧ 3 < 100 := ⟨⟨Or.inl (in_at 733 (by decide +kernel)), in_at 736 (by decide +kernel), rfl, by decide +kernel, by decide, ⟨by decide +kernel, by decide +kernel⟩, by decide +kernel⟩, in_at 734 (by decide +kernel), in_at 735 (by decide +kernel), by decide⟩
theorem cv_AW_256 : CW WS "AreaWarnings" 256 mm_Ha_isCurrent 2 ∧ Cond.instanceMethod mm_Ha_isCurrent.1 ∈ WS ∧ Cond.selects "AreaWarnings$Handset" mm_Ha_isCurrent.1 mm_Ha_isCurrent.1 ∈ WS ∧ 4 < 100 := ⟨⟨Or.inl (in_at 749 (by decide +kernel)), in_at 752 (by decide +kernel), rfl, by decide +kernel, by decide, ⟨by decide +kernel, by decide +kernel⟩, by decide +kernel⟩, in_at 750 (by decide +kernel), in_at 751 (by decide +kernel), by decide⟩
theorem cv_AW_260 : CW WS "AreaWarnings" 260 mm_Ha_bytesOfShown 1 ∧ Cond.instanceMethod mm_Ha_bytesOfShown.1 ∈ WS ∧ Cond.selects "AreaWarnings$Handset" mm_Ha_bytesOfShown.1 mm_Ha_bytesOfShown.1 ∈ WS ∧ 4 < 100 := ⟨⟨Or.inl (in_at 753 (by decide +kernel)), in_at 756 (by decide +kernel), rfl, by decide +kernel, by decide, ⟨by decide +kernel, by decide +kernel⟩, by decide +kernel⟩, in_at 754 (by decide +kernel), in_at 755 (by decide +kernel), by decide⟩
theorem ob_Ar_3 : Cond.methodLink "AreaWarnings$Area" 3 Lib.objectInit ∈ WS ∧ Cond.instanceMethod Lib.objectInit ∈ WS ∧ Cond.code Lib.objectInit ⟨#[0xb1]⟩ 1 none ∈ WS := ⟨in_at 45 (by decide +kernel), in_at 26 (by decide +kernel), in_at 27 (by decide +kernel)⟩
theorem cv_Ar_22 : CW WS "AreaWarnings$Area" 22 mm_Ar_sidesClash 2 ∧ Cond.instanceMethod mm_Ar_sidesClash.1 ∈ WS ∧ Cond.selects "AreaWarnings$Area" mm_Ar_sidesClash.1 mm_Ar_sidesClash.1 ∈ WS ∧ 1 < 100 := ⟨⟨Or.inl (in_at 446 (by decide +kernel)), in_at 449 (by decide +kernel), rfl, by decide +kernel, by decide, ⟨by decide +kernel, by decide +kernel⟩, by decide +kernel⟩, in_at 448 (by decide +kernel), in_at 1137 (by decide +kernel), by decide⟩
theorem cv_Ar_26 : CW WS "AreaWarnings$Area" 26 mm_Ar_sideReaches 4 ∧ Cond.instanceMethod mm_Ar_sideReaches.1 ∈ WS ∧ Cond.selects "AreaWarnings$Area" mm_Ar_sideReaches.1 mm_Ar_sideReaches.1 ∈ WS ∧ 1 < 100 := ⟨⟨Or.inl (in_at 378 (by decide +kernel)), in_at 381 (by decide +kernel), rfl, by decide +kernel, by decide, ⟨by decide +kernel, by decide +kernel⟩, by decide +kernel⟩, in_at 380 (by decide +kernel), in_at 1132 (by decide +kernel), by decide⟩
theorem cv_Ar_30 : CW WS "AreaWarnings$Area" 30 mm_Ar_surrounds 2 ∧ Cond.instanceMethod mm_Ar_surrounds.1 ∈ WS ∧ Cond.selects "AreaWarnings$Area" mm_Ar_surrounds.1 mm_Ar_surrounds.1 ∈ WS ∧ 1 < 100 := ⟨⟨Or.inl (in_at 394 (by decide +kernel)), in_at 397 (by decide +kernel), rfl, by decide +kernel, by decide, ⟨by decide +kernel, by decide +kernel⟩, by decide +kernel⟩, in_at 396 (by decide +kernel), in_at 1136 (by decide +kernel), by decide⟩
theorem cv_Ar_33 : CW WS "AreaWarnings$Area" 33 mm_Ar_next 1 ∧ Cond.instanceMethod mm_Ar_next.1 ∈ WS ∧ Cond.selects "AreaWarnings$Area" mm_Ar_next.1 mm_Ar_next.1 ∈ WS ∧ 1 < 100 := ⟨⟨Or.inl (in_at 382 (by decide +kernel)), in_at 385 (by decide +kernel), rfl, by decide +kernel, by decide, ⟨by decide +kernel, by decide +kernel⟩, by decide +kernel⟩, in_at 384 (by decide +kernel), in_at 1133 (by decide +kernel), by decide⟩
theorem cv_Ar_37 : CW WS "AreaWarnings$Area" 37 mm_Ar_foldsBack 3 ∧ Cond.instanceMethod mm_Ar_foldsBack.1 ∈ WS ∧ Cond.selects "AreaWarnings$Area" mm_Ar_foldsBack.1 mm_Ar_foldsBack.1 ∈ WS ∧ 1 < 100 := ⟨⟨Or.inl (in_at 450 (by decide +kernel)), in_at 453 (by decide +kernel), rfl, by decide +kernel, by decide, ⟨by decide +kernel, by decide +kernel⟩, by decide +kernel⟩, in_at 452 (by decide +kernel), in_at 1138 (by decide +kernel), by decide⟩
theorem cv_Ar_41 : CW WS "AreaWarnings$Area" 41 mm_Ar_sidesMeet 2 ∧ Cond.instanceMethod mm_Ar_sidesMeet.1 ∈ WS ∧ Cond.selects "AreaWarnings$Area" mm_Ar_sidesMeet.1 mm_Ar_sidesMeet.1 ∈ WS ∧ 1 < 100 := ⟨⟨Or.inl (in_at 454 (by decide +kernel)), in_at 457 (by decide +kernel), rfl, by decide +kernel, by decide, ⟨by decide +kernel, by decide +kernel⟩, by decide +kernel⟩, in_at 456 (by decide +kernel), in_at 1139 (by decide +kernel), by decide⟩
theorem cs_Ar_44 : CW WS "AreaWarnings$Area" 44 mm_Ar_rangesMeet 4 ∧ Cond.static mm_Ar_rangesMeet.1 ∈ WS ∧ Cond.initialized mm_Ar_rangesMeet.1.cls ∈ WS := ⟨⟨Or.inl (in_at 458 (by decide +kernel)), in_at 460 (by decide +kernel), rfl, by decide +kernel, by decide, ⟨by decide +kernel, by decide +kernel⟩, by decide +kernel⟩, in_at 459 (by decide +kernel), in_at 3 (by decide +kernel)⟩
theorem cv_Ar_47 : CW WS "AreaWarnings$Area" 47 mm_Ar_turn 3 ∧ Cond.instanceMethod mm_Ar_turn.1 ∈ WS ∧ Cond.selects "AreaWarnings$Area" mm_Ar_turn.1 mm_Ar_turn.1 ∈ WS ∧ 1 < 100 := ⟨⟨Or.inl (in_at 390 (by decide +kernel)), in_at 393 (by decide +kernel), rfl, by decide +kernel, by decide, ⟨by decide +kernel, by decide +kernel⟩, by decide +kernel⟩, in_at 392 (by decide +kernel), in_at 1135 (by decide +kernel), by decide⟩
theorem ma_Ar_51 : MX WS "AreaWarnings$Area" 51 := ⟨in_at 461 (by decide +kernel), in_at 462 (by decide +kernel), in_at 12 (by decide +kernel), in_at 463 (by decide +kernel)⟩
theorem ma_Ar_57 : MN WS "AreaWarnings$Area" 57 := ⟨in_at 464 (by decide +kernel), in_at 465 (by decide +kernel), in_at 12 (by decide +kernel), in_at 466 (by decide +kernel)⟩
theorem cv_Ar_60 : CW WS "AreaWarnings$Area" 60 mm_Ar_squareToCorner 3 ∧ Cond.instanceMethod mm_Ar_squareToCorner.1 ∈ WS ∧ Cond.selects "AreaWarnings$Area" mm_Ar_squareToCorner.1 mm_Ar_squareToCorner.1 ∈ WS ∧ 1 < 100 := ⟨⟨Or.inl (in_at 386 (by decide +kernel)), in_at 389 (by decide +kernel), rfl, by decide +kernel, by decide, ⟨by decide +kernel, by decide +kernel⟩, by decide +kernel⟩, in_at 388 (by decide +kernel), in_at 1134 (by decide +kernel), by decide⟩
theorem ci_Ca_1 : CW WS "AreaWarnings$Cancel" 1 mm_Ve_init 3 ∧ Cond.instanceMethod mm_Ve_init.1 ∈ WS ∧ mm_Ve_init.1.name = "<init>" ∧ mm_Ve_init.2.2.2.1 = none := ⟨⟨Or.inl (in_at 593 (by decide +kernel)), in_at 512 (by decide +kernel), rfl, by decide +kernel, by decide, ⟨by decide +kernel, by decide +kernel⟩, by decide +kernel⟩, in_at 511 (by decide +kernel), rfl, rfl⟩
theorem ob_Ce_3 : Cond.methodLink "AreaWarnings$Cell" 3 Lib.objectInit ∈ WS ∧ Cond.instanceMethod Lib.objectInit ∈ WS ∧ Cond.code Lib.objectInit ⟨#[0xb1]⟩ 1 none ∈ WS := ⟨in_at 313 (by decide +kernel), in_at 26 (by decide +kernel), in_at 27 (by decide +kernel)⟩
theorem cv_Ce_62 : CW WS "AreaWarnings$Cell" 62 mm_Ce_belongsHere 1 ∧ Cond.instanceMethod mm_Ce_belongsHere.1 ∈ WS ∧ Cond.selects "AreaWarnings$Cell" mm_Ce_belongsHere.1 mm_Ce_belongsHere.1 ∈ WS ∧ 3 < 100 := ⟨⟨Or.inl (in_at 139 (by decide +kernel)), in_at 143 (by decide +kernel), rfl, by decide +kernel, by decide, ⟨by decide +kernel, by decide +kernel⟩, by decide +kernel⟩, in_at 141 (by decide +kernel), in_at 1121 (by decide +kernel), by decide⟩
theorem cv_Ce_76 : CW WS "AreaWarnings$Cell" 76 mm_Ce_listsWarning 1 ∧ Cond.instanceMethod mm_Ce_listsWarning.1 ∈ WS ∧ Cond.selects "AreaWarnings$Cell" mm_Ce_listsWarning.1 mm_Ce_listsWarning.1 ∈ WS ∧ 3 < 100 := ⟨⟨Or.inl (in_at 145 (by decide +kernel)), in_at 148 (by decide +kernel), rfl, by decide +kernel, by decide, ⟨by decide +kernel, by decide +kernel⟩, by decide +kernel⟩, in_at 147 (by decide +kernel), in_at 1122 (by decide +kernel), by decide⟩
theorem cv_Ce_83 : CW WS "AreaWarnings$Cell" 83 mm_Ce_sendVersion 2 ∧ Cond.instanceMethod mm_Ce_sendVersion.1 ∈ WS ∧ Cond.selects "AreaWarnings$Cell" mm_Ce_sendVersion.1 mm_Ce_sendVersion.1 ∈ WS ∧ 3 < 100 := ⟨⟨Or.inl (in_at 157 (by decide +kernel)), in_at 160 (by decide +kernel), rfl, by decide +kernel, by decide, ⟨by decide +kernel, by decide +kernel⟩, by decide +kernel⟩, in_at 159 (by decide +kernel), in_at 1123 (by decide +kernel), by decide⟩
theorem cv_Ce_87 : CW WS "AreaWarnings$Cell" 87 mm_Sp_isDue 1 ∧ Cond.instanceMethod mm_Sp_isDue.1 ∈ WS ∧ Cond.selects "AreaWarnings$Spoken" mm_Sp_isDue.1 mm_Sp_isDue.1 ∈ WS ∧ 6 < 100 := ⟨⟨Or.inl (in_at 161 (by decide +kernel)), in_at 164 (by decide +kernel), rfl, by decide +kernel, by decide, ⟨by decide +kernel, by decide +kernel⟩, by decide +kernel⟩, in_at 162 (by decide +kernel), in_at 163 (by decide +kernel), by decide⟩
theorem cv_Ce_91 : CW WS "AreaWarnings$Cell" 91 mm_Ce_sendTexts 1 ∧ Cond.instanceMethod mm_Ce_sendTexts.1 ∈ WS ∧ Cond.selects "AreaWarnings$Cell" mm_Ce_sendTexts.1 mm_Ce_sendTexts.1 ∈ WS ∧ 3 < 100 := ⟨⟨Or.inl (in_at 165 (by decide +kernel)), in_at 168 (by decide +kernel), rfl, by decide +kernel, by decide, ⟨by decide +kernel, by decide +kernel⟩, by decide +kernel⟩, in_at 167 (by decide +kernel), in_at 1124 (by decide +kernel), by decide⟩
theorem cv_Ce_95 : CW WS "AreaWarnings$Cell" 95 mm_Ce_sendPage 3 ∧ Cond.instanceMethod mm_Ce_sendPage.1 ∈ WS ∧ Cond.selects "AreaWarnings$Cell" mm_Ce_sendPage.1 mm_Ce_sendPage.1 ∈ WS ∧ 3 < 100 := ⟨⟨Or.inl (in_at 173 (by decide +kernel)), in_at 176 (by decide +kernel), rfl, by decide +kernel, by decide, ⟨by decide +kernel, by decide +kernel⟩, by decide +kernel⟩, in_at 175 (by decide +kernel), in_at 1125 (by decide +kernel), by decide⟩
theorem cv_Ce_103 : CW WS "AreaWarnings$Cell" 103 mm_Te_pagesOf 1 ∧ Cond.instanceMethod mm_Te_pagesOf.1 ∈ WS ∧ Cond.selects "AreaWarnings$Texts" mm_Te_pagesOf.1 mm_Te_pagesOf.1 ∈ WS ∧ 7 < 100 := ⟨⟨Or.inl (in_at 169 (by decide +kernel)), in_at 172 (by decide +kernel), rfl, by decide +kernel, by decide, ⟨by decide +kernel, by decide +kernel⟩, by decide +kernel⟩, in_at 170 (by decide +kernel), in_at 171 (by decide +kernel), by decide⟩
theorem cv_Ce_109 : CW WS "AreaWarnings$Cell" 109 mm_Te_bytesOfPage 2 ∧ Cond.instanceMethod mm_Te_bytesOfPage.1 ∈ WS ∧ Cond.selects "AreaWarnings$Texts" mm_Te_bytesOfPage.1 mm_Te_bytesOfPage.1 ∈ WS ∧ 7 < 100 := ⟨⟨Or.inl (in_at 737 (by decide +kernel)), in_at 740 (by decide +kernel), rfl, by decide +kernel, by decide, ⟨by decide +kernel, by decide +kernel⟩, by decide +kernel⟩, in_at 738 (by decide +kernel), in_at 739 (by decide +kernel), by decide⟩
theorem ob_Ha_3 : Cond.methodLink "AreaWarnings$Handset" 3 Lib.objectInit ∈ WS ∧ Cond.instanceMethod Lib.objectInit ∈ WS ∧ Cond.code Lib.objectInit ⟨#[0xb1]⟩ 1 none ∈ WS := ⟨in_at 632 (by decide +kernel), in_at 26 (by decide +kernel), in_at 27 (by decide +kernel)⟩
theorem cv_Ha_73 : CW WS "AreaWarnings$Handset" 73 mm_Ha_hear 4 ∧ Cond.instanceMethod mm_Ha_hear.1 ∈ WS ∧ Cond.selects "AreaWarnings$Handset" mm_Ha_hear.1 mm_Ha_hear.1 ∈ WS ∧ 4 < 100 := ⟨⟨Or.inl (in_at 185 (by decide +kernel)), in_at 189 (by decide +kernel), rfl, by decide +kernel, by decide, ⟨by decide +kernel, by decide +kernel⟩, by decide +kernel⟩, in_at 187 (by decide +kernel), in_at 1127 (by decide +kernel), by decide⟩
theorem cs_Ha_89 : CW WS "AreaWarnings$Handset" 89 mm_Ha_pageBits 2 ∧ Cond.static mm_Ha_pageBits.1 ∈ WS ∧ Cond.initialized mm_Ha_pageBits.1.cls ∈ WS := ⟨⟨Or.inl (in_at 191 (by decide +kernel)), in_at 193 (by decide +kernel), rfl, by decide +kernel, by decide, ⟨by decide +kernel, by decide +kernel⟩, by decide +kernel⟩, in_at 192 (by decide +kernel), in_at 18 (by decide +kernel)⟩
theorem cv_Ha_93 : CW WS "AreaWarnings$Handset" 93 mm_Ha_showIfWhole 2 ∧ Cond.instanceMethod mm_Ha_showIfWhole.1 ∈ WS ∧ Cond.selects "AreaWarnings$Handset" mm_Ha_showIfWhole.1 mm_Ha_showIfWhole.1 ∈ WS ∧ 4 < 100 := ⟨⟨Or.inl (in_at 194 (by decide +kernel)), in_at 197 (by decide +kernel), rfl, by decide +kernel, by decide, ⟨by decide +kernel, by decide +kernel⟩, by decide +kernel⟩, in_at 196 (by decide +kernel), in_at 1128 (by decide +kernel), by decide⟩
theorem cv_Ha_102 : CW WS "AreaWarnings$Handset" 102 mm_Ha_choose 1 ∧ Cond.instanceMethod mm_Ha_choose.1 ∈ WS ∧ Cond.selects "AreaWarnings$Handset" mm_Ha_choose.1 mm_Ha_choose.1 ∈ WS ∧ 4 < 100 := ⟨⟨Or.inl (in_at 198 (by decide +kernel)), in_at 201 (by decide +kernel), rfl, by decide +kernel, by decide, ⟨by decide +kernel, by decide +kernel⟩, by decide +kernel⟩, in_at 200 (by decide +kernel), in_at 1129 (by decide +kernel), by decide⟩
theorem cv_Ha_106 : CW WS "AreaWarnings$Handset" 106 mm_Te_pagesOf 1 ∧ Cond.instanceMethod mm_Te_pagesOf.1 ∈ WS ∧ Cond.selects "AreaWarnings$Texts" mm_Te_pagesOf.1 mm_Te_pagesOf.1 ∈ WS ∧ 7 < 100 := ⟨⟨Or.inl (in_at 206 (by decide +kernel)), in_at 172 (by decide +kernel), rfl, by decide +kernel, by decide, ⟨by decide +kernel, by decide +kernel⟩, by decide +kernel⟩, in_at 170 (by decide +kernel), in_at 171 (by decide +kernel), by decide⟩
theorem cv_Ha_115 : CW WS "AreaWarnings$Handset" 115 mm_Te_offers 1 ∧ Cond.instanceMethod mm_Te_offers.1 ∈ WS ∧ Cond.selects "AreaWarnings$Texts" mm_Te_offers.1 mm_Te_offers.1 ∈ WS ∧ 7 < 100 := ⟨⟨Or.inl (in_at 202 (by decide +kernel)), in_at 205 (by decide +kernel), rfl, by decide +kernel, by decide, ⟨by decide +kernel, by decide +kernel⟩, by decide +kernel⟩, in_at 203 (by decide +kernel), in_at 204 (by decide +kernel), by decide⟩
theorem ob_Me_1 : Cond.methodLink "AreaWarnings$Message" 1 Lib.objectInit ∈ WS ∧ Cond.instanceMethod Lib.objectInit ∈ WS ∧ Cond.code Lib.objectInit ⟨#[0xb1]⟩ 1 none ∈ WS := ⟨in_at 39 (by decide +kernel), in_at 26 (by decide +kernel), in_at 27 (by decide +kernel)⟩
theorem ci_Me_9 : CW WS "AreaWarnings$Message" 9 mm_Ar_init 0 ∧ Cond.instanceMethod mm_Ar_init.1 ∈ WS ∧ mm_Ar_init.1.name = "<init>" ∧ mm_Ar_init.2.2.2.1 = none := ⟨⟨Or.inl (in_at 42 (by decide +kernel)), in_at 44 (by decide +kernel), rfl, by decide +kernel, by decide, ⟨by decide +kernel, by decide +kernel⟩, by decide +kernel⟩, in_at 43 (by decide +kernel), rfl, rfl⟩
theorem ci_Me_18 : CW WS "AreaWarnings$Message" 18 mm_Te_init 0 ∧ Cond.instanceMethod mm_Te_init.1 ∈ WS ∧ mm_Te_init.1.name = "<init>" ∧ mm_Te_init.2.2.2.1 = none := ⟨⟨Or.inl (in_at 60 (by decide +kernel)), in_at 62 (by decide +kernel), rfl, by decide +kernel, by decide, ⟨by decide +kernel, by decide +kernel⟩, by decide +kernel⟩, in_at 61 (by decide +kernel), rfl, rfl⟩
theorem cv_Me_23 : CW WS "AreaWarnings$Message" 23 mm_Te_byteCount 0 ∧ Cond.instanceMethod mm_Te_byteCount.1 ∈ WS ∧ Cond.selects "AreaWarnings$Texts" mm_Te_byteCount.1 mm_Te_byteCount.1 ∈ WS ∧ 7 < 100 := ⟨⟨Or.inl (in_at 441 (by decide +kernel)), in_at 122 (by decide +kernel), rfl, by decide +kernel, by decide, ⟨by decide +kernel, by decide +kernel⟩, by decide +kernel⟩, in_at 120 (by decide +kernel), in_at 121 (by decide +kernel), by decide⟩
theorem cv_Me_27 : CW WS "AreaWarnings$Message" 27 mm_Ar_isSimple 0 ∧ Cond.instanceMethod mm_Ar_isSimple.1 ∈ WS ∧ Cond.selects "AreaWarnings$Area" mm_Ar_isSimple.1 mm_Ar_isSimple.1 ∈ WS ∧ 1 < 100 := ⟨⟨Or.inl (in_at 442 (by decide +kernel)), in_at 445 (by decide +kernel), rfl, by decide +kernel, by decide, ⟨by decide +kernel, by decide +kernel⟩, by decide +kernel⟩, in_at 443 (by decide +kernel), in_at 444 (by decide +kernel), by decide⟩
theorem ci_Sp_3 : CW WS "AreaWarnings$Spoken" 3 mm_Ve_init 3 ∧ Cond.instanceMethod mm_Ve_init.1 ∈ WS ∧ mm_Ve_init.1.name = "<init>" ∧ mm_Ve_init.2.2.2.1 = none := ⟨⟨Or.inl (in_at 510 (by decide +kernel)), in_at 512 (by decide +kernel), rfl, by decide +kernel, by decide, ⟨by decide +kernel, by decide +kernel⟩, by decide +kernel⟩, in_at 511 (by decide +kernel), rfl, rfl⟩
theorem cv_Sp_48 : CW WS "AreaWarnings$Spoken" 48 mm_Ar_reaches 3 ∧ Cond.instanceMethod mm_Ar_reaches.1 ∈ WS ∧ Cond.selects "AreaWarnings$Area" mm_Ar_reaches.1 mm_Ar_reaches.1 ∈ WS ∧ 1 < 100 := ⟨⟨Or.inl (in_at 374 (by decide +kernel)), in_at 377 (by decide +kernel), rfl, by decide +kernel, by decide, ⟨by decide +kernel, by decide +kernel⟩, by decide +kernel⟩, in_at 375 (by decide +kernel), in_at 376 (by decide +kernel), by decide⟩
theorem ob_Te_3 : Cond.methodLink "AreaWarnings$Texts" 3 Lib.objectInit ∈ WS ∧ Cond.instanceMethod Lib.objectInit ∈ WS ∧ Cond.code Lib.objectInit ⟨#[0xb1]⟩ 1 none ∈ WS := ⟨in_at 63 (by decide +kernel), in_at 26 (by decide +kernel), in_at 27 (by decide +kernel)⟩
theorem ma_Te_20 : MN WS "AreaWarnings$Texts" 20 := ⟨in_at 741 (by decide +kernel), in_at 465 (by decide +kernel), in_at 12 (by decide +kernel), in_at 466 (by decide +kernel)⟩
theorem ob_Ve_1 : Cond.methodLink "AreaWarnings$Version" 1 Lib.objectInit ∈ WS ∧ Cond.instanceMethod Lib.objectInit ∈ WS ∧ Cond.code Lib.objectInit ⟨#[0xb1]⟩ 1 none ∈ WS := ⟨in_at 513 (by decide +kernel), in_at 26 (by decide +kernel), in_at 27 (by decide +kernel)⟩
theorem ob_Wa_1 : Cond.methodLink "AreaWarnings$Warning" 1 Lib.objectInit ∈ WS ∧ Cond.instanceMethod Lib.objectInit ∈ WS ∧ Cond.code Lib.objectInit ⟨#[0xb1]⟩ 1 none ∈ WS := ⟨in_at 486 (by decide +kernel), in_at 26 (by decide +kernel), in_at 27 (by decide +kernel)⟩
theorem cv_La_7 : CW WS "AreaWarningsLaw" 7 mm_AW_cell 3 ∧ Cond.instanceMethod mm_AW_cell.1 ∈ WS ∧ Cond.selects "AreaWarnings" mm_AW_cell.1 mm_AW_cell.1 ∈ WS ∧ 0 < 100 := ⟨⟨Or.inl (in_at 224 (by decide +kernel)), in_at 227 (by decide +kernel), rfl, by decide +kernel, by decide, ⟨by decide +kernel, by decide +kernel⟩, by decide +kernel⟩, in_at 225 (by decide +kernel), in_at 226 (by decide +kernel), by decide⟩
theorem cv_La_17 : CW WS "AreaWarningsLaw" 17 mm_AW_corner 2 ∧ Cond.instanceMethod mm_AW_corner.1 ∈ WS ∧ Cond.selects "AreaWarnings" mm_AW_corner.1 mm_AW_corner.1 ∈ WS ∧ 0 < 100 := ⟨⟨Or.inl (in_at 401 (by decide +kernel)), in_at 404 (by decide +kernel), rfl, by decide +kernel, by decide, ⟨by decide +kernel, by decide +kernel⟩, by decide +kernel⟩, in_at 402 (by decide +kernel), in_at 403 (by decide +kernel), by decide⟩
theorem cv_La_21 : CW WS "AreaWarningsLaw" 21 mm_AW_text 2 ∧ Cond.instanceMethod mm_AW_text.1 ∈ WS ∧ Cond.selects "AreaWarnings" mm_AW_text.1 mm_AW_text.1 ∈ WS ∧ 0 < 100 := ⟨⟨Or.inl (in_at 412 (by decide +kernel)), in_at 415 (by decide +kernel), rfl, by decide +kernel, by decide, ⟨by decide +kernel, by decide +kernel⟩, by decide +kernel⟩, in_at 413 (by decide +kernel), in_at 414 (by decide +kernel), by decide⟩
theorem cv_La_24 : CW WS "AreaWarningsLaw" 24 mm_AW_issue 5 ∧ Cond.instanceMethod mm_AW_issue.1 ∈ WS ∧ Cond.selects "AreaWarnings" mm_AW_issue.1 mm_AW_issue.1 ∈ WS ∧ 0 < 100 := ⟨⟨Or.inl (in_at 427 (by decide +kernel)), in_at 430 (by decide +kernel), rfl, by decide +kernel, by decide, ⟨by decide +kernel, by decide +kernel⟩, by decide +kernel⟩, in_at 428 (by decide +kernel), in_at 429 (by decide +kernel), by decide⟩
theorem cv_La_30 : CW WS "AreaWarningsLaw" 30 mm_AW_update 4 ∧ Cond.instanceMethod mm_AW_update.1 ∈ WS ∧ Cond.selects "AreaWarnings" mm_AW_update.1 mm_AW_update.1 ∈ WS ∧ 0 < 100 := ⟨⟨Or.inl (in_at 573 (by decide +kernel)), in_at 576 (by decide +kernel), rfl, by decide +kernel, by decide, ⟨by decide +kernel, by decide +kernel⟩, by decide +kernel⟩, in_at 574 (by decide +kernel), in_at 575 (by decide +kernel), by decide⟩
theorem cv_La_34 : CW WS "AreaWarningsLaw" 34 mm_AW_cancel 1 ∧ Cond.instanceMethod mm_AW_cancel.1 ∈ WS ∧ Cond.selects "AreaWarnings" mm_AW_cancel.1 mm_AW_cancel.1 ∈ WS ∧ 0 < 100 := ⟨⟨Or.inl (in_at 585 (by decide +kernel)), in_at 588 (by decide +kernel), rfl, by decide +kernel, by decide, ⟨by decide +kernel, by decide +kernel⟩, by decide +kernel⟩, in_at 586 (by decide +kernel), in_at 587 (by decide +kernel), by decide⟩
theorem cv_La_38 : CW WS "AreaWarningsLaw" 38 mm_AW_line 2 ∧ Cond.instanceMethod mm_AW_line.1 ∈ WS ∧ Cond.selects "AreaWarnings" mm_AW_line.1 mm_AW_line.1 ∈ WS ∧ 0 < 100 := ⟨⟨Or.inl (in_at 603 (by decide +kernel)), in_at 606 (by decide +kernel), rfl, by decide +kernel, by decide, ⟨by decide +kernel, by decide +kernel⟩, by decide +kernel⟩, in_at 604 (by decide +kernel), in_at 605 (by decide +kernel), by decide⟩
theorem cv_La_44 : CW WS "AreaWarningsLaw" 44 mm_AW_handset 1 ∧ Cond.instanceMethod mm_AW_handset.1 ∈ WS ∧ Cond.selects "AreaWarnings" mm_AW_handset.1 mm_AW_handset.1 ∈ WS ∧ 0 < 100 := ⟨⟨Or.inl (in_at 625 (by decide +kernel)), in_at 628 (by decide +kernel), rfl, by decide +kernel, by decide, ⟨by decide +kernel, by decide +kernel⟩, by decide +kernel⟩, in_at 626 (by decide +kernel), in_at 627 (by decide +kernel), by decide⟩
theorem cv_La_47 : CW WS "AreaWarningsLaw" 47 mm_AW_likes 2 ∧ Cond.instanceMethod mm_AW_likes.1 ∈ WS ∧ Cond.selects "AreaWarnings" mm_AW_likes.1 mm_AW_likes.1 ∈ WS ∧ 0 < 100 := ⟨⟨Or.inl (in_at 686 (by decide +kernel)), in_at 689 (by decide +kernel), rfl, by decide +kernel, by decide, ⟨by decide +kernel, by decide +kernel⟩, by decide +kernel⟩, in_at 687 (by decide +kernel), in_at 688 (by decide +kernel), by decide⟩
theorem cv_La_50 : CW WS "AreaWarningsLaw" 50 mm_AW_camp 2 ∧ Cond.instanceMethod mm_AW_camp.1 ∈ WS ∧ Cond.selects "AreaWarnings" mm_AW_camp.1 mm_AW_camp.1 ∈ WS ∧ 0 < 100 := ⟨⟨Or.inl (in_at 701 (by decide +kernel)), in_at 704 (by decide +kernel), rfl, by decide +kernel, by decide, ⟨by decide +kernel, by decide +kernel⟩, by decide +kernel⟩, in_at 702 (by decide +kernel), in_at 703 (by decide +kernel), by decide⟩
theorem cv_La_53 : CW WS "AreaWarningsLaw" 53 mm_AW_miss 2 ∧ Cond.instanceMethod mm_AW_miss.1 ∈ WS ∧ Cond.selects "AreaWarnings" mm_AW_miss.1 mm_AW_miss.1 ∈ WS ∧ 0 < 100 := ⟨⟨Or.inl (in_at 708 (by decide +kernel)), in_at 711 (by decide +kernel), rfl, by decide +kernel, by decide, ⟨by decide +kernel, by decide +kernel⟩, by decide +kernel⟩, in_at 709 (by decide +kernel), in_at 710 (by decide +kernel), by decide⟩
theorem cv_La_56 : CW WS "AreaWarningsLaw" 56 mm_AW_covers 2 ∧ Cond.instanceMethod mm_AW_covers.1 ∈ WS ∧ Cond.selects "AreaWarnings" mm_AW_covers.1 mm_AW_covers.1 ∈ WS ∧ 0 < 100 := ⟨⟨Or.inl (in_at 715 (by decide +kernel)), in_at 718 (by decide +kernel), rfl, by decide +kernel, by decide, ⟨by decide +kernel, by decide +kernel⟩, by decide +kernel⟩, in_at 716 (by decide +kernel), in_at 717 (by decide +kernel), by decide⟩
theorem cv_La_60 : CW WS "AreaWarningsLaw" 60 mm_AW_listed 3 ∧ Cond.instanceMethod mm_AW_listed.1 ∈ WS ∧ Cond.selects "AreaWarnings" mm_AW_listed.1 mm_AW_listed.1 ∈ WS ∧ 0 < 100 := ⟨⟨Or.inl (in_at 722 (by decide +kernel)), in_at 725 (by decide +kernel), rfl, by decide +kernel, by decide, ⟨by decide +kernel, by decide +kernel⟩, by decide +kernel⟩, in_at 723 (by decide +kernel), in_at 724 (by decide +kernel), by decide⟩
theorem cv_La_63 : CW WS "AreaWarningsLaw" 63 mm_AW_sent 3 ∧ Cond.instanceMethod mm_AW_sent.1 ∈ WS ∧ Cond.selects "AreaWarnings" mm_AW_sent.1 mm_AW_sent.1 ∈ WS ∧ 0 < 100 := ⟨⟨Or.inl (in_at 729 (by decide +kernel)), in_at 732 (by decide +kernel), rfl, by decide +kernel, by decide, ⟨by decide +kernel, by decide +kernel⟩, by decide +kernel⟩, in_at 730 (by decide +kernel), in_at 731 (by decide +kernel), by decide⟩
theorem cv_La_66 : CW WS "AreaWarningsLaw" 66 mm_AW_shown 3 ∧ Cond.instanceMethod mm_AW_shown.1 ∈ WS ∧ Cond.selects "AreaWarnings" mm_AW_shown.1 mm_AW_shown.1 ∈ WS ∧ 0 < 100 := ⟨⟨Or.inl (in_at 745 (by decide +kernel)), in_at 748 (by decide +kernel), rfl, by decide +kernel, by decide, ⟨by decide +kernel, by decide +kernel⟩, by decide +kernel⟩, in_at 746 (by decide +kernel), in_at 747 (by decide +kernel), by decide⟩
theorem cv_La_69 : CW WS "AreaWarningsLaw" 69 mm_AW_shownByte 3 ∧ Cond.instanceMethod mm_AW_shownByte.1 ∈ WS ∧ Cond.selects "AreaWarnings" mm_AW_shownByte.1 mm_AW_shownByte.1 ∈ WS ∧ 0 < 100 := ⟨⟨Or.inl (in_at 760 (by decide +kernel)), in_at 763 (by decide +kernel), rfl, by decide +kernel, by decide, ⟨by decide +kernel, by decide +kernel⟩, by decide +kernel⟩, in_at 761 (by decide +kernel), in_at 762 (by decide +kernel), by decide⟩
theorem ob_Mo_1 : Cond.methodLink "AreaWarningsModel" 1 Lib.objectInit ∈ WS ∧ Cond.instanceMethod Lib.objectInit ∈ WS ∧ Cond.code Lib.objectInit ⟨#[0xb1]⟩ 1 none ∈ WS := ⟨in_at 769 (by decide +kernel), in_at 26 (by decide +kernel), in_at 27 (by decide +kernel)⟩
theorem cs_Mo_141 : CW WS "AreaWarningsModel" 141 mm_Mo_isPlace 1 ∧ Cond.static mm_Mo_isPlace.1 ∈ WS ∧ Cond.initialized mm_Mo_isPlace.1.cls ∈ WS := ⟨⟨Or.inl (in_at 926 (by decide +kernel)), in_at 928 (by decide +kernel), rfl, by decide +kernel, by decide, ⟨by decide +kernel, by decide +kernel⟩, by decide +kernel⟩, in_at 927 (by decide +kernel), in_at 5 (by decide +kernel)⟩
theorem cs_Mo_151 : CW WS "AreaWarningsModel" 151 mm_Mo_sign 1 ∧ Cond.static mm_Mo_sign.1 ∈ WS ∧ Cond.initialized mm_Mo_sign.1.cls ∈ WS := ⟨⟨Or.inl (in_at 964 (by decide +kernel)), in_at 966 (by decide +kernel), rfl, by decide +kernel, by decide, ⟨by decide +kernel, by decide +kernel⟩, by decide +kernel⟩, in_at 965 (by decide +kernel), in_at 5 (by decide +kernel)⟩
theorem cv_Mo_155 : CW WS "AreaWarningsModel" 155 mm_Mo_turn 3 ∧ Cond.instanceMethod mm_Mo_turn.1 ∈ WS ∧ Cond.selects "AreaWarningsModel" mm_Mo_turn.1 mm_Mo_turn.1 ∈ WS ∧ 9 < 100 := ⟨⟨Or.inl (in_at 960 (by decide +kernel)), in_at 963 (by decide +kernel), rfl, by decide +kernel, by decide, ⟨by decide +kernel, by decide +kernel⟩, by decide +kernel⟩, in_at 962 (by decide +kernel), in_at 1147 (by decide +kernel), by decide⟩
theorem cv_Mo_159 : CW WS "AreaWarningsModel" 159 mm_Mo_isBetween 3 ∧ Cond.instanceMethod mm_Mo_isBetween.1 ∈ WS ∧ Cond.selects "AreaWarningsModel" mm_Mo_isBetween.1 mm_Mo_isBetween.1 ∈ WS ∧ 9 < 100 := ⟨⟨Or.inl (in_at 971 (by decide +kernel)), in_at 974 (by decide +kernel), rfl, by decide +kernel, by decide, ⟨by decide +kernel, by decide +kernel⟩, by decide +kernel⟩, in_at 973 (by decide +kernel), in_at 1149 (by decide +kernel), by decide⟩
theorem cv_Mo_163 : CW WS "AreaWarningsModel" 163 mm_Mo_fold 3 ∧ Cond.instanceMethod mm_Mo_fold.1 ∈ WS ∧ Cond.selects "AreaWarningsModel" mm_Mo_fold.1 mm_Mo_fold.1 ∈ WS ∧ 9 < 100 := ⟨⟨Or.inl (in_at 956 (by decide +kernel)), in_at 959 (by decide +kernel), rfl, by decide +kernel, by decide, ⟨by decide +kernel, by decide +kernel⟩, by decide +kernel⟩, in_at 958 (by decide +kernel), in_at 1146 (by decide +kernel), by decide⟩
theorem cv_Mo_166 : CW WS "AreaWarningsModel" 166 mm_Mo_meet 4 ∧ Cond.instanceMethod mm_Mo_meet.1 ∈ WS ∧ Cond.selects "AreaWarningsModel" mm_Mo_meet.1 mm_Mo_meet.1 ∈ WS ∧ 9 < 100 := ⟨⟨Or.inl (in_at 967 (by decide +kernel)), in_at 970 (by decide +kernel), rfl, by decide +kernel, by decide, ⟨by decide +kernel, by decide +kernel⟩, by decide +kernel⟩, in_at 969 (by decide +kernel), in_at 1148 (by decide +kernel), by decide⟩
theorem cs_Mo_170 : CW WS "AreaWarningsModel" 170 mm_Mo_square 1 ∧ Cond.static mm_Mo_square.1 ∈ WS ∧ Cond.initialized mm_Mo_square.1.cls ∈ WS := ⟨⟨Or.inl (in_at 1004 (by decide +kernel)), in_at 1006 (by decide +kernel), rfl, by decide +kernel, by decide, ⟨by decide +kernel, by decide +kernel⟩, by decide +kernel⟩, in_at 1005 (by decide +kernel), in_at 5 (by decide +kernel)⟩
theorem cv_Mo_174 : CW WS "AreaWarningsModel" 174 mm_Mo_isIn 2 ∧ Cond.instanceMethod mm_Mo_isIn.1 ∈ WS ∧ Cond.selects "AreaWarningsModel" mm_Mo_isIn.1 mm_Mo_isIn.1 ∈ WS ∧ 9 < 100 := ⟨⟨Or.inl (in_at 996 (by decide +kernel)), in_at 999 (by decide +kernel), rfl, by decide +kernel, by decide, ⟨by decide +kernel, by decide +kernel⟩, by decide +kernel⟩, in_at 998 (by decide +kernel), in_at 1155 (by decide +kernel), by decide⟩
theorem cv_Mo_178 : CW WS "AreaWarningsModel" 178 mm_Mo_isNear 3 ∧ Cond.instanceMethod mm_Mo_isNear.1 ∈ WS ∧ Cond.selects "AreaWarningsModel" mm_Mo_isNear.1 mm_Mo_isNear.1 ∈ WS ∧ 9 < 100 := ⟨⟨Or.inl (in_at 1000 (by decide +kernel)), in_at 1003 (by decide +kernel), rfl, by decide +kernel, by decide, ⟨by decide +kernel, by decide +kernel⟩, by decide +kernel⟩, in_at 1002 (by decide +kernel), in_at 1156 (by decide +kernel), by decide⟩
theorem cv_Mo_181 : CW WS "AreaWarningsModel" 181 mm_Mo_isCovered 2 ∧ Cond.instanceMethod mm_Mo_isCovered.1 ∈ WS ∧ Cond.selects "AreaWarningsModel" mm_Mo_isCovered.1 mm_Mo_isCovered.1 ∈ WS ∧ 9 < 100 := ⟨⟨Or.inl (in_at 992 (by decide +kernel)), in_at 995 (by decide +kernel), rfl, by decide +kernel, by decide, ⟨by decide +kernel, by decide +kernel⟩, by decide +kernel⟩, in_at 994 (by decide +kernel), in_at 1154 (by decide +kernel), by decide⟩
theorem cv_Mo_190 : CW WS "AreaWarningsModel" 190 mm_Mo_isSimple 0 ∧ Cond.instanceMethod mm_Mo_isSimple.1 ∈ WS ∧ Cond.selects "AreaWarningsModel" mm_Mo_isSimple.1 mm_Mo_isSimple.1 ∈ WS ∧ 9 < 100 := ⟨⟨Or.inl (in_at 952 (by decide +kernel)), in_at 955 (by decide +kernel), rfl, by decide +kernel, by decide, ⟨by decide +kernel, by decide +kernel⟩, by decide +kernel⟩, in_at 954 (by decide +kernel), in_at 1145 (by decide +kernel), by decide⟩
theorem cv_Mo_197 : CW WS "AreaWarningsModel" 197 mm_Mo_clear 0 ∧ Cond.instanceMethod mm_Mo_clear.1 ∈ WS ∧ Cond.selects "AreaWarningsModel" mm_Mo_clear.1 mm_Mo_clear.1 ∈ WS ∧ 9 < 100 := ⟨⟨Or.inl (in_at 987 (by decide +kernel)), in_at 940 (by decide +kernel), rfl, by decide +kernel, by decide, ⟨by decide +kernel, by decide +kernel⟩, by decide +kernel⟩, in_at 938 (by decide +kernel), in_at 939 (by decide +kernel), by decide⟩
theorem cv_Mo_201 : CW WS "AreaWarningsModel" 201 mm_Mo_covered 1 ∧ Cond.instanceMethod mm_Mo_covered.1 ∈ WS ∧ Cond.selects "AreaWarningsModel" mm_Mo_covered.1 mm_Mo_covered.1 ∈ WS ∧ 9 < 100 := ⟨⟨Or.inl (in_at 988 (by decide +kernel)), in_at 991 (by decide +kernel), rfl, by decide +kernel, by decide, ⟨by decide +kernel, by decide +kernel⟩, by decide +kernel⟩, in_at 990 (by decide +kernel), in_at 1153 (by decide +kernel), by decide⟩
theorem cs_Mo_204 : CW WS "AreaWarningsModel" 204 mm_Mo_isSpan 2 ∧ Cond.static mm_Mo_isSpan.1 ∈ WS ∧ Cond.initialized mm_Mo_isSpan.1.cls ∈ WS := ⟨⟨Or.inl (in_at 945 (by decide +kernel)), in_at 947 (by decide +kernel), rfl, by decide +kernel, by decide, ⟨by decide +kernel, by decide +kernel⟩, by decide +kernel⟩, in_at 946 (by decide +kernel), in_at 5 (by decide +kernel)⟩
theorem cv_Mo_207 : CW WS "AreaWarningsModel" 207 mm_Mo_isSaid 0 ∧ Cond.instanceMethod mm_Mo_isSaid.1 ∈ WS ∧ Cond.selects "AreaWarningsModel" mm_Mo_isSaid.1 mm_Mo_isSaid.1 ∈ WS ∧ 9 < 100 := ⟨⟨Or.inl (in_at 948 (by decide +kernel)), in_at 951 (by decide +kernel), rfl, by decide +kernel, by decide, ⟨by decide +kernel, by decide +kernel⟩, by decide +kernel⟩, in_at 950 (by decide +kernel), in_at 1144 (by decide +kernel), by decide⟩
theorem cv_Mo_210 : CW WS "AreaWarningsModel" 210 mm_Mo_find 1 ∧ Cond.instanceMethod mm_Mo_find.1 ∈ WS ∧ Cond.selects "AreaWarningsModel" mm_Mo_find.1 mm_Mo_find.1 ∈ WS ∧ 9 < 100 := ⟨⟨Or.inl (in_at 975 (by decide +kernel)), in_at 978 (by decide +kernel), rfl, by decide +kernel, by decide, ⟨by decide +kernel, by decide +kernel⟩, by decide +kernel⟩, in_at 977 (by decide +kernel), in_at 1150 (by decide +kernel), by decide⟩
theorem cv_Mo_213 : CW WS "AreaWarningsModel" 213 mm_Mo_make 5 ∧ Cond.instanceMethod mm_Mo_make.1 ∈ WS ∧ Cond.selects "AreaWarningsModel" mm_Mo_make.1 mm_Mo_make.1 ∈ WS ∧ 9 < 100 := ⟨⟨Or.inl (in_at 979 (by decide +kernel)), in_at 982 (by decide +kernel), rfl, by decide +kernel, by decide, ⟨by decide +kernel, by decide +kernel⟩, by decide +kernel⟩, in_at 981 (by decide +kernel), in_at 1151 (by decide +kernel), by decide⟩
theorem cv_Mo_217 : CW WS "AreaWarningsModel" 217 mm_Mo_fill 3 ∧ Cond.instanceMethod mm_Mo_fill.1 ∈ WS ∧ Cond.selects "AreaWarningsModel" mm_Mo_fill.1 mm_Mo_fill.1 ∈ WS ∧ 9 < 100 := ⟨⟨Or.inl (in_at 983 (by decide +kernel)), in_at 986 (by decide +kernel), rfl, by decide +kernel, by decide, ⟨by decide +kernel, by decide +kernel⟩, by decide +kernel⟩, in_at 985 (by decide +kernel), in_at 1152 (by decide +kernel), by decide⟩
theorem cv_Mo_220 : CW WS "AreaWarningsModel" 220 mm_Mo_isLive 1 ∧ Cond.instanceMethod mm_Mo_isLive.1 ∈ WS ∧ Cond.selects "AreaWarningsModel" mm_Mo_isLive.1 mm_Mo_isLive.1 ∈ WS ∧ 9 < 100 := ⟨⟨Or.inl (in_at 1011 (by decide +kernel)), in_at 1014 (by decide +kernel), rfl, by decide +kernel, by decide, ⟨by decide +kernel, by decide +kernel⟩, by decide +kernel⟩, in_at 1013 (by decide +kernel), in_at 1157 (by decide +kernel), by decide⟩
theorem cv_Mo_223 : CW WS "AreaWarningsModel" 223 mm_Mo_isListed 2 ∧ Cond.instanceMethod mm_Mo_isListed.1 ∈ WS ∧ Cond.selects "AreaWarningsModel" mm_Mo_isListed.1 mm_Mo_isListed.1 ∈ WS ∧ 9 < 100 := ⟨⟨Or.inl (in_at 1027 (by decide +kernel)), in_at 1030 (by decide +kernel), rfl, by decide +kernel, by decide, ⟨by decide +kernel, by decide +kernel⟩, by decide +kernel⟩, in_at 1029 (by decide +kernel), in_at 1159 (by decide +kernel), by decide⟩
theorem cv_Mo_226 : CW WS "AreaWarningsModel" 226 mm_Mo_insert 2 ∧ Cond.instanceMethod mm_Mo_insert.1 ∈ WS ∧ Cond.selects "AreaWarningsModel" mm_Mo_insert.1 mm_Mo_insert.1 ∈ WS ∧ 9 < 100 := ⟨⟨Or.inl (in_at 1031 (by decide +kernel)), in_at 1034 (by decide +kernel), rfl, by decide +kernel, by decide, ⟨by decide +kernel, by decide +kernel⟩, by decide +kernel⟩, in_at 1033 (by decide +kernel), in_at 1160 (by decide +kernel), by decide⟩
theorem cv_Mo_230 : CW WS "AreaWarningsModel" 230 mm_Mo_page 4 ∧ Cond.instanceMethod mm_Mo_page.1 ∈ WS ∧ Cond.selects "AreaWarningsModel" mm_Mo_page.1 mm_Mo_page.1 ∈ WS ∧ 9 < 100 := ⟨⟨Or.inl (in_at 1039 (by decide +kernel)), in_at 1042 (by decide +kernel), rfl, by decide +kernel, by decide, ⟨by decide +kernel, by decide +kernel⟩, by decide +kernel⟩, in_at 1041 (by decide +kernel), in_at 1162 (by decide +kernel), by decide⟩
theorem cv_Mo_234 : CW WS "AreaWarningsModel" 234 mm_Mo_pagesOf 2 ∧ Cond.instanceMethod mm_Mo_pagesOf.1 ∈ WS ∧ Cond.selects "AreaWarningsModel" mm_Mo_pagesOf.1 mm_Mo_pagesOf.1 ∈ WS ∧ 9 < 100 := ⟨⟨Or.inl (in_at 1043 (by decide +kernel)), in_at 1046 (by decide +kernel), rfl, by decide +kernel, by decide, ⟨by decide +kernel, by decide +kernel⟩, by decide +kernel⟩, in_at 1045 (by decide +kernel), in_at 1163 (by decide +kernel), by decide⟩
theorem cv_Mo_238 : CW WS "AreaWarningsModel" 238 mm_Mo_chosen 2 ∧ Cond.instanceMethod mm_Mo_chosen.1 ∈ WS ∧ Cond.selects "AreaWarningsModel" mm_Mo_chosen.1 mm_Mo_chosen.1 ∈ WS ∧ 9 < 100 := ⟨⟨Or.inl (in_at 1051 (by decide +kernel)), in_at 1054 (by decide +kernel), rfl, by decide +kernel, by decide, ⟨by decide +kernel, by decide +kernel⟩, by decide +kernel⟩, in_at 1053 (by decide +kernel), in_at 1165 (by decide +kernel), by decide⟩
theorem cv_Mo_241 : CW WS "AreaWarningsModel" 241 mm_Mo_relist 1 ∧ Cond.instanceMethod mm_Mo_relist.1 ∈ WS ∧ Cond.selects "AreaWarningsModel" mm_Mo_relist.1 mm_Mo_relist.1 ∈ WS ∧ 9 < 100 := ⟨⟨Or.inl (in_at 1023 (by decide +kernel)), in_at 1026 (by decide +kernel), rfl, by decide +kernel, by decide, ⟨by decide +kernel, by decide +kernel⟩, by decide +kernel⟩, in_at 1025 (by decide +kernel), in_at 1158 (by decide +kernel), by decide⟩
theorem cv_Mo_245 : CW WS "AreaWarningsModel" 245 mm_Mo_sendAll 1 ∧ Cond.instanceMethod mm_Mo_sendAll.1 ∈ WS ∧ Cond.selects "AreaWarningsModel" mm_Mo_sendAll.1 mm_Mo_sendAll.1 ∈ WS ∧ 9 < 100 := ⟨⟨Or.inl (in_at 1035 (by decide +kernel)), in_at 1038 (by decide +kernel), rfl, by decide +kernel, by decide, ⟨by decide +kernel, by decide +kernel⟩, by decide +kernel⟩, in_at 1037 (by decide +kernel), in_at 1161 (by decide +kernel), by decide⟩
theorem cv_Mo_251 : CW WS "AreaWarningsModel" 251 mm_Mo_hear 4 ∧ Cond.instanceMethod mm_Mo_hear.1 ∈ WS ∧ Cond.selects "AreaWarningsModel" mm_Mo_hear.1 mm_Mo_hear.1 ∈ WS ∧ 9 < 100 := ⟨⟨Or.inl (in_at 1047 (by decide +kernel)), in_at 1050 (by decide +kernel), rfl, by decide +kernel, by decide, ⟨by decide +kernel, by decide +kernel⟩, by decide +kernel⟩, in_at 1049 (by decide +kernel), in_at 1164 (by decide +kernel), by decide⟩
theorem cv_Mo_254 : CW WS "AreaWarningsModel" 254 mm_Mo_isCell 1 ∧ Cond.instanceMethod mm_Mo_isCell.1 ∈ WS ∧ Cond.selects "AreaWarningsModel" mm_Mo_isCell.1 mm_Mo_isCell.1 ∈ WS ∧ 9 < 100 := ⟨⟨Or.inl (in_at 1059 (by decide +kernel)), in_at 1062 (by decide +kernel), rfl, by decide +kernel, by decide, ⟨by decide +kernel, by decide +kernel⟩, by decide +kernel⟩, in_at 1061 (by decide +kernel), in_at 1166 (by decide +kernel), by decide⟩
theorem cv_Mo_257 : CW WS "AreaWarningsModel" 257 mm_Mo_isHandset 1 ∧ Cond.instanceMethod mm_Mo_isHandset.1 ∈ WS ∧ Cond.selects "AreaWarningsModel" mm_Mo_isHandset.1 mm_Mo_isHandset.1 ∈ WS ∧ 9 < 100 := ⟨⟨Or.inl (in_at 1071 (by decide +kernel)), in_at 1074 (by decide +kernel), rfl, by decide +kernel, by decide, ⟨by decide +kernel, by decide +kernel⟩, by decide +kernel⟩, in_at 1073 (by decide +kernel), in_at 1167 (by decide +kernel), by decide⟩
theorem cv_Mo_260 : CW WS "AreaWarningsModel" 260 mm_Mo_isCurrent 2 ∧ Cond.instanceMethod mm_Mo_isCurrent.1 ∈ WS ∧ Cond.selects "AreaWarningsModel" mm_Mo_isCurrent.1 mm_Mo_isCurrent.1 ∈ WS ∧ 9 < 100 := ⟨⟨Or.inl (in_at 1103 (by decide +kernel)), in_at 1106 (by decide +kernel), rfl, by decide +kernel, by decide, ⟨by decide +kernel, by decide +kernel⟩, by decide +kernel⟩, in_at 1105 (by decide +kernel), in_at 1168 (by decide +kernel), by decide⟩
end
section
def tt_AW_init : List (Nat × Instr × Nat) := [(0, .aload_n 0, 1), (1, .invokespecial 3, 3), (4, .aload_n 0, 1), (5, .iconst 0, 1), (6, .putfield 9, 3), (9, .aload_n 0, 1), (10, .bipush 8, 2), (12, .anewarray 13, 3), (15, .putfield 15, 3), (18, .aload_n 0, 1), (19, .iconst 0, 1), (20, .putfield 19, 3), (23, .aload_n 0, 1), (24, .bipush 12, 2), (26, .anewarray 22, 3), (29, .putfield 24, 3), (32, .aload_n 0, 1), (33, .iconst 0, 1), (34, .putfield 28, 3), (37, .aload_n 0, 1), (38, .iconst 0, 1), (39, .putfield 31, 3), (42, .aload_n 0, 1), (43, .iconst 3, 1), (44, .anewarray 34, 3), (47, .putfield 36, 3), (50, .aload_n 0, 1), (51, .iconst 0, 1), (52, .putfield 40, 3), (55, .aload_n 0, 1), (56, .new 43, 3), (59, .dup, 1), (60, .invokespecial 45, 3), (63, .putfield 46, 3), (66, .return_, 1)]
theorem cd_AW_init : ∀ r ∈ tt_AW_init, decode prog_1_method_1_code r.1 = .ok (r.2.1, r.2.2) := by decide +kernel
def tt_AW_cell : List (Nat × Instr × Nat) := [(0, .iload_n 1, 1), (1, .invokestatic 50, 3), (4, .ifCond .eq 22, 3), (7, .iload_n 2, 1), (8, .invokestatic 50, 3), (11, .ifCond .eq 15, 3), (14, .iload_n 3, 1), (15, .iconst 1, 1), (16, .if_icmp .lt 10, 3), (19, .iload_n 3, 1), (20, .sipush 2000, 3), (23, .if_icmp .le 11, 3), (26, .new 54, 3), (29, .dup, 1), (30, .invokespecial 56, 3), (33, .athrow, 1), (34, .aload_n 0, 1), (35, .getfield 19, 3), (38, .bipush 8, 2), (40, .if_icmp .ne 11, 3), (43, .new 57, 3), (46, .dup, 1), (47, .invokespecial 59, 3), (50, .athrow, 1), (51, .new 13, 3), (54, .dup, 1), (55, .aload_n 0, 1), (56, .getfield 19, 3), (59, .iload_n 1, 1), (60, .iload_n 2, 1), (61, .iload_n 3, 1), (62, .invokespecial 60, 3), (65, .astore 4, 2), (67, .aload_n 0, 1), (68, .getfield 15, 3), (71, .aload_n 0, 1), (72, .getfield 19, 3), (75, .aload 4, 2), (77, .aastore, 1), (78, .aload_n 0, 1), (79, .dup, 1), (80, .getfield 19, 3), (83, .iconst 1, 1), (84, .iadd, 1), (85, .putfield 19, 3), (88, .iconst 0, 1), (89, .istore 5, 2), (91, .iload 5, 2), (93, .aload_n 0, 1), (94, .getfield 28, 3), (97, .if_icmp .ge 44, 3), (100, .aload_n 0, 1), (101, .getfield 24, 3), (104, .iload 5, 2), (106, .aaload, 1), (107, .getfield 63, 3), (110, .astore 7, 2), (112, .aload 7, 2), (114, .instanceof 67, 3), (117, .ifCond .eq 18, 3), (120, .aload 7, 2), (122, .checkcast 67, 3), (125, .astore 6, 2), (127, .aload 6, 2), (129, .aload 4, 2), (131, .invokevirtual 69, 3), (134, .pop, 1), (135, .iinc 5 1, 3), (138, .goto (-47), 3), (141, .aload 4, 2), (143, .getfield 73, 3), (146, .ireturn, 1)]
theorem cd_AW_cell : ∀ r ∈ tt_AW_cell, decode prog_1_method_2_code r.1 = .ok (r.2.1, r.2.2) := by decide +kernel
def tt_AW_corner : List (Nat × Instr × Nat) := [(0, .iload_n 1, 1), (1, .invokestatic 50, 3), (4, .ifCond .eq 10, 3), (7, .iload_n 2, 1), (8, .invokestatic 50, 3), (11, .ifCond .ne 11, 3), (14, .new 54, 3), (17, .dup, 1), (18, .invokespecial 56, 3), (21, .athrow, 1), (22, .aload_n 0, 1), (23, .getfield 46, 3), (26, .getfield 76, 3), (29, .getfield 80, 3), (32, .bipush 8, 2), (34, .if_icmp .ne 11, 3), (37, .new 57, 3), (40, .dup, 1), (41, .invokespecial 59, 3), (44, .athrow, 1), (45, .aload_n 0, 1), (46, .getfield 46, 3), (49, .getfield 76, 3), (52, .iload_n 1, 1), (53, .iload_n 2, 1), (54, .invokevirtual 85, 3), (57, .ireturn, 1)]
theorem cd_AW_corner : ∀ r ∈ tt_AW_corner, decode prog_1_method_3_code r.1 = .ok (r.2.1, r.2.2) := by decide +kernel
def tt_AW_text : List (Nat × Instr × Nat) := [(0, .iload_n 1, 1), (1, .invokestatic 89, 3), (4, .ifCond .eq 14, 3), (7, .iload_n 2, 1), (8, .ifCond .lt 10, 3), (11, .iload_n 2, 1), (12, .sipush 255, 3), (15, .if_icmp .le 11, 3), (18, .new 54, 3), (21, .dup, 1), (22, .invokespecial 56, 3), (25, .athrow, 1), (26, .aload_n 0, 1), (27, .getfield 46, 3), (30, .getfield 92, 3), (33, .getfield 96, 3), (36, .iload_n 1, 1), (37, .iaload, 1), (38, .bipush 30, 2), (40, .if_icmp .ne 11, 3), (43, .new 57, 3), (46, .dup, 1), (47, .invokespecial 59, 3), (50, .athrow, 1), (51, .aload_n 0, 1), (52, .getfield 46, 3), (55, .getfield 92, 3), (58, .iload_n 1, 1), (59, .iload_n 2, 1), (60, .invokevirtual 102, 3), (63, .ireturn, 1)]
theorem cd_AW_text : ∀ r ∈ tt_AW_text, decode prog_1_method_4_code r.1 = .ok (r.2.1, r.2.2) := by decide +kernel
def tt_AW_clear : List (Nat × Instr × Nat) := [(0, .aload_n 0, 1), (1, .getfield 46, 3), (4, .getfield 76, 3), (7, .getfield 80, 3), (10, .aload_n 0, 1), (11, .getfield 46, 3), (14, .getfield 92, 3), (17, .invokevirtual 105, 3), (20, .iadd, 1), (21, .istore_n 1, 1), (22, .aload_n 0, 1), (23, .getfield 46, 3), (26, .getfield 76, 3), (29, .invokevirtual 109, 3), (32, .aload_n 0, 1), (33, .getfield 46, 3), (36, .getfield 92, 3), (39, .invokevirtual 112, 3), (42, .iload_n 1, 1), (43, .ireturn, 1)]
theorem cd_AW_clear : ∀ r ∈ tt_AW_clear, decode prog_1_method_5_code r.1 = .ok (r.2.1, r.2.2) := by decide +kernel
def tt_AW_issue : List (Nat × Instr × Nat) := [(0, .iload_n 1, 1), (1, .iconst 1, 1), (2, .if_icmp .lt 39, 3), (5, .iload_n 1, 1), (6, .sipush 1000, 3), (9, .if_icmp .gt 32, 3), (12, .iload_n 2, 1), (13, .invokestatic 115, 3), (16, .ifCond .eq 25, 3), (19, .iload 5, 2), (21, .invokestatic 118, 3), (24, .ifCond .eq 17, 3), (27, .iload_n 3, 1), (28, .aload_n 0, 1), (29, .getfield 9, 3), (32, .if_icmp .le 9, 3), (35, .iload 4, 2), (37, .iload_n 3, 1), (38, .if_icmp .gt 11, 3), (41, .new 54, 3), (44, .dup, 1), (45, .invokespecial 56, 3), (48, .athrow, 1), (49, .aload_n 0, 1), (50, .getfield 46, 3), (53, .invokevirtual 121, 3), (56, .ifCond .ne 11, 3), (59, .new 125, 3), (62, .dup, 1), (63, .invokespecial 127, 3), (66, .athrow, 1), (67, .aload_n 0, 1), (68, .iload_n 1, 1), (69, .invokevirtual 128, 3), (72, .ifnonnull 21, 3), (75, .aload_n 0, 1), (76, .getfield 28, 3), (79, .bipush 12, 2), (81, .if_icmp .eq 12, 3), (84, .aload_n 0, 1), (85, .getfield 31, 3), (88, .bipush 40, 2), (90, .if_icmp .ne 11, 3), (93, .new 57, 3), (96, .dup, 1), (97, .invokespecial 59, 3), (100, .athrow, 1), (101, .new 22, 3), (104, .dup, 1), (105, .iload_n 1, 1), (106, .aload_n 0, 1), (107, .getfield 28, 3), (110, .invokespecial 132, 3), (113, .astore 6, 2), (115, .aload_n 0, 1), (116, .aload 6, 2), (118, .invokevirtual 135, 3), (121, .aload_n 0, 1), (122, .aload 6, 2), (124, .new 67, 3), (127, .dup, 1), (128, .aload 6, 2), (130, .iload_n 2, 1), (131, .iload_n 3, 1), (132, .iload 4, 2), (134, .iload 5, 2), (136, .aload_n 0, 1), (137, .getfield 46, 3), (140, .invokespecial 139, 3), (143, .invokevirtual 142, 3), (146, .ireturn, 1)]
theorem cd_AW_issue : ∀ r ∈ tt_AW_issue, decode prog_1_method_6_code r.1 = .ok (r.2.1, r.2.2) := by decide +kernel
def tt_AW_update : List (Nat × Instr × Nat) := [(0, .aload_n 0, 1), (1, .getfield 9, 3), (4, .iconst 1, 1), (5, .iadd, 1), (6, .istore 5, 2), (8, .iload_n 2, 1), (9, .invokestatic 115, 3), (12, .ifCond .eq 17, 3), (15, .iload 4, 2), (17, .invokestatic 118, 3), (20, .ifCond .eq 9, 3), (23, .iload_n 3, 1), (24, .iload 5, 2), (26, .if_icmp .gt 11, 3), (29, .new 54, 3), (32, .dup, 1), (33, .invokespecial 56, 3), (36, .athrow, 1), (37, .aload_n 0, 1), (38, .getfield 46, 3), (41, .invokevirtual 121, 3), (44, .ifCond .ne 11, 3), (47, .new 125, 3), (50, .dup, 1), (51, .invokespecial 127, 3), (54, .athrow, 1), (55, .aload_n 0, 1), (56, .iload_n 1, 1), (57, .invokevirtual 146, 3), (60, .astore 6, 2), (62, .aload 6, 2), (64, .ifnull 12, 3), (67, .aload_n 0, 1), (68, .getfield 31, 3), (71, .bipush 40, 2), (73, .if_icmp .ne 11, 3), (76, .new 57, 3), (79, .dup, 1), (80, .invokespecial 59, 3), (83, .athrow, 1), (84, .aload_n 0, 1), (85, .aload 6, 2), (87, .new 67, 3), (90, .dup, 1), (91, .aload 6, 2), (93, .iload_n 2, 1), (94, .iload 5, 2), (96, .iload_n 3, 1), (97, .iload 4, 2), (99, .aload_n 0, 1), (100, .getfield 46, 3), (103, .invokespecial 139, 3), (106, .invokevirtual 142, 3), (109, .ireturn, 1)]
theorem cd_AW_update : ∀ r ∈ tt_AW_update, decode prog_1_method_7_code r.1 = .ok (r.2.1, r.2.2) := by decide +kernel
def tt_AW_cancel : List (Nat × Instr × Nat) := [(0, .aload_n 0, 1), (1, .iload_n 1, 1), (2, .invokevirtual 146, 3), (5, .astore_n 2, 1), (6, .aload_n 2, 1), (7, .ifnull 12, 3), (10, .aload_n 0, 1), (11, .getfield 31, 3), (14, .bipush 40, 2), (16, .if_icmp .ne 11, 3), (19, .new 57, 3), (22, .dup, 1), (23, .invokespecial 59, 3), (26, .athrow, 1), (27, .aload_n 2, 1), (28, .new 149, 3), (31, .dup, 1), (32, .aload_n 2, 1), (33, .aload_n 2, 1), (34, .getfield 63, 3), (37, .getfield 151, 3), (40, .aload_n 2, 1), (41, .getfield 63, 3), (44, .getfield 156, 3), (47, .invokespecial 159, 3), (50, .putfield 63, 3), (53, .aload_n 0, 1), (54, .dup, 1), (55, .getfield 31, 3), (58, .iconst 1, 1), (59, .iadd, 1), (60, .putfield 31, 3), (63, .aload_n 2, 1), (64, .getfield 63, 3), (67, .getfield 162, 3), (70, .ireturn, 1)]
theorem cd_AW_cancel : ∀ r ∈ tt_AW_cancel, decode prog_1_method_8_code r.1 = .ok (r.2.1, r.2.2) := by decide +kernel
def tt_AW_minute : List (Nat × Instr × Nat) := [(0, .aload_n 0, 1), (1, .dup, 1), (2, .getfield 9, 3), (5, .iconst 1, 1), (6, .iadd, 1), (7, .putfield 9, 3), (10, .iconst 0, 1), (11, .istore_n 1, 1), (12, .iconst 0, 1), (13, .istore_n 2, 1), (14, .iload_n 2, 1), (15, .aload_n 0, 1), (16, .getfield 19, 3), (19, .if_icmp .ge 65, 3), (22, .aload_n 0, 1), (23, .getfield 15, 3), (26, .iload_n 2, 1), (27, .aaload, 1), (28, .astore_n 3, 1), (29, .aload_n 3, 1), (30, .getfield 165, 3), (33, .ifCond .eq 22, 3), (36, .aload_n 3, 1), (37, .aload_n 0, 1), (38, .getfield 24, 3), (41, .aload_n 0, 1), (42, .getfield 28, 3), (45, .aload_n 0, 1), (46, .getfield 9, 3), (49, .invokevirtual 169, 3), (52, .goto 11, 3), (55, .aload_n 3, 1), (56, .aload_n 0, 1), (57, .getfield 9, 3), (60, .invokevirtual 173, 3), (63, .aload_n 3, 1), (64, .aload_n 0, 1), (65, .getfield 9, 3), (68, .invokevirtual 177, 3), (71, .iload_n 1, 1), (72, .aload_n 3, 1), (73, .getfield 180, 3), (76, .iadd, 1), (77, .istore_n 1, 1), (78, .iinc 2 1, 3), (81, .goto (-67), 3), (84, .iconst 0, 1), (85, .istore_n 2, 1), (86, .iload_n 2, 1), (87, .aload_n 0, 1), (88, .getfield 40, 3), (91, .if_icmp .ge 44, 3), (94, .aload_n 0, 1), (95, .getfield 36, 3), (98, .iload_n 2, 1), (99, .aaload, 1), (100, .astore_n 3, 1), (101, .aload_n 0, 1), (102, .aload_n 3, 1), (103, .getfield 183, 3), (106, .invokevirtual 186, 3), (109, .ifCond .eq 20, 3), (112, .aload_n 3, 1), (113, .aload_n 0, 1), (114, .getfield 15, 3), (117, .aload_n 3, 1), (118, .getfield 183, 3), (121, .aaload, 1), (122, .aload_n 0, 1), (123, .getfield 9, 3), (126, .invokevirtual 189, 3), (129, .iinc 2 1, 3), (132, .goto (-46), 3), (135, .iload_n 1, 1), (136, .ireturn, 1)]
theorem cd_AW_minute : ∀ r ∈ tt_AW_minute, decode prog_1_method_9_code r.1 = .ok (r.2.1, r.2.2) := by decide +kernel
def tt_AW_line : List (Nat × Instr × Nat) := [(0, .aload_n 0, 1), (1, .iload_n 1, 1), (2, .invokevirtual 186, 3), (5, .ifCond .ne 11, 3), (8, .new 193, 3), (11, .dup, 1), (12, .invokespecial 195, 3), (15, .athrow, 1), (16, .aload_n 0, 1), (17, .getfield 15, 3), (20, .iload_n 1, 1), (21, .aaload, 1), (22, .getfield 165, 3), (25, .istore_n 3, 1), (26, .aload_n 0, 1), (27, .getfield 15, 3), (30, .iload_n 1, 1), (31, .aaload, 1), (32, .iload_n 2, 1), (33, .putfield 165, 3), (36, .iload_n 3, 1), (37, .ireturn, 1)]
theorem cd_AW_line : ∀ r ∈ tt_AW_line, decode prog_1_method_10_code r.1 = .ok (r.2.1, r.2.2) := by decide +kernel
def tt_AW_handset : List (Nat × Instr × Nat) := [(0, .iload_n 1, 1), (1, .ifCond .lt 8, 3), (4, .iload_n 1, 1), (5, .iconst 5, 1), (6, .if_icmp .le 11, 3), (9, .new 54, 3), (12, .dup, 1), (13, .invokespecial 56, 3), (16, .athrow, 1), (17, .aload_n 0, 1), (18, .getfield 40, 3), (21, .iconst 3, 1), (22, .if_icmp .ne 11, 3), (25, .new 57, 3), (28, .dup, 1), (29, .invokespecial 59, 3), (32, .athrow, 1), (33, .aload_n 0, 1), (34, .getfield 36, 3), (37, .aload_n 0, 1), (38, .getfield 40, 3), (41, .new 34, 3), (44, .dup, 1), (45, .iload_n 1, 1), (46, .invokespecial 196, 3), (49, .aastore, 1), (50, .aload_n 0, 1), (51, .dup, 1), (52, .getfield 40, 3), (55, .iconst 1, 1), (56, .iadd, 1), (57, .putfield 40, 3), (60, .aload_n 0, 1), (61, .getfield 40, 3), (64, .iconst 1, 1), (65, .isub, 1), (66, .ireturn, 1)]
theorem cd_AW_handset : ∀ r ∈ tt_AW_handset, decode prog_1_method_11_code r.1 = .ok (r.2.1, r.2.2) := by decide +kernel
def tt_AW_likes : List (Nat × Instr × Nat) := [(0, .aload_n 0, 1), (1, .iload_n 1, 1), (2, .invokevirtual 198, 3), (5, .ifCond .ne 11, 3), (8, .new 193, 3), (11, .dup, 1), (12, .invokespecial 195, 3), (15, .athrow, 1), (16, .iload_n 2, 1), (17, .invokestatic 89, 3), (20, .ifCond .ne 11, 3), (23, .new 54, 3), (26, .dup, 1), (27, .invokespecial 56, 3), (30, .athrow, 1), (31, .aload_n 0, 1), (32, .getfield 36, 3), (35, .iload_n 1, 1), (36, .aaload, 1), (37, .getfield 201, 3), (40, .iconst 3, 1), (41, .if_icmp .ne 11, 3), (44, .new 57, 3), (47, .dup, 1), (48, .invokespecial 59, 3), (51, .athrow, 1), (52, .aload_n 0, 1), (53, .getfield 36, 3), (56, .iload_n 1, 1), (57, .aaload, 1), (58, .iload_n 2, 1), (59, .invokevirtual 204, 3), (62, .ireturn, 1)]
theorem cd_AW_likes : ∀ r ∈ tt_AW_likes, decode prog_1_method_12_code r.1 = .ok (r.2.1, r.2.2) := by decide +kernel
def tt_AW_camp : List (Nat × Instr × Nat) := [(0, .aload_n 0, 1), (1, .iload_n 1, 1), (2, .invokevirtual 198, 3), (5, .ifCond .eq 16, 3), (8, .iload_n 2, 1), (9, .iconst (-1), 1), (10, .if_icmp .eq 19, 3), (13, .aload_n 0, 1), (14, .iload_n 2, 1), (15, .invokevirtual 186, 3), (18, .ifCond .ne 11, 3), (21, .new 193, 3), (24, .dup, 1), (25, .invokespecial 195, 3), (28, .athrow, 1), (29, .aload_n 0, 1), (30, .getfield 36, 3), (33, .iload_n 1, 1), (34, .aaload, 1), (35, .getfield 183, 3), (38, .istore_n 3, 1), (39, .aload_n 0, 1), (40, .getfield 36, 3), (43, .iload_n 1, 1), (44, .aaload, 1), (45, .iload_n 2, 1), (46, .putfield 183, 3), (49, .iload_n 3, 1), (50, .ireturn, 1)]
theorem cd_AW_camp : ∀ r ∈ tt_AW_camp, decode prog_1_method_13_code r.1 = .ok (r.2.1, r.2.2) := by decide +kernel
def tt_AW_miss : List (Nat × Instr × Nat) := [(0, .aload_n 0, 1), (1, .iload_n 1, 1), (2, .invokevirtual 198, 3), (5, .ifCond .ne 11, 3), (8, .new 193, 3), (11, .dup, 1), (12, .invokespecial 195, 3), (15, .athrow, 1), (16, .iload_n 2, 1), (17, .ifCond .lt 10, 3), (20, .iload_n 2, 1), (21, .sipush 1000, 3), (24, .if_icmp .le 11, 3), (27, .new 54, 3), (30, .dup, 1), (31, .invokespecial 56, 3), (34, .athrow, 1), (35, .aload_n 0, 1), (36, .getfield 36, 3), (39, .iload_n 1, 1), (40, .aaload, 1), (41, .dup, 1), (42, .getfield 208, 3), (45, .iload_n 2, 1), (46, .iadd, 1), (47, .putfield 208, 3), (50, .aload_n 0, 1), (51, .getfield 36, 3), (54, .iload_n 1, 1), (55, .aaload, 1), (56, .getfield 208, 3), (59, .ireturn, 1)]
theorem cd_AW_miss : ∀ r ∈ tt_AW_miss, decode prog_1_method_14_code r.1 = .ok (r.2.1, r.2.2) := by decide +kernel
def tt_AW_covers : List (Nat × Instr × Nat) := [(0, .aload_n 0, 1), (1, .iload_n 2, 1), (2, .invokevirtual 186, 3), (5, .ifCond .ne 11, 3), (8, .new 193, 3), (11, .dup, 1), (12, .invokespecial 195, 3), (15, .athrow, 1), (16, .aload_n 0, 1), (17, .iload_n 1, 1), (18, .invokevirtual 128, 3), (21, .astore_n 3, 1), (22, .aload_n 3, 1), (23, .ifnull 32, 3), (26, .aload_n 3, 1), (27, .getfield 63, 3), (30, .astore 5, 2), (32, .aload 5, 2), (34, .instanceof 67, 3), (37, .ifCond .eq 18, 3), (40, .aload 5, 2), (42, .checkcast 67, 3), (45, .astore 4, 2), (47, .aload 4, 2), (49, .getfield 211, 3), (52, .iload_n 2, 1), (53, .baload, 1), (54, .ireturn, 1), (55, .new 57, 3), (58, .dup, 1), (59, .invokespecial 59, 3), (62, .athrow, 1)]
theorem cd_AW_covers : ∀ r ∈ tt_AW_covers, decode prog_1_method_15_code r.1 = .ok (r.2.1, r.2.2) := by decide +kernel
def tt_AW_version : List (Nat × Instr × Nat) := [(0, .aload_n 0, 1), (1, .iload_n 1, 1), (2, .invokevirtual 128, 3), (5, .astore_n 2, 1), (6, .aload_n 2, 1), (7, .ifnonnull 7, 3), (10, .iconst 0, 1), (11, .goto 10, 3), (14, .aload_n 2, 1), (15, .getfield 63, 3), (18, .getfield 162, 3), (21, .ireturn, 1)]
theorem cd_AW_version : ∀ r ∈ tt_AW_version, decode prog_1_method_16_code r.1 = .ok (r.2.1, r.2.2) := by decide +kernel
def tt_AW_listed : List (Nat × Instr × Nat) := [(0, .aload_n 0, 1), (1, .iload_n 1, 1), (2, .invokevirtual 186, 3), (5, .ifCond .eq 20, 3), (8, .iload_n 2, 1), (9, .ifCond .lt 16, 3), (12, .iload_n 2, 1), (13, .aload_n 0, 1), (14, .getfield 15, 3), (17, .iload_n 1, 1), (18, .aaload, 1), (19, .getfield 215, 3), (22, .if_icmp .lt 11, 3), (25, .new 193, 3), (28, .dup, 1), (29, .invokespecial 195, 3), (32, .athrow, 1), (33, .aload_n 0, 1), (34, .getfield 15, 3), (37, .iload_n 1, 1), (38, .aaload, 1), (39, .getfield 218, 3), (42, .iload_n 2, 1), (43, .aaload, 1), (44, .astore 4, 2), (46, .iload_n 3, 1), (47, .tableswitch 74 0 4 #[33, 42, 48, 54, 60], 33), (80, .aload 4, 2), (82, .getfield 222, 3), (85, .getfield 226, 3), (88, .ireturn, 1), (89, .aload 4, 2), (91, .getfield 162, 3), (94, .ireturn, 1), (95, .aload 4, 2), (97, .getfield 151, 3), (100, .ireturn, 1), (101, .aload 4, 2), (103, .getfield 156, 3), (106, .ireturn, 1), (107, .aload 4, 2), (109, .instanceof 67, 3), (112, .ifCond .eq 7, 3), (115, .iconst 1, 1), (116, .goto 4, 3), (119, .iconst 0, 1), (120, .ireturn, 1), (121, .new 54, 3), (124, .dup, 1), (125, .invokespecial 56, 3), (128, .athrow, 1)]
theorem cd_AW_listed : ∀ r ∈ tt_AW_listed, decode prog_1_method_17_code r.1 = .ok (r.2.1, r.2.2) := by decide +kernel
def tt_AW_sent : List (Nat × Instr × Nat) := [(0, .aload_n 0, 1), (1, .iload_n 1, 1), (2, .invokevirtual 186, 3), (5, .ifCond .eq 20, 3), (8, .iload_n 2, 1), (9, .ifCond .lt 16, 3), (12, .iload_n 2, 1), (13, .aload_n 0, 1), (14, .getfield 15, 3), (17, .iload_n 1, 1), (18, .aaload, 1), (19, .getfield 180, 3), (22, .if_icmp .lt 11, 3), (25, .new 193, 3), (28, .dup, 1), (29, .invokespecial 195, 3), (32, .athrow, 1), (33, .aload_n 0, 1), (34, .getfield 15, 3), (37, .iload_n 1, 1), (38, .aaload, 1), (39, .astore 4, 2), (41, .iload_n 3, 1), (42, .tableswitch 82 0 4 #[34, 48, 59, 67, 75], 34), (76, .aload 4, 2), (78, .getfield 229, 3), (81, .iload_n 2, 1), (82, .aaload, 1), (83, .getfield 222, 3), (86, .getfield 226, 3), (89, .ireturn, 1), (90, .aload 4, 2), (92, .getfield 229, 3), (95, .iload_n 2, 1), (96, .aaload, 1), (97, .getfield 162, 3), (100, .ireturn, 1), (101, .aload 4, 2), (103, .getfield 232, 3), (106, .iload_n 2, 1), (107, .iaload, 1), (108, .ireturn, 1), (109, .aload 4, 2), (111, .getfield 235, 3), (114, .iload_n 2, 1), (115, .iaload, 1), (116, .ireturn, 1), (117, .aload 4, 2), (119, .iload_n 2, 1), (120, .invokevirtual 238, 3), (123, .ireturn, 1), (124, .new 54, 3), (127, .dup, 1), (128, .invokespecial 56, 3), (131, .athrow, 1)]
theorem cd_AW_sent : ∀ r ∈ tt_AW_sent, decode prog_1_method_18_code r.1 = .ok (r.2.1, r.2.2) := by decide +kernel
def tt_AW_shown : List (Nat × Instr × Nat) := [(0, .aload_n 0, 1), (1, .iload_n 1, 1), (2, .invokevirtual 198, 3), (5, .ifCond .eq 20, 3), (8, .iload_n 2, 1), (9, .ifCond .lt 16, 3), (12, .iload_n 2, 1), (13, .aload_n 0, 1), (14, .getfield 36, 3), (17, .iload_n 1, 1), (18, .aaload, 1), (19, .getfield 241, 3), (22, .if_icmp .lt 11, 3), (25, .new 193, 3), (28, .dup, 1), (29, .invokespecial 195, 3), (32, .athrow, 1), (33, .aload_n 0, 1), (34, .getfield 36, 3), (37, .iload_n 1, 1), (38, .aaload, 1), (39, .astore 4, 2), (41, .iload_n 3, 1), (42, .tableswitch 105 0 5 #[38, 52, 63, 71, 79, 98], 38), (80, .aload 4, 2), (82, .getfield 244, 3), (85, .iload_n 2, 1), (86, .aaload, 1), (87, .getfield 248, 3), (90, .getfield 226, 3), (93, .ireturn, 1), (94, .aload 4, 2), (96, .getfield 244, 3), (99, .iload_n 2, 1), (100, .aaload, 1), (101, .getfield 249, 3), (104, .ireturn, 1), (105, .aload 4, 2), (107, .getfield 250, 3), (110, .iload_n 2, 1), (111, .iaload, 1), (112, .ireturn, 1), (113, .aload 4, 2), (115, .getfield 253, 3), (118, .iload_n 2, 1), (119, .iaload, 1), (120, .ireturn, 1), (121, .aload 4, 2), (123, .iload_n 2, 1), (124, .aload_n 0, 1), (125, .getfield 9, 3), (128, .invokevirtual 256, 3), (131, .ifCond .eq 7, 3), (134, .iconst 1, 1), (135, .goto 4, 3), (138, .iconst 0, 1), (139, .ireturn, 1), (140, .aload 4, 2), (142, .iload_n 2, 1), (143, .invokevirtual 260, 3), (146, .ireturn, 1), (147, .new 54, 3), (150, .dup, 1), (151, .invokespecial 56, 3), (154, .athrow, 1)]
theorem cd_AW_shown : ∀ r ∈ tt_AW_shown, decode prog_1_method_19_code r.1 = .ok (r.2.1, r.2.2) := by decide +kernel
def tt_AW_shownByte : List (Nat × Instr × Nat) := [(0, .aload_n 0, 1), (1, .iload_n 1, 1), (2, .invokevirtual 198, 3), (5, .ifCond .eq 38, 3), (8, .iload_n 2, 1), (9, .ifCond .lt 34, 3), (12, .iload_n 2, 1), (13, .aload_n 0, 1), (14, .getfield 36, 3), (17, .iload_n 1, 1), (18, .aaload, 1), (19, .getfield 241, 3), (22, .if_icmp .ge 21, 3), (25, .iload_n 3, 1), (26, .ifCond .lt 17, 3), (29, .iload_n 3, 1), (30, .aload_n 0, 1), (31, .getfield 36, 3), (34, .iload_n 1, 1), (35, .aaload, 1), (36, .iload_n 2, 1), (37, .invokevirtual 260, 3), (40, .if_icmp .lt 11, 3), (43, .new 193, 3), (46, .dup, 1), (47, .invokespecial 195, 3), (50, .athrow, 1), (51, .aload_n 0, 1), (52, .getfield 36, 3), (55, .iload_n 1, 1), (56, .aaload, 1), (57, .astore 4, 2), (59, .aload 4, 2), (61, .getfield 244, 3), (64, .iload_n 2, 1), (65, .aaload, 1), (66, .getfield 263, 3), (69, .getfield 264, 3), (72, .aload 4, 2), (74, .getfield 250, 3), (77, .iload_n 2, 1), (78, .iaload, 1), (79, .aaload, 1), (80, .iload_n 3, 1), (81, .iaload, 1), (82, .ireturn, 1)]
theorem cd_AW_shownByte : ∀ r ∈ tt_AW_shownByte, decode prog_1_method_20_code r.1 = .ok (r.2.1, r.2.2) := by decide +kernel
def tt_AW_total : List (Nat × Instr × Nat) := [(0, .iload_n 1, 1), (1, .tableswitch 60 0 4 #[35, 40, 45, 50, 55], 35), (36, .aload_n 0, 1), (37, .getfield 9, 3), (40, .ireturn, 1), (41, .aload_n 0, 1), (42, .getfield 19, 3), (45, .ireturn, 1), (46, .aload_n 0, 1), (47, .getfield 28, 3), (50, .ireturn, 1), (51, .aload_n 0, 1), (52, .getfield 31, 3), (55, .ireturn, 1), (56, .aload_n 0, 1), (57, .getfield 40, 3), (60, .ireturn, 1), (61, .iload_n 1, 1), (62, .bipush 10, 2), (64, .if_icmp .lt 27, 3), (67, .iload_n 1, 1), (68, .bipush 10, 2), (70, .aload_n 0, 1), (71, .getfield 40, 3), (74, .iadd, 1), (75, .if_icmp .ge 16, 3), (78, .aload_n 0, 1), (79, .getfield 36, 3), (82, .iload_n 1, 1), (83, .bipush 10, 2), (85, .isub, 1), (86, .aaload, 1), (87, .getfield 268, 3), (90, .ireturn, 1), (91, .iconst (-1), 1), (92, .ireturn, 1)]
theorem cd_AW_total : ∀ r ∈ tt_AW_total, decode prog_1_method_21_code r.1 = .ok (r.2.1, r.2.2) := by decide +kernel
def tt_AW_isCoordinate : List (Nat × Instr × Nat) := [(0, .iload_n 0, 1), (1, .sipush (-1000), 3), (4, .if_icmp .lt 14, 3), (7, .iload_n 0, 1), (8, .sipush 1000, 3), (11, .if_icmp .gt 7, 3), (14, .iconst 1, 1), (15, .goto 4, 3), (18, .iconst 0, 1), (19, .ireturn, 1)]
theorem cd_AW_isCoordinate : ∀ r ∈ tt_AW_isCoordinate, decode prog_1_method_22_code r.1 = .ok (r.2.1, r.2.2) := by decide +kernel
def tt_AW_isLanguage : List (Nat × Instr × Nat) := [(0, .iload_n 0, 1), (1, .ifCond .lt 12, 3), (4, .iload_n 0, 1), (5, .iconst 3, 1), (6, .if_icmp .ge 7, 3), (9, .iconst 1, 1), (10, .goto 4, 3), (13, .iconst 0, 1), (14, .ireturn, 1)]
theorem cd_AW_isLanguage : ∀ r ∈ tt_AW_isLanguage, decode prog_1_method_23_code r.1 = .ok (r.2.1, r.2.2) := by decide +kernel
def tt_AW_isSeverity : List (Nat × Instr × Nat) := [(0, .iload_n 0, 1), (1, .iconst 1, 1), (2, .if_icmp .lt 12, 3), (5, .iload_n 0, 1), (6, .iconst 5, 1), (7, .if_icmp .gt 7, 3), (10, .iconst 1, 1), (11, .goto 4, 3), (14, .iconst 0, 1), (15, .ireturn, 1)]
theorem cd_AW_isSeverity : ∀ r ∈ tt_AW_isSeverity, decode prog_1_method_24_code r.1 = .ok (r.2.1, r.2.2) := by decide +kernel
def tt_AW_isSpan : List (Nat × Instr × Nat) := [(0, .iload_n 0, 1), (1, .iconst 1, 1), (2, .if_icmp .lt 14, 3), (5, .iload_n 0, 1), (6, .sipush 1000, 3), (9, .if_icmp .gt 7, 3), (12, .iconst 1, 1), (13, .goto 4, 3), (16, .iconst 0, 1), (17, .ireturn, 1)]
theorem cd_AW_isSpan : ∀ r ∈ tt_AW_isSpan, decode prog_1_method_25_code r.1 = .ok (r.2.1, r.2.2) := by decide +kernel
def tt_AW_isCell : List (Nat × Instr × Nat) := [(0, .iload_n 1, 1), (1, .ifCond .lt 15, 3), (4, .iload_n 1, 1), (5, .aload_n 0, 1), (6, .getfield 19, 3), (9, .if_icmp .ge 7, 3), (12, .iconst 1, 1), (13, .goto 4, 3), (16, .iconst 0, 1), (17, .ireturn, 1)]
theorem cd_AW_isCell : ∀ r ∈ tt_AW_isCell, decode prog_1_method_26_code r.1 = .ok (r.2.1, r.2.2) := by decide +kernel
def tt_AW_isHandset : List (Nat × Instr × Nat) := [(0, .iload_n 1, 1), (1, .ifCond .lt 15, 3), (4, .iload_n 1, 1), (5, .aload_n 0, 1), (6, .getfield 40, 3), (9, .if_icmp .ge 7, 3), (12, .iconst 1, 1), (13, .goto 4, 3), (16, .iconst 0, 1), (17, .ireturn, 1)]
theorem cd_AW_isHandset : ∀ r ∈ tt_AW_isHandset, decode prog_1_method_27_code r.1 = .ok (r.2.1, r.2.2) := by decide +kernel
def tt_AW_findWarning : List (Nat × Instr × Nat) := [(0, .iconst 0, 1), (1, .istore_n 2, 1), (2, .iload_n 2, 1), (3, .aload_n 0, 1), (4, .getfield 28, 3), (7, .if_icmp .ge 29, 3), (10, .aload_n 0, 1), (11, .getfield 24, 3), (14, .iload_n 2, 1), (15, .aaload, 1), (16, .getfield 226, 3), (19, .iload_n 1, 1), (20, .if_icmp .ne 10, 3), (23, .aload_n 0, 1), (24, .getfield 24, 3), (27, .iload_n 2, 1), (28, .aaload, 1), (29, .areturn, 1), (30, .iinc 2 1, 3), (33, .goto (-31), 3), (36, .aconst_null, 1), (37, .areturn, 1)]
theorem cd_AW_findWarning : ∀ r ∈ tt_AW_findWarning, decode prog_1_method_28_code r.1 = .ok (r.2.1, r.2.2) := by decide +kernel
def tt_AW_findLive : List (Nat × Instr × Nat) := [(0, .aload_n 0, 1), (1, .iload_n 1, 1), (2, .invokevirtual 128, 3), (5, .astore_n 2, 1), (6, .aload_n 2, 1), (7, .ifnull 27, 3), (10, .aload_n 2, 1), (11, .getfield 63, 3), (14, .getfield 156, 3), (17, .aload_n 0, 1), (18, .getfield 9, 3), (21, .if_icmp .le 13, 3), (24, .aload_n 2, 1), (25, .getfield 63, 3), (28, .instanceof 149, 3), (31, .ifCond .eq 5, 3), (34, .aconst_null, 1), (35, .areturn, 1), (36, .aload_n 2, 1), (37, .areturn, 1)]
theorem cd_AW_findLive : ∀ r ∈ tt_AW_findLive, decode prog_1_method_29_code r.1 = .ok (r.2.1, r.2.2) := by decide +kernel
def tt_AW_insertById : List (Nat × Instr × Nat) := [(0, .aload_n 0, 1), (1, .getfield 28, 3), (4, .istore_n 2, 1), (5, .iload_n 2, 1), (6, .ifCond .le 41, 3), (9, .aload_n 0, 1), (10, .getfield 24, 3), (13, .iload_n 2, 1), (14, .iconst 1, 1), (15, .isub, 1), (16, .aaload, 1), (17, .getfield 226, 3), (20, .aload_n 1, 1), (21, .getfield 226, 3), (24, .if_icmp .le 23, 3), (27, .aload_n 0, 1), (28, .getfield 24, 3), (31, .iload_n 2, 1), (32, .aload_n 0, 1), (33, .getfield 24, 3), (36, .iload_n 2, 1), (37, .iconst 1, 1), (38, .isub, 1), (39, .aaload, 1), (40, .aastore, 1), (41, .iinc 2 (-1), 3), (44, .goto (-39), 3), (47, .aload_n 0, 1), (48, .getfield 24, 3), (51, .iload_n 2, 1), (52, .aload_n 1, 1), (53, .aastore, 1), (54, .aload_n 0, 1), (55, .dup, 1), (56, .getfield 28, 3), (59, .iconst 1, 1), (60, .iadd, 1), (61, .putfield 28, 3), (64, .return_, 1)]
theorem cd_AW_insertById : ∀ r ∈ tt_AW_insertById, decode prog_1_method_30_code r.1 = .ok (r.2.1, r.2.2) := by decide +kernel
def tt_AW_speak : List (Nat × Instr × Nat) := [(0, .aload_n 1, 1), (1, .aload_n 2, 1), (2, .putfield 63, 3), (5, .aload_n 0, 1), (6, .dup, 1), (7, .getfield 31, 3), (10, .iconst 1, 1), (11, .iadd, 1), (12, .putfield 31, 3), (15, .aload_n 0, 1), (16, .new 43, 3), (19, .dup, 1), (20, .invokespecial 45, 3), (23, .putfield 46, 3), (26, .iconst 0, 1), (27, .istore_n 3, 1), (28, .iconst 0, 1), (29, .istore 4, 2), (31, .iload 4, 2), (33, .aload_n 0, 1), (34, .getfield 19, 3), (37, .if_icmp .ge 26, 3), (40, .aload_n 2, 1), (41, .aload_n 0, 1), (42, .getfield 15, 3), (45, .iload 4, 2), (47, .aaload, 1), (48, .invokevirtual 69, 3), (51, .ifCond .eq 6, 3), (54, .iinc 3 1, 3), (57, .iinc 4 1, 3), (60, .goto (-29), 3), (63, .iload_n 3, 1), (64, .ireturn, 1)]
theorem cd_AW_speak : ∀ r ∈ tt_AW_speak, decode prog_1_method_31_code r.1 = .ok (r.2.1, r.2.2) := by decide +kernel
def tt_Ca_init : List (Nat × Instr × Nat) := [(0, .aload_n 0, 1), (1, .aload_n 1, 1), (2, .iload_n 2, 1), (3, .iload_n 3, 1), (4, .invokespecial 1, 3), (7, .return_, 1)]
theorem cd_Ca_init : ∀ r ∈ tt_Ca_init, decode prog_3_method_1_code r.1 = .ok (r.2.1, r.2.2) := by decide +kernel
def tt_Me_init : List (Nat × Instr × Nat) := [(0, .aload_n 0, 1), (1, .invokespecial 1, 3), (4, .aload_n 0, 1), (5, .new 7, 3), (8, .dup, 1), (9, .invokespecial 9, 3), (12, .putfield 10, 3), (15, .aload_n 0, 1), (16, .new 16, 3), (19, .dup, 1), (20, .invokespecial 18, 3), (23, .putfield 19, 3), (26, .return_, 1)]
theorem cd_Me_init : ∀ r ∈ tt_Me_init, decode prog_6_method_1_code r.1 = .ok (r.2.1, r.2.2) := by decide +kernel
def tt_Me_canBeSpoken : List (Nat × Instr × Nat) := [(0, .aload_n 0, 1), (1, .getfield 19, 3), (4, .invokevirtual 23, 3), (7, .ifCond .le 17, 3), (10, .aload_n 0, 1), (11, .getfield 10, 3), (14, .invokevirtual 27, 3), (17, .ifCond .eq 7, 3), (20, .iconst 1, 1), (21, .goto 4, 3), (24, .iconst 0, 1), (25, .ireturn, 1)]
theorem cd_Me_canBeSpoken : ∀ r ∈ tt_Me_canBeSpoken, decode prog_6_method_2_code r.1 = .ok (r.2.1, r.2.2) := by decide +kernel
def tt_Sp_init : List (Nat × Instr × Nat) := [(0, .aload_n 0, 1), (1, .aload_n 1, 1), (2, .iload_n 2, 1), (3, .iload 4, 2), (5, .invokespecial 3, 3), (8, .aload_n 0, 1), (9, .iload_n 3, 1), (10, .putfield 9, 3), (13, .aload_n 0, 1), (14, .iload 5, 2), (16, .putfield 15, 3), (19, .aload_n 0, 1), (20, .aload 6, 2), (22, .getfield 18, 3), (25, .putfield 24, 3), (28, .aload_n 0, 1), (29, .aload 6, 2), (31, .getfield 25, 3), (34, .putfield 29, 3), (37, .aload_n 0, 1), (38, .bipush 8, 2), (40, .newarray .boolean, 2), (42, .putfield 30, 3), (45, .return_, 1)]
theorem cd_Sp_init : ∀ r ∈ tt_Sp_init, decode prog_7_method_1_code r.1 = .ok (r.2.1, r.2.2) := by decide +kernel
def tt_Sp_measure : List (Nat × Instr × Nat) := [(0, .aload_n 0, 1), (1, .getfield 30, 3), (4, .aload_n 1, 1), (5, .getfield 34, 3), (8, .aload_n 0, 1), (9, .getfield 24, 3), (12, .aload_n 1, 1), (13, .getfield 39, 3), (16, .aload_n 1, 1), (17, .getfield 42, 3), (20, .aload_n 1, 1), (21, .getfield 45, 3), (24, .invokevirtual 48, 3), (27, .bastore, 1), (28, .aload_n 0, 1), (29, .getfield 30, 3), (32, .aload_n 1, 1), (33, .getfield 34, 3), (36, .baload, 1), (37, .ireturn, 1)]
theorem cd_Sp_measure : ∀ r ∈ tt_Sp_measure, decode prog_7_method_2_code r.1 = .ok (r.2.1, r.2.2) := by decide +kernel
def tt_Sp_isDue : List (Nat × Instr × Nat) := [(0, .iload_n 1, 1), (1, .aload_n 0, 1), (2, .getfield 9, 3), (5, .if_icmp .lt 21, 3), (8, .iload_n 1, 1), (9, .aload_n 0, 1), (10, .getfield 9, 3), (13, .isub, 1), (14, .aload_n 0, 1), (15, .getfield 15, 3), (18, .irem, 1), (19, .ifCond .ne 7, 3), (22, .iconst 1, 1), (23, .goto 4, 3), (26, .iconst 0, 1), (27, .ireturn, 1)]
theorem cd_Sp_isDue : ∀ r ∈ tt_Sp_isDue, decode prog_7_method_3_code r.1 = .ok (r.2.1, r.2.2) := by decide +kernel
def tt_Te_init : List (Nat × Instr × Nat) := [(0, .aload_n 0, 1), (1, .invokespecial 3, 3), (4, .aload_n 0, 1), (5, .iconst 3, 1), (6, .bipush 30, 2), (8, .multianewarray 9 2, 4), (12, .putfield 11, 3), (15, .aload_n 0, 1), (16, .iconst 3, 1), (17, .newarray .int, 2), (19, .putfield 16, 3), (22, .return_, 1)]
theorem cd_Te_init : ∀ r ∈ tt_Te_init, decode prog_8_method_1_code r.1 = .ok (r.2.1, r.2.2) := by decide +kernel
def tt_Te_addByte : List (Nat × Instr × Nat) := [(0, .aload_n 0, 1), (1, .getfield 11, 3), (4, .iload_n 1, 1), (5, .aaload, 1), (6, .aload_n 0, 1), (7, .getfield 16, 3), (10, .iload_n 1, 1), (11, .iaload, 1), (12, .iload_n 2, 1), (13, .iastore, 1), (14, .aload_n 0, 1), (15, .getfield 16, 3), (18, .iload_n 1, 1), (19, .dup2, 1), (20, .iaload, 1), (21, .iconst 1, 1), (22, .iadd, 1), (23, .iastore, 1), (24, .aload_n 0, 1), (25, .getfield 16, 3), (28, .iload_n 1, 1), (29, .iaload, 1), (30, .ireturn, 1)]
theorem cd_Te_addByte : ∀ r ∈ tt_Te_addByte, decode prog_8_method_2_code r.1 = .ok (r.2.1, r.2.2) := by decide +kernel
def tt_Te_dropBytes : List (Nat × Instr × Nat) := [(0, .iconst 0, 1), (1, .istore_n 1, 1), (2, .iload_n 1, 1), (3, .iconst 3, 1), (4, .if_icmp .ge 16, 3), (7, .aload_n 0, 1), (8, .getfield 16, 3), (11, .iload_n 1, 1), (12, .iconst 0, 1), (13, .iastore, 1), (14, .iinc 1 1, 3), (17, .goto (-15), 3), (20, .return_, 1)]
theorem cd_Te_dropBytes : ∀ r ∈ tt_Te_dropBytes, decode prog_8_method_3_code r.1 = .ok (r.2.1, r.2.2) := by decide +kernel
def tt_Te_byteCount : List (Nat × Instr × Nat) := [(0, .iconst 0, 1), (1, .istore_n 1, 1), (2, .iconst 0, 1), (3, .istore_n 2, 1), (4, .iload_n 2, 1), (5, .iconst 3, 1), (6, .if_icmp .ge 18, 3), (9, .iload_n 1, 1), (10, .aload_n 0, 1), (11, .getfield 16, 3), (14, .iload_n 2, 1), (15, .iaload, 1), (16, .iadd, 1), (17, .istore_n 1, 1), (18, .iinc 2 1, 3), (21, .goto (-17), 3), (24, .iload_n 1, 1), (25, .ireturn, 1)]
theorem cd_Te_byteCount : ∀ r ∈ tt_Te_byteCount, decode prog_8_method_4_code r.1 = .ok (r.2.1, r.2.2) := by decide +kernel
def tt_Te_offers : List (Nat × Instr × Nat) := [(0, .aload_n 0, 1), (1, .getfield 16, 3), (4, .iload_n 1, 1), (5, .iaload, 1), (6, .ifCond .le 7, 3), (9, .iconst 1, 1), (10, .goto 4, 3), (13, .iconst 0, 1), (14, .ireturn, 1)]
theorem cd_Te_offers : ∀ r ∈ tt_Te_offers, decode prog_8_method_5_code r.1 = .ok (r.2.1, r.2.2) := by decide +kernel
def tt_Te_pagesOf : List (Nat × Instr × Nat) := [(0, .aload_n 0, 1), (1, .getfield 16, 3), (4, .iload_n 1, 1), (5, .iaload, 1), (6, .bipush 10, 2), (8, .iadd, 1), (9, .iconst 1, 1), (10, .isub, 1), (11, .bipush 10, 2), (13, .idiv, 1), (14, .ireturn, 1)]
theorem cd_Te_pagesOf : ∀ r ∈ tt_Te_pagesOf, decode prog_8_method_6_code r.1 = .ok (r.2.1, r.2.2) := by decide +kernel
def tt_Te_bytesOfPage : List (Nat × Instr × Nat) := [(0, .bipush 10, 2), (2, .aload_n 0, 1), (3, .getfield 16, 3), (6, .iload_n 1, 1), (7, .iaload, 1), (8, .iload_n 2, 1), (9, .bipush 10, 2), (11, .imul, 1), (12, .isub, 1), (13, .invokestatic 20, 3), (16, .ireturn, 1)]
theorem cd_Te_bytesOfPage : ∀ r ∈ tt_Te_bytesOfPage, decode prog_8_method_7_code r.1 = .ok (r.2.1, r.2.2) := by decide +kernel
def tt_Ve_init : List (Nat × Instr × Nat) := [(0, .aload_n 0, 1), (1, .invokespecial 1, 3), (4, .aload_n 0, 1), (5, .aload_n 1, 1), (6, .putfield 7, 3), (9, .aload_n 0, 1), (10, .aload_n 1, 1), (11, .getfield 13, 3), (14, .ifnonnull 7, 3), (17, .iconst 1, 1), (18, .goto 12, 3), (21, .aload_n 1, 1), (22, .getfield 13, 3), (25, .getfield 19, 3), (28, .iconst 1, 1), (29, .iadd, 1), (30, .putfield 19, 3), (33, .aload_n 0, 1), (34, .iload_n 2, 1), (35, .putfield 23, 3), (38, .aload_n 0, 1), (39, .iload_n 3, 1), (40, .putfield 26, 3), (43, .return_, 1)]
theorem cd_Ve_init : ∀ r ∈ tt_Ve_init, decode prog_9_method_1_code r.1 = .ok (r.2.1, r.2.2) := by decide +kernel
def tt_Wa_init : List (Nat × Instr × Nat) := [(0, .aload_n 0, 1), (1, .invokespecial 1, 3), (4, .aload_n 0, 1), (5, .iload_n 1, 1), (6, .putfield 7, 3), (9, .aload_n 0, 1), (10, .iload_n 2, 1), (11, .putfield 13, 3), (14, .aload_n 0, 1), (15, .aconst_null, 1), (16, .putfield 16, 3), (19, .return_, 1)]
theorem cd_Wa_init : ∀ r ∈ tt_Wa_init, decode prog_10_method_1_code r.1 = .ok (r.2.1, r.2.2) := by decide +kernel
end
section
def tt_Ar_init : List (Nat × Instr × Nat) := [(0, .aload_n 0, 1), (1, .invokespecial 3, 3), (4, .aload_n 0, 1), (5, .bipush 8, 2), (7, .newarray .int, 2), (9, .putfield 9, 3), (12, .aload_n 0, 1), (13, .bipush 8, 2), (15, .newarray .int, 2), (17, .putfield 15, 3), (20, .aload_n 0, 1), (21, .iconst 0, 1), (22, .putfield 18, 3), (25, .return_, 1)]
theorem cd_Ar_init : ∀ r ∈ tt_Ar_init, decode prog_2_method_1_code r.1 = .ok (r.2.1, r.2.2) := by decide +kernel
def tt_Ar_addCorner : List (Nat × Instr × Nat) := [(0, .aload_n 0, 1), (1, .getfield 9, 3), (4, .aload_n 0, 1), (5, .getfield 18, 3), (8, .iload_n 1, 1), (9, .iastore, 1), (10, .aload_n 0, 1), (11, .getfield 15, 3), (14, .aload_n 0, 1), (15, .getfield 18, 3), (18, .iload_n 2, 1), (19, .iastore, 1), (20, .aload_n 0, 1), (21, .dup, 1), (22, .getfield 18, 3), (25, .iconst 1, 1), (26, .iadd, 1), (27, .putfield 18, 3), (30, .aload_n 0, 1), (31, .getfield 18, 3), (34, .ireturn, 1)]
theorem cd_Ar_addCorner : ∀ r ∈ tt_Ar_addCorner, decode prog_2_method_2_code r.1 = .ok (r.2.1, r.2.2) := by decide +kernel
def tt_Ar_dropCorners : List (Nat × Instr × Nat) := [(0, .aload_n 0, 1), (1, .iconst 0, 1), (2, .putfield 18, 3), (5, .return_, 1)]
theorem cd_Ar_dropCorners : ∀ r ∈ tt_Ar_dropCorners, decode prog_2_method_3_code r.1 = .ok (r.2.1, r.2.2) := by decide +kernel
def tt_Ar_isSimple : List (Nat × Instr × Nat) := [(0, .aload_n 0, 1), (1, .getfield 18, 3), (4, .iconst 3, 1), (5, .if_icmp .ge 5, 3), (8, .iconst 0, 1), (9, .ireturn, 1), (10, .iconst 0, 1), (11, .istore_n 1, 1), (12, .iload_n 1, 1), (13, .aload_n 0, 1), (14, .getfield 18, 3), (17, .if_icmp .ge 59, 3), (20, .iload_n 1, 1), (21, .iconst 1, 1), (22, .iadd, 1), (23, .istore_n 2, 1), (24, .iload_n 2, 1), (25, .aload_n 0, 1), (26, .getfield 18, 3), (29, .if_icmp .ge 41, 3), (32, .aload_n 0, 1), (33, .getfield 9, 3), (36, .iload_n 1, 1), (37, .iaload, 1), (38, .aload_n 0, 1), (39, .getfield 9, 3), (42, .iload_n 2, 1), (43, .iaload, 1), (44, .if_icmp .ne 20, 3), (47, .aload_n 0, 1), (48, .getfield 15, 3), (51, .iload_n 1, 1), (52, .iaload, 1), (53, .aload_n 0, 1), (54, .getfield 15, 3), (57, .iload_n 2, 1), (58, .iaload, 1), (59, .if_icmp .ne 5, 3), (62, .iconst 0, 1), (63, .ireturn, 1), (64, .iinc 2 1, 3), (67, .goto (-43), 3), (70, .iinc 1 1, 3), (73, .goto (-61), 3), (76, .iconst 0, 1), (77, .istore_n 1, 1), (78, .iload_n 1, 1), (79, .aload_n 0, 1), (80, .getfield 18, 3), (83, .if_icmp .ge 38, 3), (86, .iload_n 1, 1), (87, .iconst 1, 1), (88, .iadd, 1), (89, .istore_n 2, 1), (90, .iload_n 2, 1), (91, .aload_n 0, 1), (92, .getfield 18, 3), (95, .if_icmp .ge 20, 3), (98, .aload_n 0, 1), (99, .iload_n 1, 1), (100, .iload_n 2, 1), (101, .invokevirtual 22, 3), (104, .ifCond .eq 5, 3), (107, .iconst 0, 1), (108, .ireturn, 1), (109, .iinc 2 1, 3), (112, .goto (-22), 3), (115, .iinc 1 1, 3), (118, .goto (-40), 3), (121, .iconst 1, 1), (122, .ireturn, 1)]
theorem cd_Ar_isSimple : ∀ r ∈ tt_Ar_isSimple, decode prog_2_method_4_code r.1 = .ok (r.2.1, r.2.2) := by decide +kernel
def tt_Ar_reaches : List (Nat × Instr × Nat) := [(0, .iconst 0, 1), (1, .istore 4, 2), (3, .iload 4, 2), (5, .aload_n 0, 1), (6, .getfield 18, 3), (9, .if_icmp .ge 23, 3), (12, .aload_n 0, 1), (13, .iload 4, 2), (15, .iload_n 1, 1), (16, .iload_n 2, 1), (17, .iload_n 3, 1), (18, .invokevirtual 26, 3), (21, .ifCond .eq 5, 3), (24, .iconst 1, 1), (25, .ireturn, 1), (26, .iinc 4 1, 3), (29, .goto (-26), 3), (32, .aload_n 0, 1), (33, .iload_n 1, 1), (34, .iload_n 2, 1), (35, .invokevirtual 30, 3), (38, .ireturn, 1)]
theorem cd_Ar_reaches : ∀ r ∈ tt_Ar_reaches, decode prog_2_method_5_code r.1 = .ok (r.2.1, r.2.2) := by decide +kernel
def tt_Ar_next : List (Nat × Instr × Nat) := [(0, .iload_n 1, 1), (1, .iconst 1, 1), (2, .iadd, 1), (3, .aload_n 0, 1), (4, .getfield 18, 3), (7, .if_icmp .ge 9, 3), (10, .iload_n 1, 1), (11, .iconst 1, 1), (12, .iadd, 1), (13, .goto 4, 3), (16, .iconst 0, 1), (17, .ireturn, 1)]
theorem cd_Ar_next : ∀ r ∈ tt_Ar_next, decode prog_2_method_6_code r.1 = .ok (r.2.1, r.2.2) := by decide +kernel
def tt_Ar_sidesClash : List (Nat × Instr × Nat) := [(0, .aload_n 0, 1), (1, .iload_n 1, 1), (2, .invokevirtual 33, 3), (5, .iload_n 2, 1), (6, .if_icmp .ne 15, 3), (9, .aload_n 0, 1), (10, .iload_n 1, 1), (11, .iload_n 2, 1), (12, .aload_n 0, 1), (13, .iload_n 2, 1), (14, .invokevirtual 33, 3), (17, .invokevirtual 37, 3), (20, .ireturn, 1), (21, .aload_n 0, 1), (22, .iload_n 2, 1), (23, .invokevirtual 33, 3), (26, .iload_n 1, 1), (27, .if_icmp .ne 15, 3), (30, .aload_n 0, 1), (31, .iload_n 2, 1), (32, .iload_n 1, 1), (33, .aload_n 0, 1), (34, .iload_n 1, 1), (35, .invokevirtual 33, 3), (38, .invokevirtual 37, 3), (41, .ireturn, 1), (42, .aload_n 0, 1), (43, .iload_n 1, 1), (44, .iload_n 2, 1), (45, .invokevirtual 41, 3), (48, .ireturn, 1)]
theorem cd_Ar_sidesClash : ∀ r ∈ tt_Ar_sidesClash, decode prog_2_method_7_code r.1 = .ok (r.2.1, r.2.2) := by decide +kernel
def tt_Ar_foldsBack : List (Nat × Instr × Nat) := [(0, .aload_n 0, 1), (1, .getfield 9, 3), (4, .iload_n 1, 1), (5, .iaload, 1), (6, .aload_n 0, 1), (7, .getfield 9, 3), (10, .iload_n 2, 1), (11, .iaload, 1), (12, .isub, 1), (13, .i2l, 1), (14, .lstore 4, 2), (16, .aload_n 0, 1), (17, .getfield 15, 3), (20, .iload_n 1, 1), (21, .iaload, 1), (22, .aload_n 0, 1), (23, .getfield 15, 3), (26, .iload_n 2, 1), (27, .iaload, 1), (28, .isub, 1), (29, .i2l, 1), (30, .lstore 6, 2), (32, .aload_n 0, 1), (33, .getfield 9, 3), (36, .iload_n 3, 1), (37, .iaload, 1), (38, .aload_n 0, 1), (39, .getfield 9, 3), (42, .iload_n 2, 1), (43, .iaload, 1), (44, .isub, 1), (45, .i2l, 1), (46, .lstore 8, 2), (48, .aload_n 0, 1), (49, .getfield 15, 3), (52, .iload_n 3, 1), (53, .iaload, 1), (54, .aload_n 0, 1), (55, .getfield 15, 3), (58, .iload_n 2, 1), (59, .iaload, 1), (60, .isub, 1), (61, .i2l, 1), (62, .lstore 10, 2), (64, .lload 4, 2), (66, .lload 10, 2), (68, .lmul, 1), (69, .lload 6, 2), (71, .lload 8, 2), (73, .lmul, 1), (74, .lcmp, 1), (75, .ifCond .ne 23, 3), (78, .lload 4, 2), (80, .lload 8, 2), (82, .lmul, 1), (83, .lload 6, 2), (85, .lload 10, 2), (87, .lmul, 1), (88, .ladd, 1), (89, .lconst 0, 1), (90, .lcmp, 1), (91, .ifCond .le 7, 3), (94, .iconst 1, 1), (95, .goto 4, 3), (98, .iconst 0, 1), (99, .ireturn, 1)]
theorem cd_Ar_foldsBack : ∀ r ∈ tt_Ar_foldsBack, decode prog_2_method_8_code r.1 = .ok (r.2.1, r.2.2) := by decide +kernel
def tt_Ar_sidesMeet : List (Nat × Instr × Nat) := [(0, .aload_n 0, 1), (1, .iload_n 1, 1), (2, .invokevirtual 33, 3), (5, .istore_n 3, 1), (6, .aload_n 0, 1), (7, .iload_n 2, 1), (8, .invokevirtual 33, 3), (11, .istore 4, 2), (13, .aload_n 0, 1), (14, .getfield 9, 3), (17, .iload_n 1, 1), (18, .iaload, 1), (19, .aload_n 0, 1), (20, .getfield 9, 3), (23, .iload_n 3, 1), (24, .iaload, 1), (25, .aload_n 0, 1), (26, .getfield 9, 3), (29, .iload_n 2, 1), (30, .iaload, 1), (31, .aload_n 0, 1), (32, .getfield 9, 3), (35, .iload 4, 2), (37, .iaload, 1), (38, .invokestatic 44, 3), (41, .ifCond .eq 120, 3), (44, .aload_n 0, 1), (45, .getfield 15, 3), (48, .iload_n 1, 1), (49, .iaload, 1), (50, .aload_n 0, 1), (51, .getfield 15, 3), (54, .iload_n 3, 1), (55, .iaload, 1), (56, .aload_n 0, 1), (57, .getfield 15, 3), (60, .iload_n 2, 1), (61, .iaload, 1), (62, .aload_n 0, 1), (63, .getfield 15, 3), (66, .iload 4, 2), (68, .iaload, 1), (69, .invokestatic 44, 3), (72, .ifCond .eq 89, 3), (75, .aload_n 0, 1), (76, .iload_n 1, 1), (77, .aload_n 0, 1), (78, .getfield 9, 3), (81, .iload_n 2, 1), (82, .iaload, 1), (83, .aload_n 0, 1), (84, .getfield 15, 3), (87, .iload_n 2, 1), (88, .iaload, 1), (89, .invokevirtual 47, 3), (92, .aload_n 0, 1), (93, .iload_n 1, 1), (94, .aload_n 0, 1), (95, .getfield 9, 3), (98, .iload 4, 2), (100, .iaload, 1), (101, .aload_n 0, 1), (102, .getfield 15, 3), (105, .iload 4, 2), (107, .iaload, 1), (108, .invokevirtual 47, 3), (111, .lmul, 1), (112, .lconst 0, 1), (113, .lcmp, 1), (114, .ifCond .gt 47, 3), (117, .aload_n 0, 1), (118, .iload_n 2, 1), (119, .aload_n 0, 1), (120, .getfield 9, 3), (123, .iload_n 1, 1), (124, .iaload, 1), (125, .aload_n 0, 1), (126, .getfield 15, 3), (129, .iload_n 1, 1), (130, .iaload, 1), (131, .invokevirtual 47, 3), (134, .aload_n 0, 1), (135, .iload_n 2, 1), (136, .aload_n 0, 1), (137, .getfield 9, 3), (140, .iload_n 3, 1), (141, .iaload, 1), (142, .aload_n 0, 1), (143, .getfield 15, 3), (146, .iload_n 3, 1), (147, .iaload, 1), (148, .invokevirtual 47, 3), (151, .lmul, 1), (152, .lconst 0, 1), (153, .lcmp, 1), (154, .ifCond .gt 7, 3), (157, .iconst 1, 1), (158, .goto 4, 3), (161, .iconst 0, 1), (162, .ireturn, 1)]
theorem cd_Ar_sidesMeet : ∀ r ∈ tt_Ar_sidesMeet, decode prog_2_method_9_code r.1 = .ok (r.2.1, r.2.2) := by decide +kernel
def tt_Ar_rangesMeet : List (Nat × Instr × Nat) := [(0, .iload_n 0, 1), (1, .iload_n 1, 1), (2, .invokestatic 51, 3), (5, .iload_n 2, 1), (6, .iload_n 3, 1), (7, .invokestatic 57, 3), (10, .if_icmp .lt 20, 3), (13, .iload_n 2, 1), (14, .iload_n 3, 1), (15, .invokestatic 51, 3), (18, .iload_n 0, 1), (19, .iload_n 1, 1), (20, .invokestatic 57, 3), (23, .if_icmp .lt 7, 3), (26, .iconst 1, 1), (27, .goto 4, 3), (30, .iconst 0, 1), (31, .ireturn, 1)]
theorem cd_Ar_rangesMeet : ∀ r ∈ tt_Ar_rangesMeet, decode prog_2_method_10_code r.1 = .ok (r.2.1, r.2.2) := by decide +kernel
def tt_Ar_turn : List (Nat × Instr × Nat) := [(0, .aload_n 0, 1), (1, .iload_n 1, 1), (2, .invokevirtual 33, 3), (5, .istore 4, 2), (7, .aload_n 0, 1), (8, .getfield 9, 3), (11, .iload 4, 2), (13, .iaload, 1), (14, .aload_n 0, 1), (15, .getfield 9, 3), (18, .iload_n 1, 1), (19, .iaload, 1), (20, .isub, 1), (21, .i2l, 1), (22, .lstore 5, 2), (24, .aload_n 0, 1), (25, .getfield 15, 3), (28, .iload 4, 2), (30, .iaload, 1), (31, .aload_n 0, 1), (32, .getfield 15, 3), (35, .iload_n 1, 1), (36, .iaload, 1), (37, .isub, 1), (38, .i2l, 1), (39, .lstore 7, 2), (41, .lload 5, 2), (43, .iload_n 3, 1), (44, .aload_n 0, 1), (45, .getfield 15, 3), (48, .iload_n 1, 1), (49, .iaload, 1), (50, .isub, 1), (51, .i2l, 1), (52, .lmul, 1), (53, .lload 7, 2), (55, .iload_n 2, 1), (56, .aload_n 0, 1), (57, .getfield 9, 3), (60, .iload_n 1, 1), (61, .iaload, 1), (62, .isub, 1), (63, .i2l, 1), (64, .lmul, 1), (65, .lsub, 1), (66, .lreturn, 1)]
theorem cd_Ar_turn : ∀ r ∈ tt_Ar_turn, decode prog_2_method_11_code r.1 = .ok (r.2.1, r.2.2) := by decide +kernel
def tt_Ar_sideReaches : List (Nat × Instr × Nat) := [(0, .aload_n 0, 1), (1, .iload_n 1, 1), (2, .invokevirtual 33, 3), (5, .istore 5, 2), (7, .iload 4, 2), (9, .i2l, 1), (10, .iload 4, 2), (12, .i2l, 1), (13, .lmul, 1), (14, .lstore 6, 2), (16, .aload_n 0, 1), (17, .getfield 9, 3), (20, .iload 5, 2), (22, .iaload, 1), (23, .aload_n 0, 1), (24, .getfield 9, 3), (27, .iload_n 1, 1), (28, .iaload, 1), (29, .isub, 1), (30, .i2l, 1), (31, .lstore 8, 2), (33, .aload_n 0, 1), (34, .getfield 15, 3), (37, .iload 5, 2), (39, .iaload, 1), (40, .aload_n 0, 1), (41, .getfield 15, 3), (44, .iload_n 1, 1), (45, .iaload, 1), (46, .isub, 1), (47, .i2l, 1), (48, .lstore 10, 2), (50, .lload 8, 2), (52, .lload 8, 2), (54, .lmul, 1), (55, .lload 10, 2), (57, .lload 10, 2), (59, .lmul, 1), (60, .ladd, 1), (61, .lstore 12, 2), (63, .lload 8, 2), (65, .iload_n 2, 1), (66, .aload_n 0, 1), (67, .getfield 9, 3), (70, .iload_n 1, 1), (71, .iaload, 1), (72, .isub, 1), (73, .i2l, 1), (74, .lmul, 1), (75, .lload 10, 2), (77, .iload_n 3, 1), (78, .aload_n 0, 1), (79, .getfield 15, 3), (82, .iload_n 1, 1), (83, .iaload, 1), (84, .isub, 1), (85, .i2l, 1), (86, .lmul, 1), (87, .ladd, 1), (88, .lstore 14, 2), (90, .lload 14, 2), (92, .lconst 0, 1), (93, .lcmp, 1), (94, .ifCond .gt 22, 3), (97, .aload_n 0, 1), (98, .iload_n 1, 1), (99, .iload_n 2, 1), (100, .iload_n 3, 1), (101, .invokevirtual 60, 3), (104, .lload 6, 2), (106, .lcmp, 1), (107, .ifCond .gt 7, 3), (110, .iconst 1, 1), (111, .goto 4, 3), (114, .iconst 0, 1), (115, .ireturn, 1), (116, .lload 14, 2), (118, .lload 12, 2), (120, .lcmp, 1), (121, .ifCond .lt 23, 3), (124, .aload_n 0, 1), (125, .iload 5, 2), (127, .iload_n 2, 1), (128, .iload_n 3, 1), (129, .invokevirtual 60, 3), (132, .lload 6, 2), (134, .lcmp, 1), (135, .ifCond .gt 7, 3), (138, .iconst 1, 1), (139, .goto 4, 3), (142, .iconst 0, 1), (143, .ireturn, 1), (144, .aload_n 0, 1), (145, .iload_n 1, 1), (146, .iload_n 2, 1), (147, .iload_n 3, 1), (148, .invokevirtual 47, 3), (151, .lstore 16, 2), (153, .lload 16, 2), (155, .lload 16, 2), (157, .lmul, 1), (158, .lload 6, 2), (160, .lload 12, 2), (162, .lmul, 1), (163, .lcmp, 1), (164, .ifCond .gt 7, 3), (167, .iconst 1, 1), (168, .goto 4, 3), (171, .iconst 0, 1), (172, .ireturn, 1)]
theorem cd_Ar_sideReaches : ∀ r ∈ tt_Ar_sideReaches, decode prog_2_method_12_code r.1 = .ok (r.2.1, r.2.2) := by decide +kernel
def tt_Ar_squareToCorner : List (Nat × Instr × Nat) := [(0, .iload_n 2, 1), (1, .aload_n 0, 1), (2, .getfield 9, 3), (5, .iload_n 1, 1), (6, .iaload, 1), (7, .isub, 1), (8, .i2l, 1), (9, .lstore 4, 2), (11, .iload_n 3, 1), (12, .aload_n 0, 1), (13, .getfield 15, 3), (16, .iload_n 1, 1), (17, .iaload, 1), (18, .isub, 1), (19, .i2l, 1), (20, .lstore 6, 2), (22, .lload 4, 2), (24, .lload 4, 2), (26, .lmul, 1), (27, .lload 6, 2), (29, .lload 6, 2), (31, .lmul, 1), (32, .ladd, 1), (33, .lreturn, 1)]
theorem cd_Ar_squareToCorner : ∀ r ∈ tt_Ar_squareToCorner, decode prog_2_method_13_code r.1 = .ok (r.2.1, r.2.2) := by decide +kernel
def tt_Ar_surrounds : List (Nat × Instr × Nat) := [(0, .iconst 0, 1), (1, .istore_n 3, 1), (2, .iconst 0, 1), (3, .istore 4, 2), (5, .iload 4, 2), (7, .aload_n 0, 1), (8, .getfield 18, 3), (11, .if_icmp .ge 109, 3), (14, .aload_n 0, 1), (15, .iload 4, 2), (17, .invokevirtual 33, 3), (20, .istore 5, 2), (22, .aload_n 0, 1), (23, .getfield 15, 3), (26, .iload 5, 2), (28, .iaload, 1), (29, .aload_n 0, 1), (30, .getfield 15, 3), (33, .iload 4, 2), (35, .iaload, 1), (36, .if_icmp .le 7, 3), (39, .iconst 1, 1), (40, .goto 4, 3), (43, .iconst 0, 1), (44, .istore 6, 2), (46, .aload_n 0, 1), (47, .getfield 15, 3), (50, .iload 4, 2), (52, .iaload, 1), (53, .iload_n 2, 1), (54, .if_icmp .le 7, 3), (57, .iconst 1, 1), (58, .goto 4, 3), (61, .iconst 0, 1), (62, .aload_n 0, 1), (63, .getfield 15, 3), (66, .iload 5, 2), (68, .iaload, 1), (69, .iload_n 2, 1), (70, .if_icmp .le 7, 3), (73, .iconst 1, 1), (74, .goto 4, 3), (77, .iconst 0, 1), (78, .if_icmp .eq 36, 3), (81, .iload 6, 2), (83, .aload_n 0, 1), (84, .iload 4, 2), (86, .iload_n 1, 1), (87, .iload_n 2, 1), (88, .invokevirtual 47, 3), (91, .lconst 0, 1), (92, .lcmp, 1), (93, .ifCond .le 7, 3), (96, .iconst 1, 1), (97, .goto 4, 3), (100, .iconst 0, 1), (101, .if_icmp .ne 13, 3), (104, .iload_n 3, 1), (105, .ifCond .ne 7, 3), (108, .iconst 1, 1), (109, .goto 4, 3), (112, .iconst 0, 1), (113, .istore_n 3, 1), (114, .iinc 4 1, 3), (117, .goto (-112), 3), (120, .iload_n 3, 1), (121, .ireturn, 1)]
theorem cd_Ar_surrounds : ∀ r ∈ tt_Ar_surrounds, decode prog_2_method_14_code r.1 = .ok (r.2.1, r.2.2) := by decide +kernel
def tt_Ce_init : List (Nat × Instr × Nat) := [(0, .aload_n 0, 1), (1, .invokespecial 3, 3), (4, .aload_n 0, 1), (5, .iload_n 1, 1), (6, .putfield 9, 3), (9, .aload_n 0, 1), (10, .iload_n 2, 1), (11, .putfield 15, 3), (14, .aload_n 0, 1), (15, .iload_n 3, 1), (16, .putfield 18, 3), (19, .aload_n 0, 1), (20, .iload 4, 2), (22, .putfield 21, 3), (25, .aload_n 0, 1), (26, .iconst 1, 1), (27, .putfield 24, 3), (30, .aload_n 0, 1), (31, .bipush 12, 2), (33, .anewarray 28, 3), (36, .putfield 30, 3), (39, .aload_n 0, 1), (40, .iconst 0, 1), (41, .putfield 34, 3), (44, .aload_n 0, 1), (45, .bipush 12, 2), (47, .anewarray 28, 3), (50, .putfield 37, 3), (53, .aload_n 0, 1), (54, .bipush 108, 2), (56, .anewarray 28, 3), (59, .putfield 40, 3), (62, .aload_n 0, 1), (63, .bipush 108, 2), (65, .newarray .int, 2), (67, .putfield 43, 3), (70, .aload_n 0, 1), (71, .bipush 108, 2), (73, .newarray .int, 2), (75, .putfield 47, 3), (78, .aload_n 0, 1), (79, .iconst 0, 1), (80, .putfield 50, 3), (83, .return_, 1)]
theorem cd_Ce_init : ∀ r ∈ tt_Ce_init, decode prog_4_method_1_code r.1 = .ok (r.2.1, r.2.2) := by decide +kernel
def tt_Ce_makeListAnew : List (Nat × Instr × Nat) := [(0, .iconst 0, 1), (1, .istore 4, 2), (3, .iconst 0, 1), (4, .istore 5, 2), (6, .iload 5, 2), (8, .iload_n 2, 1), (9, .if_icmp .ge 48, 3), (12, .aload_n 1, 1), (13, .iload 5, 2), (15, .aaload, 1), (16, .getfield 53, 3), (19, .astore 6, 2), (21, .aload 6, 2), (23, .getfield 59, 3), (26, .iload_n 3, 1), (27, .if_icmp .le 24, 3), (30, .aload_n 0, 1), (31, .aload 6, 2), (33, .invokevirtual 62, 3), (36, .ifCond .eq 15, 3), (39, .aload_n 0, 1), (40, .getfield 37, 3), (43, .iload 4, 2), (45, .aload 6, 2), (47, .aastore, 1), (48, .iinc 4 1, 3), (51, .iinc 5 1, 3), (54, .goto (-48), 3), (57, .aload_n 0, 1), (58, .getfield 30, 3), (61, .astore 5, 2), (63, .aload_n 0, 1), (64, .aload_n 0, 1), (65, .getfield 37, 3), (68, .putfield 30, 3), (71, .aload_n 0, 1), (72, .aload 5, 2), (74, .putfield 37, 3), (77, .aload_n 0, 1), (78, .iload 4, 2), (80, .putfield 34, 3), (83, .return_, 1)]
theorem cd_Ce_makeListAnew : ∀ r ∈ tt_Ce_makeListAnew, decode prog_4_method_2_code r.1 = .ok (r.2.1, r.2.2) := by decide +kernel
def tt_Ce_belongsHere : List (Nat × Instr × Nat) := [(0, .aload_n 1, 1), (1, .instanceof 66, 3), (4, .ifCond .eq 18, 3), (7, .aload_n 1, 1), (8, .checkcast 66, 3), (11, .astore_n 2, 1), (12, .aload_n 2, 1), (13, .getfield 68, 3), (16, .aload_n 0, 1), (17, .getfield 9, 3), (20, .baload, 1), (21, .ireturn, 1), (22, .aload_n 0, 1), (23, .aload_n 1, 1), (24, .getfield 72, 3), (27, .invokevirtual 76, 3), (30, .ireturn, 1)]
theorem cd_Ce_belongsHere : ∀ r ∈ tt_Ce_belongsHere, decode prog_4_method_3_code r.1 = .ok (r.2.1, r.2.2) := by decide +kernel
def tt_Ce_listsWarning : List (Nat × Instr × Nat) := [(0, .iconst 0, 1), (1, .istore_n 2, 1), (2, .iload_n 2, 1), (3, .aload_n 0, 1), (4, .getfield 34, 3), (7, .if_icmp .ge 24, 3), (10, .aload_n 0, 1), (11, .getfield 30, 3), (14, .iload_n 2, 1), (15, .aaload, 1), (16, .getfield 72, 3), (19, .aload_n 1, 1), (20, .if_acmp .ne 5, 3), (23, .iconst 1, 1), (24, .ireturn, 1), (25, .iinc 2 1, 3), (28, .goto (-26), 3), (31, .iconst 0, 1), (32, .ireturn, 1)]
theorem cd_Ce_listsWarning : ∀ r ∈ tt_Ce_listsWarning, decode prog_4_method_4_code r.1 = .ok (r.2.1, r.2.2) := by decide +kernel
def tt_Ce_dropEnded : List (Nat × Instr × Nat) := [(0, .iconst 0, 1), (1, .istore_n 2, 1), (2, .iconst 0, 1), (3, .istore_n 3, 1), (4, .iload_n 3, 1), (5, .aload_n 0, 1), (6, .getfield 34, 3), (9, .if_icmp .ge 37, 3), (12, .aload_n 0, 1), (13, .getfield 30, 3), (16, .iload_n 3, 1), (17, .aaload, 1), (18, .getfield 59, 3), (21, .iload_n 1, 1), (22, .if_icmp .le 18, 3), (25, .aload_n 0, 1), (26, .getfield 30, 3), (29, .iload_n 2, 1), (30, .aload_n 0, 1), (31, .getfield 30, 3), (34, .iload_n 3, 1), (35, .aaload, 1), (36, .aastore, 1), (37, .iinc 2 1, 3), (40, .iinc 3 1, 3), (43, .goto (-39), 3), (46, .aload_n 0, 1), (47, .iload_n 2, 1), (48, .putfield 34, 3), (51, .return_, 1)]
theorem cd_Ce_dropEnded : ∀ r ∈ tt_Ce_dropEnded, decode prog_4_method_5_code r.1 = .ok (r.2.1, r.2.2) := by decide +kernel
def tt_Ce_sendPages : List (Nat × Instr × Nat) := [(0, .aload_n 0, 1), (1, .iconst 0, 1), (2, .putfield 50, 3), (5, .iconst 5, 1), (6, .istore_n 2, 1), (7, .iload_n 2, 1), (8, .iconst 1, 1), (9, .if_icmp .lt 49, 3), (12, .iconst 0, 1), (13, .istore_n 3, 1), (14, .iload_n 3, 1), (15, .aload_n 0, 1), (16, .getfield 34, 3), (19, .if_icmp .ge 33, 3), (22, .aload_n 0, 1), (23, .getfield 30, 3), (26, .iload_n 3, 1), (27, .aaload, 1), (28, .getfield 80, 3), (31, .iload_n 2, 1), (32, .if_icmp .ne 14, 3), (35, .aload_n 0, 1), (36, .aload_n 0, 1), (37, .getfield 30, 3), (40, .iload_n 3, 1), (41, .aaload, 1), (42, .iload_n 1, 1), (43, .invokevirtual 83, 3), (46, .iinc 3 1, 3), (49, .goto (-35), 3), (52, .iinc 2 (-1), 3), (55, .goto (-48), 3), (58, .return_, 1)]
theorem cd_Ce_sendPages : ∀ r ∈ tt_Ce_sendPages, decode prog_4_method_6_code r.1 = .ok (r.2.1, r.2.2) := by decide +kernel
def tt_Ce_sendVersion : List (Nat × Instr × Nat) := [(0, .aload_n 1, 1), (1, .instanceof 66, 3), (4, .ifCond .eq 24, 3), (7, .aload_n 1, 1), (8, .checkcast 66, 3), (11, .astore_n 3, 1), (12, .aload_n 3, 1), (13, .iload_n 2, 1), (14, .invokevirtual 87, 3), (17, .ifCond .eq 18, 3), (20, .aload_n 0, 1), (21, .aload_n 3, 1), (22, .invokevirtual 91, 3), (25, .goto 10, 3), (28, .aload_n 0, 1), (29, .aload_n 1, 1), (30, .iconst 3, 1), (31, .iconst 0, 1), (32, .invokevirtual 95, 3), (35, .return_, 1)]
theorem cd_Ce_sendVersion : ∀ r ∈ tt_Ce_sendVersion, decode prog_4_method_7_code r.1 = .ok (r.2.1, r.2.2) := by decide +kernel
def tt_Ce_sendTexts : List (Nat × Instr × Nat) := [(0, .iconst 0, 1), (1, .istore_n 2, 1), (2, .iload_n 2, 1), (3, .iconst 3, 1), (4, .if_icmp .ge 41, 3), (7, .aload_n 1, 1), (8, .getfield 99, 3), (11, .iload_n 2, 1), (12, .invokevirtual 103, 3), (15, .istore_n 3, 1), (16, .iconst 0, 1), (17, .istore 4, 2), (19, .iload 4, 2), (21, .iload_n 3, 1), (22, .if_icmp .ge 17, 3), (25, .aload_n 0, 1), (26, .aload_n 1, 1), (27, .iload_n 2, 1), (28, .iload 4, 2), (30, .invokevirtual 95, 3), (33, .iinc 4 1, 3), (36, .goto (-17), 3), (39, .iinc 2 1, 3), (42, .goto (-40), 3), (45, .return_, 1)]
theorem cd_Ce_sendTexts : ∀ r ∈ tt_Ce_sendTexts, decode prog_4_method_8_code r.1 = .ok (r.2.1, r.2.2) := by decide +kernel
def tt_Ce_sendPage : List (Nat × Instr × Nat) := [(0, .aload_n 0, 1), (1, .getfield 40, 3), (4, .aload_n 0, 1), (5, .getfield 50, 3), (8, .aload_n 1, 1), (9, .aastore, 1), (10, .aload_n 0, 1), (11, .getfield 43, 3), (14, .aload_n 0, 1), (15, .getfield 50, 3), (18, .iload_n 2, 1), (19, .iastore, 1), (20, .aload_n 0, 1), (21, .getfield 47, 3), (24, .aload_n 0, 1), (25, .getfield 50, 3), (28, .iload_n 3, 1), (29, .iastore, 1), (30, .aload_n 0, 1), (31, .dup, 1), (32, .getfield 50, 3), (35, .iconst 1, 1), (36, .iadd, 1), (37, .putfield 50, 3), (40, .return_, 1)]
theorem cd_Ce_sendPage : ∀ r ∈ tt_Ce_sendPage, decode prog_4_method_9_code r.1 = .ok (r.2.1, r.2.2) := by decide +kernel
def tt_Ce_bytesOfPage : List (Nat × Instr × Nat) := [(0, .aload_n 0, 1), (1, .getfield 40, 3), (4, .iload_n 1, 1), (5, .aaload, 1), (6, .astore_n 3, 1), (7, .aload_n 3, 1), (8, .instanceof 66, 3), (11, .ifCond .eq 28, 3), (14, .aload_n 3, 1), (15, .checkcast 66, 3), (18, .astore_n 2, 1), (19, .aload_n 2, 1), (20, .getfield 99, 3), (23, .aload_n 0, 1), (24, .getfield 43, 3), (27, .iload_n 1, 1), (28, .iaload, 1), (29, .aload_n 0, 1), (30, .getfield 47, 3), (33, .iload_n 1, 1), (34, .iaload, 1), (35, .invokevirtual 109, 3), (38, .ireturn, 1), (39, .iconst 0, 1), (40, .ireturn, 1)]
theorem cd_Ce_bytesOfPage : ∀ r ∈ tt_Ce_bytesOfPage, decode prog_4_method_10_code r.1 = .ok (r.2.1, r.2.2) := by decide +kernel
def tt_Ha_init : List (Nat × Instr × Nat) := [(0, .aload_n 0, 1), (1, .invokespecial 3, 3), (4, .aload_n 0, 1), (5, .iload_n 1, 1), (6, .putfield 9, 3), (9, .aload_n 0, 1), (10, .iconst 3, 1), (11, .newarray .int, 2), (13, .putfield 15, 3), (16, .aload_n 0, 1), (17, .iconst 0, 1), (18, .putfield 19, 3), (21, .aload_n 0, 1), (22, .iconst (-1), 1), (23, .putfield 22, 3), (26, .aload_n 0, 1), (27, .iconst 0, 1), (28, .putfield 25, 3), (31, .aload_n 0, 1), (32, .iconst 0, 1), (33, .putfield 28, 3), (36, .aload_n 0, 1), (37, .bipush 12, 2), (39, .anewarray 31, 3), (42, .putfield 33, 3), (45, .aload_n 0, 1), (46, .bipush 12, 2), (48, .newarray .int, 2), (50, .putfield 37, 3), (53, .aload_n 0, 1), (54, .bipush 12, 2), (56, .newarray .boolean, 2), (58, .putfield 40, 3), (61, .aload_n 0, 1), (62, .bipush 40, 2), (64, .anewarray 44, 3), (67, .putfield 46, 3), (70, .aload_n 0, 1), (71, .bipush 40, 2), (73, .newarray .int, 2), (75, .putfield 50, 3), (78, .aload_n 0, 1), (79, .bipush 40, 2), (81, .newarray .int, 2), (83, .putfield 53, 3), (86, .aload_n 0, 1), (87, .iconst 0, 1), (88, .putfield 56, 3), (91, .return_, 1)]
theorem cd_Ha_init : ∀ r ∈ tt_Ha_init, decode prog_5_method_1_code r.1 = .ok (r.2.1, r.2.2) := by decide +kernel
def tt_Ha_addLiked : List (Nat × Instr × Nat) := [(0, .aload_n 0, 1), (1, .getfield 15, 3), (4, .aload_n 0, 1), (5, .getfield 19, 3), (8, .iload_n 1, 1), (9, .iastore, 1), (10, .aload_n 0, 1), (11, .dup, 1), (12, .getfield 19, 3), (15, .iconst 1, 1), (16, .iadd, 1), (17, .putfield 19, 3), (20, .aload_n 0, 1), (21, .getfield 19, 3), (24, .ireturn, 1)]
theorem cd_Ha_addLiked : ∀ r ∈ tt_Ha_addLiked, decode prog_5_method_2_code r.1 = .ok (r.2.1, r.2.2) := by decide +kernel
def tt_Ha_listen : List (Nat × Instr × Nat) := [(0, .iconst 0, 1), (1, .istore_n 3, 1), (2, .iload_n 3, 1), (3, .aload_n 1, 1), (4, .getfield 59, 3), (7, .if_icmp .ge 52, 3), (10, .aload_n 0, 1), (11, .getfield 25, 3), (14, .ifCond .le 16, 3), (17, .aload_n 0, 1), (18, .dup, 1), (19, .getfield 25, 3), (22, .iconst 1, 1), (23, .isub, 1), (24, .putfield 25, 3), (27, .goto 26, 3), (30, .aload_n 0, 1), (31, .aload_n 1, 1), (32, .getfield 64, 3), (35, .iload_n 3, 1), (36, .aaload, 1), (37, .aload_n 1, 1), (38, .getfield 67, 3), (41, .iload_n 3, 1), (42, .iaload, 1), (43, .aload_n 1, 1), (44, .getfield 70, 3), (47, .iload_n 3, 1), (48, .iaload, 1), (49, .iload_n 2, 1), (50, .invokevirtual 73, 3), (53, .iinc 3 1, 3), (56, .goto (-54), 3), (59, .return_, 1)]
theorem cd_Ha_listen : ∀ r ∈ tt_Ha_listen, decode prog_5_method_3_code r.1 = .ok (r.2.1, r.2.2) := by decide +kernel
def tt_Ha_hear : List (Nat × Instr × Nat) := [(0, .aload_n 1, 1), (1, .getfield 77, 3), (4, .getfield 81, 3), (7, .istore 5, 2), (9, .aload_n 0, 1), (10, .getfield 33, 3), (13, .iload 5, 2), (15, .aaload, 1), (16, .ifnull 21, 3), (19, .aload_n 0, 1), (20, .getfield 33, 3), (23, .iload 5, 2), (25, .aaload, 1), (26, .getfield 86, 3), (29, .aload_n 1, 1), (30, .getfield 86, 3), (33, .if_icmp .le 4, 3), (36, .return_, 1), (37, .aload_n 0, 1), (38, .getfield 33, 3), (41, .iload 5, 2), (43, .aaload, 1), (44, .aload_n 1, 1), (45, .if_acmp .eq 27, 3), (48, .aload_n 0, 1), (49, .getfield 33, 3), (52, .iload 5, 2), (54, .aload_n 1, 1), (55, .aastore, 1), (56, .aload_n 0, 1), (57, .getfield 37, 3), (60, .iload 5, 2), (62, .iconst 0, 1), (63, .iastore, 1), (64, .aload_n 0, 1), (65, .getfield 40, 3), (68, .iload 5, 2), (70, .iconst 0, 1), (71, .bastore, 1), (72, .aload_n 1, 1), (73, .instanceof 44, 3), (76, .ifCond .eq 44, 3), (79, .aload_n 1, 1), (80, .checkcast 44, 3), (83, .astore 6, 2), (85, .aload_n 0, 1), (86, .getfield 37, 3), (89, .iload 5, 2), (91, .dup2, 1), (92, .iaload, 1), (93, .iload_n 2, 1), (94, .iconst 1, 1), (95, .invokestatic 89, 3), (98, .iload_n 3, 1), (99, .ishl, 1), (100, .ior, 1), (101, .iastore, 1), (102, .aload_n 0, 1), (103, .getfield 40, 3), (106, .iload 5, 2), (108, .baload, 1), (109, .ifCond .ne 11, 3), (112, .aload_n 0, 1), (113, .aload 6, 2), (115, .iload 4, 2), (117, .invokevirtual 93, 3), (120, .return_, 1)]
theorem cd_Ha_hear : ∀ r ∈ tt_Ha_hear, decode prog_5_method_4_code r.1 = .ok (r.2.1, r.2.2) := by decide +kernel
def tt_Ha_pageBits : List (Nat × Instr × Nat) := [(0, .iconst 1, 1), (1, .iload_n 1, 1), (2, .ishl, 1), (3, .iconst 1, 1), (4, .isub, 1), (5, .iload_n 0, 1), (6, .iconst 3, 1), (7, .imul, 1), (8, .ishl, 1), (9, .ireturn, 1)]
theorem cd_Ha_pageBits : ∀ r ∈ tt_Ha_pageBits, decode prog_5_method_5_code r.1 = .ok (r.2.1, r.2.2) := by decide +kernel
def tt_Ha_showIfWhole : List (Nat × Instr × Nat) := [(0, .aload_n 1, 1), (1, .getfield 97, 3), (4, .getfield 81, 3), (7, .istore_n 3, 1), (8, .aload_n 0, 1), (9, .aload_n 1, 1), (10, .getfield 98, 3), (13, .invokevirtual 102, 3), (16, .istore 4, 2), (18, .iload 4, 2), (20, .aload_n 1, 1), (21, .getfield 98, 3), (24, .iload 4, 2), (26, .invokevirtual 106, 3), (29, .invokestatic 89, 3), (32, .istore 5, 2), (34, .aload_n 0, 1), (35, .getfield 37, 3), (38, .iload_n 3, 1), (39, .iaload, 1), (40, .iload 5, 2), (42, .iand, 1), (43, .iload 5, 2), (45, .if_icmp .eq 4, 3), (48, .return_, 1), (49, .aload_n 0, 1), (50, .getfield 40, 3), (53, .iload_n 3, 1), (54, .iconst 1, 1), (55, .bastore, 1), (56, .aload_n 0, 1), (57, .getfield 46, 3), (60, .aload_n 0, 1), (61, .getfield 56, 3), (64, .aload_n 1, 1), (65, .aastore, 1), (66, .aload_n 0, 1), (67, .getfield 50, 3), (70, .aload_n 0, 1), (71, .getfield 56, 3), (74, .iload 4, 2), (76, .iastore, 1), (77, .aload_n 0, 1), (78, .getfield 53, 3), (81, .aload_n 0, 1), (82, .getfield 56, 3), (85, .iload_n 2, 1), (86, .iastore, 1), (87, .aload_n 0, 1), (88, .dup, 1), (89, .getfield 56, 3), (92, .iconst 1, 1), (93, .iadd, 1), (94, .putfield 56, 3), (97, .aload_n 1, 1), (98, .getfield 112, 3), (101, .aload_n 0, 1), (102, .getfield 9, 3), (105, .if_icmp .lt 13, 3), (108, .aload_n 0, 1), (109, .dup, 1), (110, .getfield 28, 3), (113, .iconst 1, 1), (114, .iadd, 1), (115, .putfield 28, 3), (118, .return_, 1)]
theorem cd_Ha_showIfWhole : ∀ r ∈ tt_Ha_showIfWhole, decode prog_5_method_6_code r.1 = .ok (r.2.1, r.2.2) := by decide +kernel
def tt_Ha_choose : List (Nat × Instr × Nat) := [(0, .iconst 0, 1), (1, .istore_n 2, 1), (2, .iload_n 2, 1), (3, .aload_n 0, 1), (4, .getfield 19, 3), (7, .if_icmp .ge 29, 3), (10, .aload_n 1, 1), (11, .aload_n 0, 1), (12, .getfield 15, 3), (15, .iload_n 2, 1), (16, .iaload, 1), (17, .invokevirtual 115, 3), (20, .ifCond .eq 10, 3), (23, .aload_n 0, 1), (24, .getfield 15, 3), (27, .iload_n 2, 1), (28, .iaload, 1), (29, .ireturn, 1), (30, .iinc 2 1, 3), (33, .goto (-31), 3), (36, .iconst 0, 1), (37, .istore_n 2, 1), (38, .iload_n 2, 1), (39, .iconst 2, 1), (40, .if_icmp .ge 17, 3), (43, .aload_n 1, 1), (44, .iload_n 2, 1), (45, .invokevirtual 115, 3), (48, .ifCond .ne 9, 3), (51, .iinc 2 1, 3), (54, .goto (-16), 3), (57, .iload_n 2, 1), (58, .ireturn, 1)]
theorem cd_Ha_choose : ∀ r ∈ tt_Ha_choose, decode prog_5_method_7_code r.1 = .ok (r.2.1, r.2.2) := by decide +kernel
def tt_Ha_isCurrent : List (Nat × Instr × Nat) := [(0, .aload_n 0, 1), (1, .getfield 46, 3), (4, .iload_n 1, 1), (5, .aaload, 1), (6, .astore_n 3, 1), (7, .aload_n 3, 1), (8, .getfield 119, 3), (11, .iload_n 2, 1), (12, .if_icmp .le 23, 3), (15, .aload_n 0, 1), (16, .getfield 33, 3), (19, .aload_n 3, 1), (20, .getfield 97, 3), (23, .getfield 81, 3), (26, .aaload, 1), (27, .aload_n 3, 1), (28, .if_acmp .ne 7, 3), (31, .iconst 1, 1), (32, .goto 4, 3), (35, .iconst 0, 1), (36, .ireturn, 1)]
theorem cd_Ha_isCurrent : ∀ r ∈ tt_Ha_isCurrent, decode prog_5_method_8_code r.1 = .ok (r.2.1, r.2.2) := by decide +kernel
def tt_Ha_bytesOfShown : List (Nat × Instr × Nat) := [(0, .aload_n 0, 1), (1, .getfield 46, 3), (4, .iload_n 1, 1), (5, .aaload, 1), (6, .getfield 98, 3), (9, .getfield 122, 3), (12, .aload_n 0, 1), (13, .getfield 50, 3), (16, .iload_n 1, 1), (17, .iaload, 1), (18, .iaload, 1), (19, .ireturn, 1)]
theorem cd_Ha_bytesOfShown : ∀ r ∈ tt_Ha_bytesOfShown, decode prog_5_method_9_code r.1 = .ok (r.2.1, r.2.2) := by decide +kernel
end
section
def tt_Mo_init : List (Nat × Instr × Nat) := [(0, .aload_n 0, 1), (1, .invokespecial 1, 3), (4, .aload_n 0, 1), (5, .bipush 8, 2), (7, .newarray .int, 2), (9, .putfield 7, 3), (12, .aload_n 0, 1), (13, .bipush 8, 2), (15, .newarray .int, 2), (17, .putfield 13, 3), (20, .aload_n 0, 1), (21, .bipush 8, 2), (23, .newarray .int, 2), (25, .putfield 16, 3), (28, .aload_n 0, 1), (29, .bipush 8, 2), (31, .newarray .boolean, 2), (33, .putfield 19, 3), (36, .aload_n 0, 1), (37, .bipush 8, 2), (39, .newarray .int, 2), (41, .putfield 23, 3), (44, .aload_n 0, 1), (45, .bipush 96, 2), (47, .newarray .int, 2), (49, .putfield 26, 3), (52, .aload_n 0, 1), (53, .bipush 12, 2), (55, .newarray .int, 2), (57, .putfield 29, 3), (60, .aload_n 0, 1), (61, .bipush 8, 2), (63, .newarray .int, 2), (65, .putfield 32, 3), (68, .aload_n 0, 1), (69, .sipush 864, 3), (72, .newarray .int, 2), (74, .putfield 35, 3), (77, .aload_n 0, 1), (78, .sipush 864, 3), (81, .newarray .int, 2), (83, .putfield 38, 3), (86, .aload_n 0, 1), (87, .sipush 864, 3), (90, .newarray .int, 2), (92, .putfield 41, 3), (95, .aload_n 0, 1), (96, .bipush 8, 2), (98, .newarray .int, 2), (100, .putfield 44, 3), (103, .aload_n 0, 1), (104, .bipush 8, 2), (106, .newarray .int, 2), (108, .putfield 47, 3), (111, .aload_n 0, 1), (112, .iconst 3, 1), (113, .newarray .int, 2), (115, .putfield 50, 3), (118, .aload_n 0, 1), (119, .bipush 90, 2), (121, .newarray .int, 2), (123, .putfield 53, 3), (126, .aload_n 0, 1), (127, .bipush 12, 2), (129, .newarray .int, 2), (131, .putfield 56, 3), (134, .aload_n 0, 1), (135, .bipush 12, 2), (137, .newarray .int, 2), (139, .putfield 59, 3), (142, .aload_n 0, 1), (143, .bipush 40, 2), (145, .newarray .int, 2), (147, .putfield 62, 3), (150, .aload_n 0, 1), (151, .bipush 40, 2), (153, .newarray .int, 2), (155, .putfield 65, 3), (158, .aload_n 0, 1), (159, .bipush 40, 2), (161, .newarray .int, 2), (163, .putfield 68, 3), (166, .aload_n 0, 1), (167, .bipush 40, 2), (169, .newarray .int, 2), (171, .putfield 71, 3), (174, .aload_n 0, 1), (175, .bipush 40, 2), (177, .newarray .boolean, 2), (179, .putfield 74, 3), (182, .aload_n 0, 1), (183, .bipush 40, 2), (185, .newarray .int, 2), (187, .putfield 77, 3), (190, .aload_n 0, 1), (191, .bipush 40, 2), (193, .newarray .int, 2), (195, .putfield 80, 3), (198, .aload_n 0, 1), (199, .bipush 40, 2), (201, .newarray .int, 2), (203, .putfield 83, 3), (206, .aload_n 0, 1), (207, .sipush 320, 3), (210, .newarray .int, 2), (212, .putfield 86, 3), (215, .aload_n 0, 1), (216, .sipush 320, 3), (219, .newarray .int, 2), (221, .putfield 89, 3), (224, .aload_n 0, 1), (225, .bipush 120, 2), (227, .newarray .int, 2), (229, .putfield 92, 3), (232, .aload_n 0, 1), (233, .sipush 3600, 3), (236, .newarray .int, 2), (238, .putfield 95, 3), (241, .aload_n 0, 1), (242, .iconst 3, 1), (243, .newarray .int, 2), (245, .putfield 98, 3), (248, .aload_n 0, 1), (249, .iconst 3, 1), (250, .newarray .int, 2), (252, .putfield 101, 3), (255, .aload_n 0, 1), (256, .bipush 9, 2), (258, .newarray .int, 2), (260, .putfield 104, 3), (263, .aload_n 0, 1), (264, .iconst 3, 1), (265, .newarray .int, 2), (267, .putfield 107, 3), (270, .aload_n 0, 1), (271, .iconst 3, 1), (272, .newarray .int, 2), (274, .putfield 110, 3), (277, .aload_n 0, 1), (278, .iconst 3, 1), (279, .newarray .int, 2), (281, .putfield 113, 3), (284, .aload_n 0, 1), (285, .bipush 36, 2), (287, .newarray .int, 2), (289, .putfield 116, 3), (292, .aload_n 0, 1), (293, .bipush 36, 2), (295, .newarray .int, 2), (297, .putfield 119, 3), (300, .aload_n 0, 1), (301, .bipush 120, 2), (303, .newarray .boolean, 2), (305, .putfield 122, 3), (308, .aload_n 0, 1), (309, .iconst 3, 1), (310, .newarray .int, 2), (312, .putfield 125, 3), (315, .aload_n 0, 1), (316, .bipush 120, 2), (318, .newarray .int, 2), (320, .putfield 128, 3), (323, .aload_n 0, 1), (324, .bipush 120, 2), (326, .newarray .int, 2), (328, .putfield 131, 3), (331, .aload_n 0, 1), (332, .bipush 120, 2), (334, .newarray .int, 2), (336, .putfield 134, 3), (339, .return_, 1)]
theorem cd_Mo_init : ∀ r ∈ tt_Mo_init, decode prog_12_method_1_code r.1 = .ok (r.2.1, r.2.2) := by decide +kernel
def tt_Mo_thrown : List (Nat × Instr × Nat) := [(0, .aload_n 0, 1), (1, .getfield 137, 3), (4, .ireturn, 1)]
theorem cd_Mo_thrown : ∀ r ∈ tt_Mo_thrown, decode prog_12_method_2_code r.1 = .ok (r.2.1, r.2.2) := by decide +kernel
def tt_Mo_isPlace : List (Nat × Instr × Nat) := [(0, .iload_n 0, 1), (1, .sipush (-1000), 3), (4, .if_icmp .lt 14, 3), (7, .iload_n 0, 1), (8, .sipush 1000, 3), (11, .if_icmp .gt 7, 3), (14, .iconst 1, 1), (15, .goto 4, 3), (18, .iconst 0, 1), (19, .ireturn, 1)]
theorem cd_Mo_isPlace : ∀ r ∈ tt_Mo_isPlace, decode prog_12_method_3_code r.1 = .ok (r.2.1, r.2.2) := by decide +kernel
def tt_Mo_cell : List (Nat × Instr × Nat) := [(0, .aload_n 0, 1), (1, .iload_n 1, 1), (2, .invokestatic 141, 3), (5, .ifCond .eq 22, 3), (8, .iload_n 2, 1), (9, .invokestatic 141, 3), (12, .ifCond .eq 15, 3), (15, .iload_n 3, 1), (16, .iconst 1, 1), (17, .if_icmp .lt 10, 3), (20, .iload_n 3, 1), (21, .sipush 2000, 3), (24, .if_icmp .le 7, 3), (27, .iconst 1, 1), (28, .goto 17, 3), (31, .aload_n 0, 1), (32, .getfield 145, 3), (35, .bipush 8, 2), (37, .if_icmp .ne 7, 3), (40, .iconst 2, 1), (41, .goto 4, 3), (44, .iconst 0, 1), (45, .putfield 137, 3), (48, .aload_n 0, 1), (49, .getfield 137, 3), (52, .ifCond .le 5, 3), (55, .iconst 0, 1), (56, .ireturn, 1), (57, .aload_n 0, 1), (58, .getfield 7, 3), (61, .aload_n 0, 1), (62, .getfield 145, 3), (65, .iload_n 1, 1), (66, .iastore, 1), (67, .aload_n 0, 1), (68, .getfield 13, 3), (71, .aload_n 0, 1), (72, .getfield 145, 3), (75, .iload_n 2, 1), (76, .iastore, 1), (77, .aload_n 0, 1), (78, .getfield 16, 3), (81, .aload_n 0, 1), (82, .getfield 145, 3), (85, .iload_n 3, 1), (86, .iastore, 1), (87, .aload_n 0, 1), (88, .dup, 1), (89, .getfield 145, 3), (92, .iconst 1, 1), (93, .iadd, 1), (94, .putfield 145, 3), (97, .aload_n 0, 1), (98, .getfield 145, 3), (101, .iconst 1, 1), (102, .isub, 1), (103, .ireturn, 1)]
theorem cd_Mo_cell : ∀ r ∈ tt_Mo_cell, decode prog_12_method_4_code r.1 = .ok (r.2.1, r.2.2) := by decide +kernel
def tt_Mo_corner : List (Nat × Instr × Nat) := [(0, .aload_n 0, 1), (1, .iload_n 1, 1), (2, .invokestatic 141, 3), (5, .ifCond .eq 10, 3), (8, .iload_n 2, 1), (9, .invokestatic 141, 3), (12, .ifCond .ne 7, 3), (15, .iconst 1, 1), (16, .goto 17, 3), (19, .aload_n 0, 1), (20, .getfield 148, 3), (23, .bipush 8, 2), (25, .if_icmp .ne 7, 3), (28, .iconst 2, 1), (29, .goto 4, 3), (32, .iconst 0, 1), (33, .putfield 137, 3), (36, .aload_n 0, 1), (37, .getfield 137, 3), (40, .ifCond .le 5, 3), (43, .iconst 0, 1), (44, .ireturn, 1), (45, .aload_n 0, 1), (46, .getfield 44, 3), (49, .aload_n 0, 1), (50, .getfield 148, 3), (53, .iload_n 1, 1), (54, .iastore, 1), (55, .aload_n 0, 1), (56, .getfield 47, 3), (59, .aload_n 0, 1), (60, .getfield 148, 3), (63, .iload_n 2, 1), (64, .iastore, 1), (65, .aload_n 0, 1), (66, .dup, 1), (67, .getfield 148, 3), (70, .iconst 1, 1), (71, .iadd, 1), (72, .putfield 148, 3), (75, .aload_n 0, 1), (76, .getfield 148, 3), (79, .ireturn, 1)]
theorem cd_Mo_corner : ∀ r ∈ tt_Mo_corner, decode prog_12_method_5_code r.1 = .ok (r.2.1, r.2.2) := by decide +kernel
def tt_Mo_text : List (Nat × Instr × Nat) := [(0, .aload_n 0, 1), (1, .iload_n 1, 1), (2, .ifCond .lt 19, 3), (5, .iload_n 1, 1), (6, .iconst 2, 1), (7, .if_icmp .gt 14, 3), (10, .iload_n 2, 1), (11, .ifCond .lt 10, 3), (14, .iload_n 2, 1), (15, .sipush 255, 3), (18, .if_icmp .le 7, 3), (21, .iconst 1, 1), (22, .goto 19, 3), (25, .aload_n 0, 1), (26, .getfield 50, 3), (29, .iload_n 1, 1), (30, .iaload, 1), (31, .bipush 30, 2), (33, .if_icmp .ne 7, 3), (36, .iconst 2, 1), (37, .goto 4, 3), (40, .iconst 0, 1), (41, .putfield 137, 3), (44, .aload_n 0, 1), (45, .getfield 137, 3), (48, .ifCond .le 5, 3), (51, .iconst 0, 1), (52, .ireturn, 1), (53, .aload_n 0, 1), (54, .getfield 53, 3), (57, .bipush 30, 2), (59, .iload_n 1, 1), (60, .imul, 1), (61, .aload_n 0, 1), (62, .getfield 50, 3), (65, .iload_n 1, 1), (66, .iaload, 1), (67, .iadd, 1), (68, .iload_n 2, 1), (69, .iastore, 1), (70, .aload_n 0, 1), (71, .getfield 50, 3), (74, .iload_n 1, 1), (75, .dup2, 1), (76, .iaload, 1), (77, .iconst 1, 1), (78, .iadd, 1), (79, .iastore, 1), (80, .aload_n 0, 1), (81, .getfield 50, 3), (84, .iload_n 1, 1), (85, .iaload, 1), (86, .ireturn, 1)]
theorem cd_Mo_text : ∀ r ∈ tt_Mo_text, decode prog_12_method_6_code r.1 = .ok (r.2.1, r.2.2) := by decide +kernel
def tt_Mo_clear : List (Nat × Instr × Nat) := [(0, .aload_n 0, 1), (1, .iconst 0, 1), (2, .putfield 137, 3), (5, .aload_n 0, 1), (6, .getfield 148, 3), (9, .aload_n 0, 1), (10, .getfield 50, 3), (13, .iconst 0, 1), (14, .iaload, 1), (15, .iadd, 1), (16, .aload_n 0, 1), (17, .getfield 50, 3), (20, .iconst 1, 1), (21, .iaload, 1), (22, .iadd, 1), (23, .aload_n 0, 1), (24, .getfield 50, 3), (27, .iconst 2, 1), (28, .iaload, 1), (29, .iadd, 1), (30, .istore_n 1, 1), (31, .aload_n 0, 1), (32, .iconst 0, 1), (33, .putfield 148, 3), (36, .iconst 0, 1), (37, .istore_n 2, 1), (38, .iload_n 2, 1), (39, .iconst 3, 1), (40, .if_icmp .ge 16, 3), (43, .aload_n 0, 1), (44, .getfield 50, 3), (47, .iload_n 2, 1), (48, .iconst 0, 1), (49, .iastore, 1), (50, .iinc 2 1, 3), (53, .goto (-15), 3), (56, .iload_n 1, 1), (57, .ireturn, 1)]
theorem cd_Mo_clear : ∀ r ∈ tt_Mo_clear, decode prog_12_method_7_code r.1 = .ok (r.2.1, r.2.2) := by decide +kernel
def tt_Mo_sign : List (Nat × Instr × Nat) := [(0, .iload_n 0, 1), (1, .ifCond .le 7, 3), (4, .iconst 1, 1), (5, .goto 12, 3), (8, .iload_n 0, 1), (9, .ifCond .ge 7, 3), (12, .iconst (-1), 1), (13, .goto 4, 3), (16, .iconst 0, 1), (17, .ireturn, 1)]
theorem cd_Mo_sign : ∀ r ∈ tt_Mo_sign, decode prog_12_method_8_code r.1 = .ok (r.2.1, r.2.2) := by decide +kernel
def tt_Mo_turn : List (Nat × Instr × Nat) := [(0, .aload_n 0, 1), (1, .getfield 44, 3), (4, .iload_n 2, 1), (5, .iaload, 1), (6, .aload_n 0, 1), (7, .getfield 44, 3), (10, .iload_n 1, 1), (11, .iaload, 1), (12, .isub, 1), (13, .aload_n 0, 1), (14, .getfield 47, 3), (17, .iload_n 3, 1), (18, .iaload, 1), (19, .aload_n 0, 1), (20, .getfield 47, 3), (23, .iload_n 1, 1), (24, .iaload, 1), (25, .isub, 1), (26, .imul, 1), (27, .aload_n 0, 1), (28, .getfield 47, 3), (31, .iload_n 2, 1), (32, .iaload, 1), (33, .aload_n 0, 1), (34, .getfield 47, 3), (37, .iload_n 1, 1), (38, .iaload, 1), (39, .isub, 1), (40, .aload_n 0, 1), (41, .getfield 44, 3), (44, .iload_n 3, 1), (45, .iaload, 1), (46, .aload_n 0, 1), (47, .getfield 44, 3), (50, .iload_n 1, 1), (51, .iaload, 1), (52, .isub, 1), (53, .imul, 1), (54, .isub, 1), (55, .invokestatic 151, 3), (58, .ireturn, 1)]
theorem cd_Mo_turn : ∀ r ∈ tt_Mo_turn, decode prog_12_method_9_code r.1 = .ok (r.2.1, r.2.2) := by decide +kernel
def tt_Mo_isBetween : List (Nat × Instr × Nat) := [(0, .aload_n 0, 1), (1, .getfield 44, 3), (4, .iload_n 1, 1), (5, .iaload, 1), (6, .aload_n 0, 1), (7, .getfield 44, 3), (10, .iload_n 3, 1), (11, .iaload, 1), (12, .isub, 1), (13, .aload_n 0, 1), (14, .getfield 44, 3), (17, .iload_n 2, 1), (18, .iaload, 1), (19, .aload_n 0, 1), (20, .getfield 44, 3), (23, .iload_n 3, 1), (24, .iaload, 1), (25, .isub, 1), (26, .imul, 1), (27, .aload_n 0, 1), (28, .getfield 47, 3), (31, .iload_n 1, 1), (32, .iaload, 1), (33, .aload_n 0, 1), (34, .getfield 47, 3), (37, .iload_n 3, 1), (38, .iaload, 1), (39, .isub, 1), (40, .aload_n 0, 1), (41, .getfield 47, 3), (44, .iload_n 2, 1), (45, .iaload, 1), (46, .aload_n 0, 1), (47, .getfield 47, 3), (50, .iload_n 3, 1), (51, .iaload, 1), (52, .isub, 1), (53, .imul, 1), (54, .iadd, 1), (55, .istore 4, 2), (57, .aload_n 0, 1), (58, .iload_n 1, 1), (59, .iload_n 2, 1), (60, .iload_n 3, 1), (61, .invokevirtual 155, 3), (64, .ifCond .ne 12, 3), (67, .iload 4, 2), (69, .ifCond .gt 7, 3), (72, .iconst 1, 1), (73, .goto 4, 3), (76, .iconst 0, 1), (77, .ireturn, 1)]
theorem cd_Mo_isBetween : ∀ r ∈ tt_Mo_isBetween, decode prog_12_method_10_code r.1 = .ok (r.2.1, r.2.2) := by decide +kernel
def tt_Mo_meet : List (Nat × Instr × Nat) := [(0, .aload_n 0, 1), (1, .iload_n 1, 1), (2, .iload_n 2, 1), (3, .iload_n 3, 1), (4, .invokevirtual 155, 3), (7, .aload_n 0, 1), (8, .iload_n 1, 1), (9, .iload_n 2, 1), (10, .iload 4, 2), (12, .invokevirtual 155, 3), (15, .imul, 1), (16, .ifCond .ge 27, 3), (19, .aload_n 0, 1), (20, .iload_n 3, 1), (21, .iload 4, 2), (23, .iload_n 1, 1), (24, .invokevirtual 155, 3), (27, .aload_n 0, 1), (28, .iload_n 3, 1), (29, .iload 4, 2), (31, .iload_n 2, 1), (32, .invokevirtual 155, 3), (35, .imul, 1), (36, .ifCond .ge 7, 3), (39, .iconst 1, 1), (40, .goto 4, 3), (43, .iconst 0, 1), (44, .istore 5, 2), (46, .iload 5, 2), (48, .ifCond .ne 46, 3), (51, .aload_n 0, 1), (52, .iload_n 1, 1), (53, .iload_n 2, 1), (54, .iload_n 3, 1), (55, .invokevirtual 159, 3), (58, .ifCond .ne 36, 3), (61, .aload_n 0, 1), (62, .iload_n 1, 1), (63, .iload_n 2, 1), (64, .iload 4, 2), (66, .invokevirtual 159, 3), (69, .ifCond .ne 25, 3), (72, .aload_n 0, 1), (73, .iload_n 3, 1), (74, .iload 4, 2), (76, .iload_n 1, 1), (77, .invokevirtual 159, 3), (80, .ifCond .ne 14, 3), (83, .aload_n 0, 1), (84, .iload_n 3, 1), (85, .iload 4, 2), (87, .iload_n 2, 1), (88, .invokevirtual 159, 3), (91, .ifCond .eq 7, 3), (94, .iconst 1, 1), (95, .goto 4, 3), (98, .iconst 0, 1), (99, .ireturn, 1)]
theorem cd_Mo_meet : ∀ r ∈ tt_Mo_meet, decode prog_12_method_11_code r.1 = .ok (r.2.1, r.2.2) := by decide +kernel
def tt_Mo_fold : List (Nat × Instr × Nat) := [(0, .aload_n 0, 1), (1, .getfield 44, 3), (4, .iload_n 1, 1), (5, .iaload, 1), (6, .aload_n 0, 1), (7, .getfield 44, 3), (10, .iload_n 2, 1), (11, .iaload, 1), (12, .isub, 1), (13, .aload_n 0, 1), (14, .getfield 44, 3), (17, .iload_n 3, 1), (18, .iaload, 1), (19, .aload_n 0, 1), (20, .getfield 44, 3), (23, .iload_n 2, 1), (24, .iaload, 1), (25, .isub, 1), (26, .imul, 1), (27, .aload_n 0, 1), (28, .getfield 47, 3), (31, .iload_n 1, 1), (32, .iaload, 1), (33, .aload_n 0, 1), (34, .getfield 47, 3), (37, .iload_n 2, 1), (38, .iaload, 1), (39, .isub, 1), (40, .aload_n 0, 1), (41, .getfield 47, 3), (44, .iload_n 3, 1), (45, .iaload, 1), (46, .aload_n 0, 1), (47, .getfield 47, 3), (50, .iload_n 2, 1), (51, .iaload, 1), (52, .isub, 1), (53, .imul, 1), (54, .iadd, 1), (55, .istore 4, 2), (57, .aload_n 0, 1), (58, .iload_n 1, 1), (59, .iload_n 2, 1), (60, .iload_n 3, 1), (61, .invokevirtual 155, 3), (64, .ifCond .ne 12, 3), (67, .iload 4, 2), (69, .ifCond .le 7, 3), (72, .iconst 1, 1), (73, .goto 4, 3), (76, .iconst 0, 1), (77, .ireturn, 1)]
theorem cd_Mo_fold : ∀ r ∈ tt_Mo_fold, decode prog_12_method_12_code r.1 = .ok (r.2.1, r.2.2) := by decide +kernel
def tt_Mo_isSimple : List (Nat × Instr × Nat) := [(0, .aload_n 0, 1), (1, .getfield 148, 3), (4, .iconst 3, 1), (5, .if_icmp .lt 7, 3), (8, .iconst 1, 1), (9, .goto 4, 3), (12, .iconst 0, 1), (13, .istore_n 1, 1), (14, .iconst 0, 1), (15, .istore_n 2, 1), (16, .iload_n 2, 1), (17, .aload_n 0, 1), (18, .getfield 148, 3), (21, .if_icmp .ge 62, 3), (24, .iconst 0, 1), (25, .istore_n 3, 1), (26, .iload_n 3, 1), (27, .iload_n 2, 1), (28, .if_icmp .ge 49, 3), (31, .iload_n 1, 1), (32, .ifCond .eq 37, 3), (35, .aload_n 0, 1), (36, .getfield 44, 3), (39, .iload_n 2, 1), (40, .iaload, 1), (41, .aload_n 0, 1), (42, .getfield 44, 3), (45, .iload_n 3, 1), (46, .iaload, 1), (47, .if_icmp .ne 18, 3), (50, .aload_n 0, 1), (51, .getfield 47, 3), (54, .iload_n 2, 1), (55, .iaload, 1), (56, .aload_n 0, 1), (57, .getfield 47, 3), (60, .iload_n 3, 1), (61, .iaload, 1), (62, .if_icmp .eq 7, 3), (65, .iconst 1, 1), (66, .goto 4, 3), (69, .iconst 0, 1), (70, .istore_n 1, 1), (71, .iinc 3 1, 3), (74, .goto (-48), 3), (77, .iinc 2 1, 3), (80, .goto (-64), 3), (83, .iconst 0, 1), (84, .istore_n 2, 1), (85, .iload_n 2, 1), (86, .aload_n 0, 1), (87, .getfield 148, 3), (90, .if_icmp .ge 118, 3), (93, .iload_n 1, 1), (94, .ifCond .eq 114, 3), (97, .iload_n 2, 1), (98, .iconst 1, 1), (99, .iadd, 1), (100, .aload_n 0, 1), (101, .getfield 148, 3), (104, .irem, 1), (105, .istore_n 3, 1), (106, .aload_n 0, 1), (107, .iload_n 2, 1), (108, .iload_n 3, 1), (109, .iload_n 3, 1), (110, .iconst 1, 1), (111, .iadd, 1), (112, .aload_n 0, 1), (113, .getfield 148, 3), (116, .irem, 1), (117, .invokevirtual 163, 3), (120, .ifCond .ne 7, 3), (123, .iconst 1, 1), (124, .goto 4, 3), (127, .iconst 0, 1), (128, .istore_n 1, 1), (129, .iconst 0, 1), (130, .istore 4, 2), (132, .iload 4, 2), (134, .iload_n 2, 1), (135, .if_icmp .ge 67, 3), (138, .iload_n 1, 1), (139, .ifCond .eq 63, 3), (142, .iload 4, 2), (144, .iconst 1, 1), (145, .iadd, 1), (146, .aload_n 0, 1), (147, .getfield 148, 3), (150, .irem, 1), (151, .istore 5, 2), (153, .iload 5, 2), (155, .iload_n 2, 1), (156, .if_icmp .eq 13, 3), (159, .iload_n 3, 1), (160, .iload 4, 2), (162, .if_icmp .eq 7, 3), (165, .iconst 1, 1), (166, .goto 4, 3), (169, .iconst 0, 1), (170, .istore 6, 2), (172, .iload 6, 2), (174, .ifCond .eq 16, 3), (177, .aload_n 0, 1), (178, .iload_n 2, 1), (179, .iload_n 3, 1), (180, .iload 4, 2), (182, .iload 5, 2), (184, .invokevirtual 166, 3), (187, .ifCond .ne 7, 3), (190, .iconst 1, 1), (191, .goto 4, 3), (194, .iconst 0, 1), (195, .istore_n 1, 1), (196, .iinc 4 1, 3), (199, .goto (-67), 3), (202, .iinc 2 1, 3), (205, .goto (-120), 3), (208, .iload_n 1, 1), (209, .ireturn, 1)]
theorem cd_Mo_isSimple : ∀ r ∈ tt_Mo_isSimple, decode prog_12_method_13_code r.1 = .ok (r.2.1, r.2.2) := by decide +kernel
def tt_Mo_square : List (Nat × Instr × Nat) := [(0, .lload_n 0, 1), (1, .lload_n 0, 1), (2, .lmul, 1), (3, .lreturn, 1)]
theorem cd_Mo_square : ∀ r ∈ tt_Mo_square, decode prog_12_method_14_code r.1 = .ok (r.2.1, r.2.2) := by decide +kernel
def tt_Mo_isNear : List (Nat × Instr × Nat) := [(0, .bipush 8, 2), (2, .iload_n 1, 1), (3, .imul, 1), (4, .iload_n 2, 1), (5, .iadd, 1), (6, .istore 4, 2), (8, .bipush 8, 2), (10, .iload_n 1, 1), (11, .imul, 1), (12, .iload_n 2, 1), (13, .iconst 1, 1), (14, .iadd, 1), (15, .aload_n 0, 1), (16, .getfield 83, 3), (19, .iload_n 1, 1), (20, .iaload, 1), (21, .irem, 1), (22, .iadd, 1), (23, .istore 5, 2), (25, .aload_n 0, 1), (26, .getfield 86, 3), (29, .iload 5, 2), (31, .iaload, 1), (32, .aload_n 0, 1), (33, .getfield 86, 3), (36, .iload 4, 2), (38, .iaload, 1), (39, .isub, 1), (40, .i2l, 1), (41, .lstore 6, 2), (43, .aload_n 0, 1), (44, .getfield 89, 3), (47, .iload 5, 2), (49, .iaload, 1), (50, .aload_n 0, 1), (51, .getfield 89, 3), (54, .iload 4, 2), (56, .iaload, 1), (57, .isub, 1), (58, .i2l, 1), (59, .lstore 8, 2), (61, .aload_n 0, 1), (62, .getfield 7, 3), (65, .iload_n 3, 1), (66, .iaload, 1), (67, .aload_n 0, 1), (68, .getfield 86, 3), (71, .iload 4, 2), (73, .iaload, 1), (74, .isub, 1), (75, .i2l, 1), (76, .lstore 10, 2), (78, .aload_n 0, 1), (79, .getfield 13, 3), (82, .iload_n 3, 1), (83, .iaload, 1), (84, .aload_n 0, 1), (85, .getfield 89, 3), (88, .iload 4, 2), (90, .iaload, 1), (91, .isub, 1), (92, .i2l, 1), (93, .lstore 12, 2), (95, .lload 6, 2), (97, .lload 6, 2), (99, .lmul, 1), (100, .lload 8, 2), (102, .lload 8, 2), (104, .lmul, 1), (105, .ladd, 1), (106, .lstore 14, 2), (108, .lload 10, 2), (110, .lload 6, 2), (112, .lmul, 1), (113, .lload 12, 2), (115, .lload 8, 2), (117, .lmul, 1), (118, .ladd, 1), (119, .lstore 16, 2), (121, .aload_n 0, 1), (122, .getfield 16, 3), (125, .iload_n 3, 1), (126, .iaload, 1), (127, .i2l, 1), (128, .invokestatic 170, 3), (131, .lstore 18, 2), (133, .lload 16, 2), (135, .lconst 0, 1), (136, .lcmp, 1), (137, .ifCond .gt 26, 3), (140, .lload 10, 2), (142, .lload 10, 2), (144, .lmul, 1), (145, .lload 12, 2), (147, .lload 12, 2), (149, .lmul, 1), (150, .ladd, 1), (151, .lload 18, 2), (153, .lcmp, 1), (154, .ifCond .gt 7, 3), (157, .iconst 1, 1), (158, .goto 4, 3), (161, .iconst 0, 1), (162, .ireturn, 1), (163, .lload 16, 2), (165, .lload 14, 2), (167, .lcmp, 1), (168, .ifCond .lt 32, 3), (171, .lload 10, 2), (173, .lload 6, 2), (175, .lsub, 1), (176, .invokestatic 170, 3), (179, .lload 12, 2), (181, .lload 8, 2), (183, .lsub, 1), (184, .invokestatic 170, 3), (187, .ladd, 1), (188, .lload 18, 2), (190, .lcmp, 1), (191, .ifCond .gt 7, 3), (194, .iconst 1, 1), (195, .goto 4, 3), (198, .iconst 0, 1), (199, .ireturn, 1), (200, .lload 10, 2), (202, .lload 8, 2), (204, .lmul, 1), (205, .lload 12, 2), (207, .lload 6, 2), (209, .lmul, 1), (210, .lsub, 1), (211, .invokestatic 170, 3), (214, .lload 18, 2), (216, .lload 14, 2), (218, .lmul, 1), (219, .lcmp, 1), (220, .ifCond .gt 7, 3), (223, .iconst 1, 1), (224, .goto 4, 3), (227, .iconst 0, 1), (228, .ireturn, 1)]
theorem cd_Mo_isNear : ∀ r ∈ tt_Mo_isNear, decode prog_12_method_15_code r.1 = .ok (r.2.1, r.2.2) := by decide +kernel
def tt_Mo_isIn : List (Nat × Instr × Nat) := [(0, .iconst 0, 1), (1, .istore_n 3, 1), (2, .iconst 0, 1), (3, .istore 4, 2), (5, .iload 4, 2), (7, .aload_n 0, 1), (8, .getfield 83, 3), (11, .iload_n 1, 1), (12, .iaload, 1), (13, .if_icmp .ge 211, 3), (16, .bipush 8, 2), (18, .iload_n 1, 1), (19, .imul, 1), (20, .iload 4, 2), (22, .iadd, 1), (23, .istore 5, 2), (25, .bipush 8, 2), (27, .iload_n 1, 1), (28, .imul, 1), (29, .iload 4, 2), (31, .iconst 1, 1), (32, .iadd, 1), (33, .aload_n 0, 1), (34, .getfield 83, 3), (37, .iload_n 1, 1), (38, .iaload, 1), (39, .irem, 1), (40, .iadd, 1), (41, .istore 6, 2), (43, .aload_n 0, 1), (44, .getfield 89, 3), (47, .iload 5, 2), (49, .iaload, 1), (50, .aload_n 0, 1), (51, .getfield 13, 3), (54, .iload_n 2, 1), (55, .iaload, 1), (56, .if_icmp .gt 23, 3), (59, .aload_n 0, 1), (60, .getfield 89, 3), (63, .iload 6, 2), (65, .iaload, 1), (66, .aload_n 0, 1), (67, .getfield 13, 3), (70, .iload_n 2, 1), (71, .iaload, 1), (72, .if_icmp .le 7, 3), (75, .iconst 1, 1), (76, .goto 4, 3), (79, .iconst 0, 1), (80, .istore 7, 2), (82, .aload_n 0, 1), (83, .getfield 89, 3), (86, .iload 6, 2), (88, .iaload, 1), (89, .aload_n 0, 1), (90, .getfield 13, 3), (93, .iload_n 2, 1), (94, .iaload, 1), (95, .if_icmp .gt 23, 3), (98, .aload_n 0, 1), (99, .getfield 89, 3), (102, .iload 5, 2), (104, .iaload, 1), (105, .aload_n 0, 1), (106, .getfield 13, 3), (109, .iload_n 2, 1), (110, .iaload, 1), (111, .if_icmp .le 7, 3), (114, .iconst 1, 1), (115, .goto 4, 3), (118, .iconst 0, 1), (119, .istore 8, 2), (121, .aload_n 0, 1), (122, .getfield 86, 3), (125, .iload 6, 2), (127, .iaload, 1), (128, .aload_n 0, 1), (129, .getfield 86, 3), (132, .iload 5, 2), (134, .iaload, 1), (135, .isub, 1), (136, .aload_n 0, 1), (137, .getfield 13, 3), (140, .iload_n 2, 1), (141, .iaload, 1), (142, .aload_n 0, 1), (143, .getfield 89, 3), (146, .iload 5, 2), (148, .iaload, 1), (149, .isub, 1), (150, .imul, 1), (151, .aload_n 0, 1), (152, .getfield 89, 3), (155, .iload 6, 2), (157, .iaload, 1), (158, .aload_n 0, 1), (159, .getfield 89, 3), (162, .iload 5, 2), (164, .iaload, 1), (165, .isub, 1), (166, .aload_n 0, 1), (167, .getfield 7, 3), (170, .iload_n 2, 1), (171, .iaload, 1), (172, .aload_n 0, 1), (173, .getfield 86, 3), (176, .iload 5, 2), (178, .iaload, 1), (179, .isub, 1), (180, .imul, 1), (181, .isub, 1), (182, .istore 9, 2), (184, .iload 7, 2), (186, .ifCond .eq 8, 3), (189, .iload 9, 2), (191, .ifCond .gt 13, 3), (194, .iload 8, 2), (196, .ifCond .eq 20, 3), (199, .iload 9, 2), (201, .ifCond .ge 15, 3), (204, .iload_n 3, 1), (205, .ifCond .ne 7, 3), (208, .iconst 1, 1), (209, .goto 8, 3), (212, .iconst 0, 1), (213, .goto 4, 3), (216, .iload_n 3, 1), (217, .istore_n 3, 1), (218, .iinc 4 1, 3), (221, .goto (-216), 3), (224, .iload_n 3, 1), (225, .ireturn, 1)]
theorem cd_Mo_isIn : ∀ r ∈ tt_Mo_isIn, decode prog_12_method_16_code r.1 = .ok (r.2.1, r.2.2) := by decide +kernel
def tt_Mo_isCovered : List (Nat × Instr × Nat) := [(0, .aload_n 0, 1), (1, .iload_n 1, 1), (2, .iload_n 2, 1), (3, .invokevirtual 174, 3), (6, .istore_n 3, 1), (7, .iconst 0, 1), (8, .istore 4, 2), (10, .iload 4, 2), (12, .aload_n 0, 1), (13, .getfield 83, 3), (16, .iload_n 1, 1), (17, .iaload, 1), (18, .if_icmp .ge 30, 3), (21, .iload_n 3, 1), (22, .ifCond .ne 14, 3), (25, .aload_n 0, 1), (26, .iload_n 1, 1), (27, .iload 4, 2), (29, .iload_n 2, 1), (30, .invokevirtual 178, 3), (33, .ifCond .eq 7, 3), (36, .iconst 1, 1), (37, .goto 4, 3), (40, .iconst 0, 1), (41, .istore_n 3, 1), (42, .iinc 4 1, 3), (45, .goto (-35), 3), (48, .iload_n 3, 1), (49, .ireturn, 1)]
theorem cd_Mo_isCovered : ∀ r ∈ tt_Mo_isCovered, decode prog_12_method_17_code r.1 = .ok (r.2.1, r.2.2) := by decide +kernel
def tt_Mo_covered : List (Nat × Instr × Nat) := [(0, .iconst 0, 1), (1, .istore_n 2, 1), (2, .iconst 0, 1), (3, .istore_n 3, 1), (4, .iload_n 3, 1), (5, .aload_n 0, 1), (6, .getfield 145, 3), (9, .if_icmp .ge 26, 3), (12, .aload_n 0, 1), (13, .iload_n 1, 1), (14, .iload_n 3, 1), (15, .invokevirtual 181, 3), (18, .ifCond .eq 9, 3), (21, .iload_n 2, 1), (22, .iconst 1, 1), (23, .iadd, 1), (24, .goto 4, 3), (27, .iload_n 2, 1), (28, .istore_n 2, 1), (29, .iinc 3 1, 3), (32, .goto (-28), 3), (35, .iload_n 2, 1), (36, .ireturn, 1)]
theorem cd_Mo_covered : ∀ r ∈ tt_Mo_covered, decode prog_12_method_18_code r.1 = .ok (r.2.1, r.2.2) := by decide +kernel
def tt_Mo_find : List (Nat × Instr × Nat) := [(0, .iconst (-1), 1), (1, .istore_n 2, 1), (2, .iconst 0, 1), (3, .istore_n 3, 1), (4, .iload_n 3, 1), (5, .aload_n 0, 1), (6, .getfield 184, 3), (9, .if_icmp .ge 25, 3), (12, .aload_n 0, 1), (13, .getfield 56, 3), (16, .iload_n 3, 1), (17, .iaload, 1), (18, .iload_n 1, 1), (19, .if_icmp .ne 7, 3), (22, .iload_n 3, 1), (23, .goto 4, 3), (26, .iload_n 2, 1), (27, .istore_n 2, 1), (28, .iinc 3 1, 3), (31, .goto (-27), 3), (34, .iload_n 2, 1), (35, .ireturn, 1)]
theorem cd_Mo_find : ∀ r ∈ tt_Mo_find, decode prog_12_method_19_code r.1 = .ok (r.2.1, r.2.2) := by decide +kernel
def tt_Mo_isLive : List (Nat × Instr × Nat) := [(0, .iload_n 1, 1), (1, .ifCond .lt 39, 3), (4, .aload_n 0, 1), (5, .getfield 71, 3), (8, .aload_n 0, 1), (9, .getfield 59, 3), (12, .iload_n 1, 1), (13, .iaload, 1), (14, .iaload, 1), (15, .aload_n 0, 1), (16, .getfield 187, 3), (19, .if_icmp .le 21, 3), (22, .aload_n 0, 1), (23, .getfield 74, 3), (26, .aload_n 0, 1), (27, .getfield 59, 3), (30, .iload_n 1, 1), (31, .iaload, 1), (32, .baload, 1), (33, .ifCond .eq 7, 3), (36, .iconst 1, 1), (37, .goto 4, 3), (40, .iconst 0, 1), (41, .ireturn, 1)]
theorem cd_Mo_isLive : ∀ r ∈ tt_Mo_isLive, decode prog_12_method_20_code r.1 = .ok (r.2.1, r.2.2) := by decide +kernel
def tt_Mo_isSpan : List (Nat × Instr × Nat) := [(0, .iload_n 0, 1), (1, .iconst 1, 1), (2, .if_icmp .lt 24, 3), (5, .iload_n 0, 1), (6, .iconst 5, 1), (7, .if_icmp .gt 19, 3), (10, .iload_n 1, 1), (11, .iconst 1, 1), (12, .if_icmp .lt 14, 3), (15, .iload_n 1, 1), (16, .sipush 1000, 3), (19, .if_icmp .gt 7, 3), (22, .iconst 1, 1), (23, .goto 4, 3), (26, .iconst 0, 1), (27, .ireturn, 1)]
theorem cd_Mo_isSpan : ∀ r ∈ tt_Mo_isSpan, decode prog_12_method_21_code r.1 = .ok (r.2.1, r.2.2) := by decide +kernel
def tt_Mo_isSaid : List (Nat × Instr × Nat) := [(0, .aload_n 0, 1), (1, .invokevirtual 190, 3), (4, .ifCond .eq 30, 3), (7, .aload_n 0, 1), (8, .getfield 50, 3), (11, .iconst 0, 1), (12, .iaload, 1), (13, .aload_n 0, 1), (14, .getfield 50, 3), (17, .iconst 1, 1), (18, .iaload, 1), (19, .iadd, 1), (20, .aload_n 0, 1), (21, .getfield 50, 3), (24, .iconst 2, 1), (25, .iaload, 1), (26, .iadd, 1), (27, .ifCond .le 7, 3), (30, .iconst 1, 1), (31, .goto 4, 3), (34, .iconst 0, 1), (35, .ireturn, 1)]
theorem cd_Mo_isSaid : ∀ r ∈ tt_Mo_isSaid, decode prog_12_method_22_code r.1 = .ok (r.2.1, r.2.2) := by decide +kernel
def tt_Mo_make : List (Nat × Instr × Nat) := [(0, .aload_n 0, 1), (1, .getfield 194, 3), (4, .istore 6, 2), (6, .aload_n 0, 1), (7, .getfield 62, 3), (10, .iload 6, 2), (12, .iload_n 1, 1), (13, .iastore, 1), (14, .aload_n 0, 1), (15, .getfield 65, 3), (18, .iload 6, 2), (20, .iload_n 2, 1), (21, .iastore, 1), (22, .aload_n 0, 1), (23, .getfield 68, 3), (26, .iload 6, 2), (28, .iload_n 3, 1), (29, .iastore, 1), (30, .aload_n 0, 1), (31, .getfield 71, 3), (34, .iload 6, 2), (36, .iload 4, 2), (38, .iastore, 1), (39, .aload_n 0, 1), (40, .getfield 74, 3), (43, .iload 6, 2), (45, .iload 5, 2), (47, .bastore, 1), (48, .aload_n 0, 1), (49, .getfield 59, 3), (52, .iload_n 1, 1), (53, .iload 6, 2), (55, .iastore, 1), (56, .aload_n 0, 1), (57, .dup, 1), (58, .getfield 194, 3), (61, .iconst 1, 1), (62, .iadd, 1), (63, .putfield 194, 3), (66, .iload 6, 2), (68, .ireturn, 1)]
theorem cd_Mo_make : ∀ r ∈ tt_Mo_make, decode prog_12_method_23_code r.1 = .ok (r.2.1, r.2.2) := by decide +kernel
def tt_Mo_fill : List (Nat × Instr × Nat) := [(0, .aload_n 0, 1), (1, .getfield 77, 3), (4, .iload_n 1, 1), (5, .iload_n 2, 1), (6, .iastore, 1), (7, .aload_n 0, 1), (8, .getfield 80, 3), (11, .iload_n 1, 1), (12, .iload_n 3, 1), (13, .iastore, 1), (14, .aload_n 0, 1), (15, .getfield 83, 3), (18, .iload_n 1, 1), (19, .aload_n 0, 1), (20, .getfield 148, 3), (23, .iastore, 1), (24, .iconst 0, 1), (25, .istore 4, 2), (27, .iload 4, 2), (29, .aload_n 0, 1), (30, .getfield 148, 3), (33, .if_icmp .ge 47, 3), (36, .aload_n 0, 1), (37, .getfield 86, 3), (40, .bipush 8, 2), (42, .iload_n 1, 1), (43, .imul, 1), (44, .iload 4, 2), (46, .iadd, 1), (47, .aload_n 0, 1), (48, .getfield 44, 3), (51, .iload 4, 2), (53, .iaload, 1), (54, .iastore, 1), (55, .aload_n 0, 1), (56, .getfield 89, 3), (59, .bipush 8, 2), (61, .iload_n 1, 1), (62, .imul, 1), (63, .iload 4, 2), (65, .iadd, 1), (66, .aload_n 0, 1), (67, .getfield 47, 3), (70, .iload 4, 2), (72, .iaload, 1), (73, .iastore, 1), (74, .iinc 4 1, 3), (77, .goto (-50), 3), (80, .iconst 0, 1), (81, .istore 4, 2), (83, .iload 4, 2), (85, .iconst 3, 1), (86, .if_icmp .ge 27, 3), (89, .aload_n 0, 1), (90, .getfield 92, 3), (93, .iconst 3, 1), (94, .iload_n 1, 1), (95, .imul, 1), (96, .iload 4, 2), (98, .iadd, 1), (99, .aload_n 0, 1), (100, .getfield 50, 3), (103, .iload 4, 2), (105, .iaload, 1), (106, .iastore, 1), (107, .iinc 4 1, 3), (110, .goto (-27), 3), (113, .iconst 0, 1), (114, .istore 4, 2), (116, .iload 4, 2), (118, .bipush 90, 2), (120, .if_icmp .ge 28, 3), (123, .aload_n 0, 1), (124, .getfield 95, 3), (127, .bipush 90, 2), (129, .iload_n 1, 1), (130, .imul, 1), (131, .iload 4, 2), (133, .iadd, 1), (134, .aload_n 0, 1), (135, .getfield 53, 3), (138, .iload 4, 2), (140, .iaload, 1), (141, .iastore, 1), (142, .iinc 4 1, 3), (145, .goto (-29), 3), (148, .aload_n 0, 1), (149, .invokevirtual 197, 3), (152, .istore 4, 2), (154, .aload_n 0, 1), (155, .iload_n 1, 1), (156, .invokevirtual 201, 3), (159, .ireturn, 1)]
theorem cd_Mo_fill : ∀ r ∈ tt_Mo_fill, decode prog_12_method_24_code r.1 = .ok (r.2.1, r.2.2) := by decide +kernel
def tt_Mo_issue : List (Nat × Instr × Nat) := [(0, .iload_n 1, 1), (1, .iconst 1, 1), (2, .if_icmp .lt 37, 3), (5, .iload_n 1, 1), (6, .sipush 1000, 3), (9, .if_icmp .gt 30, 3), (12, .iload_n 2, 1), (13, .iload 5, 2), (15, .invokestatic 204, 3), (18, .ifCond .eq 21, 3), (21, .iload_n 3, 1), (22, .aload_n 0, 1), (23, .getfield 187, 3), (26, .if_icmp .le 13, 3), (29, .iload 4, 2), (31, .iload_n 3, 1), (32, .if_icmp .le 7, 3), (35, .iconst 1, 1), (36, .goto 4, 3), (39, .iconst 0, 1), (40, .istore 6, 2), (42, .aload_n 0, 1), (43, .iload 6, 2), (45, .ifCond .ne 7, 3), (48, .iconst 1, 1), (49, .goto 45, 3), (52, .aload_n 0, 1), (53, .invokevirtual 207, 3), (56, .ifCond .ne 7, 3), (59, .iconst 2, 1), (60, .goto 34, 3), (63, .aload_n 0, 1), (64, .iload_n 1, 1), (65, .invokevirtual 210, 3), (68, .ifCond .ge 21, 3), (71, .aload_n 0, 1), (72, .getfield 184, 3), (75, .bipush 12, 2), (77, .if_icmp .eq 12, 3), (80, .aload_n 0, 1), (81, .getfield 194, 3), (84, .bipush 40, 2), (86, .if_icmp .ne 7, 3), (89, .iconst 3, 1), (90, .goto 4, 3), (93, .iconst 0, 1), (94, .putfield 137, 3), (97, .aload_n 0, 1), (98, .getfield 137, 3), (101, .ifCond .le 5, 3), (104, .iconst 0, 1), (105, .ireturn, 1), (106, .aload_n 0, 1), (107, .getfield 56, 3), (110, .aload_n 0, 1), (111, .getfield 184, 3), (114, .iload_n 1, 1), (115, .iastore, 1), (116, .aload_n 0, 1), (117, .dup, 1), (118, .getfield 184, 3), (121, .iconst 1, 1), (122, .iadd, 1), (123, .putfield 184, 3), (126, .aload_n 0, 1), (127, .aload_n 0, 1), (128, .aload_n 0, 1), (129, .getfield 184, 3), (132, .iconst 1, 1), (133, .isub, 1), (134, .iconst 1, 1), (135, .iload_n 2, 1), (136, .iload 4, 2), (138, .iconst 1, 1), (139, .invokevirtual 213, 3), (142, .iload_n 3, 1), (143, .iload 5, 2), (145, .invokevirtual 217, 3), (148, .ireturn, 1)]
theorem cd_Mo_issue : ∀ r ∈ tt_Mo_issue, decode prog_12_method_25_code r.1 = .ok (r.2.1, r.2.2) := by decide +kernel
def tt_Mo_update : List (Nat × Instr × Nat) := [(0, .iload_n 2, 1), (1, .iload 4, 2), (3, .invokestatic 204, 3), (6, .ifCond .eq 17, 3), (9, .iload_n 3, 1), (10, .aload_n 0, 1), (11, .getfield 187, 3), (14, .iconst 1, 1), (15, .iadd, 1), (16, .if_icmp .le 7, 3), (19, .iconst 1, 1), (20, .goto 4, 3), (23, .iconst 0, 1), (24, .istore 5, 2), (26, .aload_n 0, 1), (27, .iload_n 1, 1), (28, .invokevirtual 210, 3), (31, .istore 6, 2), (33, .aload_n 0, 1), (34, .iload 5, 2), (36, .ifCond .ne 7, 3), (39, .iconst 1, 1), (40, .goto 37, 3), (43, .aload_n 0, 1), (44, .invokevirtual 207, 3), (47, .ifCond .ne 7, 3), (50, .iconst 2, 1), (51, .goto 26, 3), (54, .aload_n 0, 1), (55, .iload 6, 2), (57, .invokevirtual 220, 3), (60, .ifCond .eq 12, 3), (63, .aload_n 0, 1), (64, .getfield 194, 3), (67, .bipush 40, 2), (69, .if_icmp .ne 7, 3), (72, .iconst 3, 1), (73, .goto 4, 3), (76, .iconst 0, 1), (77, .putfield 137, 3), (80, .aload_n 0, 1), (81, .getfield 137, 3), (84, .ifCond .le 5, 3), (87, .iconst 0, 1), (88, .ireturn, 1), (89, .aload_n 0, 1), (90, .aload_n 0, 1), (91, .iload 6, 2), (93, .aload_n 0, 1), (94, .getfield 65, 3), (97, .aload_n 0, 1), (98, .getfield 59, 3), (101, .iload 6, 2), (103, .iaload, 1), (104, .iaload, 1), (105, .iconst 1, 1), (106, .iadd, 1), (107, .iload_n 2, 1), (108, .iload_n 3, 1), (109, .iconst 1, 1), (110, .invokevirtual 213, 3), (113, .aload_n 0, 1), (114, .getfield 187, 3), (117, .iconst 1, 1), (118, .iadd, 1), (119, .iload 4, 2), (121, .invokevirtual 217, 3), (124, .ireturn, 1)]
theorem cd_Mo_update : ∀ r ∈ tt_Mo_update, decode prog_12_method_26_code r.1 = .ok (r.2.1, r.2.2) := by decide +kernel
def tt_Mo_cancel : List (Nat × Instr × Nat) := [(0, .aload_n 0, 1), (1, .iload_n 1, 1), (2, .invokevirtual 210, 3), (5, .istore_n 2, 1), (6, .aload_n 0, 1), (7, .aload_n 0, 1), (8, .iload_n 2, 1), (9, .invokevirtual 220, 3), (12, .ifCond .eq 12, 3), (15, .aload_n 0, 1), (16, .getfield 194, 3), (19, .bipush 40, 2), (21, .if_icmp .ne 7, 3), (24, .iconst 1, 1), (25, .goto 4, 3), (28, .iconst 0, 1), (29, .putfield 137, 3), (32, .aload_n 0, 1), (33, .getfield 137, 3), (36, .ifCond .le 5, 3), (39, .iconst 0, 1), (40, .ireturn, 1), (41, .aload_n 0, 1), (42, .getfield 59, 3), (45, .iload_n 2, 1), (46, .iaload, 1), (47, .istore_n 3, 1), (48, .aload_n 0, 1), (49, .getfield 65, 3), (52, .aload_n 0, 1), (53, .iload_n 2, 1), (54, .aload_n 0, 1), (55, .getfield 65, 3), (58, .iload_n 3, 1), (59, .iaload, 1), (60, .iconst 1, 1), (61, .iadd, 1), (62, .aload_n 0, 1), (63, .getfield 68, 3), (66, .iload_n 3, 1), (67, .iaload, 1), (68, .aload_n 0, 1), (69, .getfield 71, 3), (72, .iload_n 3, 1), (73, .iaload, 1), (74, .iconst 0, 1), (75, .invokevirtual 213, 3), (78, .iaload, 1), (79, .ireturn, 1)]
theorem cd_Mo_cancel : ∀ r ∈ tt_Mo_cancel, decode prog_12_method_27_code r.1 = .ok (r.2.1, r.2.2) := by decide +kernel
def tt_Mo_isListed : List (Nat × Instr × Nat) := [(0, .iconst 0, 1), (1, .istore_n 3, 1), (2, .iconst 0, 1), (3, .istore 4, 2), (5, .iload 4, 2), (7, .aload_n 0, 1), (8, .getfield 23, 3), (11, .iload_n 1, 1), (12, .iaload, 1), (13, .if_icmp .ge 40, 3), (16, .iload_n 3, 1), (17, .ifCond .ne 24, 3), (20, .aload_n 0, 1), (21, .getfield 62, 3), (24, .aload_n 0, 1), (25, .getfield 26, 3), (28, .bipush 12, 2), (30, .iload_n 1, 1), (31, .imul, 1), (32, .iload 4, 2), (34, .iadd, 1), (35, .iaload, 1), (36, .iaload, 1), (37, .iload_n 2, 1), (38, .if_icmp .ne 7, 3), (41, .iconst 1, 1), (42, .goto 4, 3), (45, .iconst 0, 1), (46, .istore_n 3, 1), (47, .iinc 4 1, 3), (50, .goto (-45), 3), (53, .iload_n 3, 1), (54, .ireturn, 1)]
theorem cd_Mo_isListed : ∀ r ∈ tt_Mo_isListed, decode prog_12_method_28_code r.1 = .ok (r.2.1, r.2.2) := by decide +kernel
def tt_Mo_insert : List (Nat × Instr × Nat) := [(0, .iload_n 1, 1), (1, .istore_n 3, 1), (2, .iload_n 3, 1), (3, .ifCond .le 55, 3), (6, .aload_n 0, 1), (7, .getfield 56, 3), (10, .aload_n 0, 1), (11, .getfield 62, 3), (14, .aload_n 0, 1), (15, .getfield 29, 3), (18, .iload_n 3, 1), (19, .iconst 1, 1), (20, .isub, 1), (21, .iaload, 1), (22, .iaload, 1), (23, .iaload, 1), (24, .aload_n 0, 1), (25, .getfield 56, 3), (28, .aload_n 0, 1), (29, .getfield 62, 3), (32, .iload_n 2, 1), (33, .iaload, 1), (34, .iaload, 1), (35, .if_icmp .le 23, 3), (38, .aload_n 0, 1), (39, .getfield 29, 3), (42, .iload_n 3, 1), (43, .aload_n 0, 1), (44, .getfield 29, 3), (47, .iload_n 3, 1), (48, .iconst 1, 1), (49, .isub, 1), (50, .iaload, 1), (51, .iastore, 1), (52, .iinc 3 (-1), 3), (55, .goto (-53), 3), (58, .aload_n 0, 1), (59, .getfield 29, 3), (62, .iload_n 3, 1), (63, .iload_n 2, 1), (64, .iastore, 1), (65, .return_, 1)]
theorem cd_Mo_insert : ∀ r ∈ tt_Mo_insert, decode prog_12_method_29_code r.1 = .ok (r.2.1, r.2.2) := by decide +kernel
def tt_Mo_relist : List (Nat × Instr × Nat) := [(0, .iconst 0, 1), (1, .istore_n 2, 1), (2, .aload_n 0, 1), (3, .getfield 19, 3), (6, .iload_n 1, 1), (7, .baload, 1), (8, .ifCond .eq 62, 3), (11, .iconst 0, 1), (12, .istore_n 3, 1), (13, .iload_n 3, 1), (14, .aload_n 0, 1), (15, .getfield 23, 3), (18, .iload_n 1, 1), (19, .iaload, 1), (20, .if_icmp .ge 47, 3), (23, .aload_n 0, 1), (24, .getfield 26, 3), (27, .bipush 12, 2), (29, .iload_n 1, 1), (30, .imul, 1), (31, .iload_n 3, 1), (32, .iadd, 1), (33, .iaload, 1), (34, .istore 4, 2), (36, .aload_n 0, 1), (37, .getfield 71, 3), (40, .iload 4, 2), (42, .iaload, 1), (43, .aload_n 0, 1), (44, .getfield 187, 3), (47, .if_icmp .le 14, 3), (50, .aload_n 0, 1), (51, .getfield 29, 3), (54, .iload_n 2, 1), (55, .iload 4, 2), (57, .iastore, 1), (58, .iinc 2 1, 3), (61, .iinc 3 1, 3), (64, .goto (-51), 3), (67, .goto 83, 3), (70, .iconst 0, 1), (71, .istore_n 3, 1), (72, .iload_n 3, 1), (73, .aload_n 0, 1), (74, .getfield 184, 3), (77, .if_icmp .ge 73, 3), (80, .aload_n 0, 1), (81, .getfield 59, 3), (84, .iload_n 3, 1), (85, .iaload, 1), (86, .istore 4, 2), (88, .aload_n 0, 1), (89, .getfield 71, 3), (92, .iload 4, 2), (94, .iaload, 1), (95, .aload_n 0, 1), (96, .getfield 187, 3), (99, .if_icmp .le 45, 3), (102, .aload_n 0, 1), (103, .getfield 74, 3), (106, .iload 4, 2), (108, .baload, 1), (109, .ifCond .eq 16, 3), (112, .aload_n 0, 1), (113, .iload 4, 2), (115, .iload_n 1, 1), (116, .invokevirtual 181, 3), (119, .ifCond .eq 25, 3), (122, .goto 12, 3), (125, .aload_n 0, 1), (126, .iload_n 1, 1), (127, .iload_n 3, 1), (128, .invokevirtual 223, 3), (131, .ifCond .eq 13, 3), (134, .aload_n 0, 1), (135, .iload_n 2, 1), (136, .iload 4, 2), (138, .invokevirtual 226, 3), (141, .iinc 2 1, 3), (144, .iinc 3 1, 3), (147, .goto (-75), 3), (150, .iconst 0, 1), (151, .istore_n 3, 1), (152, .iload_n 3, 1), (153, .iload_n 2, 1), (154, .if_icmp .ge 26, 3), (157, .aload_n 0, 1), (158, .getfield 26, 3), (161, .bipush 12, 2), (163, .iload_n 1, 1), (164, .imul, 1), (165, .iload_n 3, 1), (166, .iadd, 1), (167, .aload_n 0, 1), (168, .getfield 29, 3), (171, .iload_n 3, 1), (172, .iaload, 1), (173, .iastore, 1), (174, .iinc 3 1, 3), (177, .goto (-25), 3), (180, .aload_n 0, 1), (181, .getfield 23, 3), (184, .iload_n 1, 1), (185, .iload_n 2, 1), (186, .iastore, 1), (187, .return_, 1)]
theorem cd_Mo_relist : ∀ r ∈ tt_Mo_relist, decode prog_12_method_30_code r.1 = .ok (r.2.1, r.2.2) := by decide +kernel
def tt_Mo_page : List (Nat × Instr × Nat) := [(0, .bipush 108, 2), (2, .iload_n 1, 1), (3, .imul, 1), (4, .aload_n 0, 1), (5, .getfield 32, 3), (8, .iload_n 1, 1), (9, .iaload, 1), (10, .iadd, 1), (11, .istore 5, 2), (13, .aload_n 0, 1), (14, .getfield 35, 3), (17, .iload 5, 2), (19, .iload_n 2, 1), (20, .iastore, 1), (21, .aload_n 0, 1), (22, .getfield 38, 3), (25, .iload 5, 2), (27, .iload_n 3, 1), (28, .iastore, 1), (29, .aload_n 0, 1), (30, .getfield 41, 3), (33, .iload 5, 2), (35, .iload 4, 2), (37, .iastore, 1), (38, .aload_n 0, 1), (39, .getfield 32, 3), (42, .iload_n 1, 1), (43, .dup2, 1), (44, .iaload, 1), (45, .iconst 1, 1), (46, .iadd, 1), (47, .iastore, 1), (48, .return_, 1)]
theorem cd_Mo_page : ∀ r ∈ tt_Mo_page, decode prog_12_method_31_code r.1 = .ok (r.2.1, r.2.2) := by decide +kernel
def tt_Mo_pagesOf : List (Nat × Instr × Nat) := [(0, .aload_n 0, 1), (1, .getfield 92, 3), (4, .iconst 3, 1), (5, .iload_n 1, 1), (6, .imul, 1), (7, .iload_n 2, 1), (8, .iadd, 1), (9, .iaload, 1), (10, .bipush 9, 2), (12, .iadd, 1), (13, .bipush 10, 2), (15, .idiv, 1), (16, .ireturn, 1)]
theorem cd_Mo_pagesOf : ∀ r ∈ tt_Mo_pagesOf, decode prog_12_method_32_code r.1 = .ok (r.2.1, r.2.2) := by decide +kernel
def tt_Mo_sendAll : List (Nat × Instr × Nat) := [(0, .aload_n 0, 1), (1, .getfield 32, 3), (4, .iload_n 1, 1), (5, .iconst 0, 1), (6, .iastore, 1), (7, .iconst 5, 1), (8, .istore_n 2, 1), (9, .iload_n 2, 1), (10, .ifCond .le 188, 3), (13, .iconst 0, 1), (14, .istore_n 3, 1), (15, .iload_n 3, 1), (16, .aload_n 0, 1), (17, .getfield 23, 3), (20, .iload_n 1, 1), (21, .iaload, 1), (22, .if_icmp .ge 170, 3), (25, .aload_n 0, 1), (26, .getfield 26, 3), (29, .bipush 12, 2), (31, .iload_n 1, 1), (32, .imul, 1), (33, .iload_n 3, 1), (34, .iadd, 1), (35, .iaload, 1), (36, .istore 4, 2), (38, .aload_n 0, 1), (39, .getfield 68, 3), (42, .iload 4, 2), (44, .iaload, 1), (45, .iload_n 2, 1), (46, .if_icmp .ne 22, 3), (49, .aload_n 0, 1), (50, .getfield 74, 3), (53, .iload 4, 2), (55, .baload, 1), (56, .ifCond .ne 12, 3), (59, .aload_n 0, 1), (60, .iload_n 1, 1), (61, .iload 4, 2), (63, .iconst 3, 1), (64, .iconst 0, 1), (65, .invokevirtual 230, 3), (68, .aload_n 0, 1), (69, .getfield 68, 3), (72, .iload 4, 2), (74, .iaload, 1), (75, .iload_n 2, 1), (76, .if_icmp .ne 54, 3), (79, .aload_n 0, 1), (80, .getfield 74, 3), (83, .iload 4, 2), (85, .baload, 1), (86, .ifCond .eq 44, 3), (89, .aload_n 0, 1), (90, .getfield 187, 3), (93, .aload_n 0, 1), (94, .getfield 77, 3), (97, .iload 4, 2), (99, .iaload, 1), (100, .if_icmp .lt 30, 3), (103, .aload_n 0, 1), (104, .getfield 187, 3), (107, .aload_n 0, 1), (108, .getfield 77, 3), (111, .iload 4, 2), (113, .iaload, 1), (114, .isub, 1), (115, .aload_n 0, 1), (116, .getfield 80, 3), (119, .iload 4, 2), (121, .iaload, 1), (122, .irem, 1), (123, .ifCond .ne 7, 3), (126, .iconst 1, 1), (127, .goto 4, 3), (130, .iconst 0, 1), (131, .istore 5, 2), (133, .iconst 0, 1), (134, .istore 6, 2), (136, .iload 6, 2), (138, .iconst 3, 1), (139, .if_icmp .ge 47, 3), (142, .iload 5, 2), (144, .ifCond .eq 42, 3), (147, .iconst 0, 1), (148, .istore 7, 2), (150, .iload 7, 2), (152, .aload_n 0, 1), (153, .iload 4, 2), (155, .iload 6, 2), (157, .invokevirtual 234, 3), (160, .if_icmp .ge 20, 3), (163, .aload_n 0, 1), (164, .iload_n 1, 1), (165, .iload 4, 2), (167, .iload 6, 2), (169, .iload 7, 2), (171, .invokevirtual 230, 3), (174, .iinc 7 1, 3), (177, .goto (-27), 3), (180, .iinc 6 1, 3), (183, .goto (-47), 3), (186, .iinc 3 1, 3), (189, .goto (-174), 3), (192, .iinc 2 (-1), 3), (195, .goto (-186), 3), (198, .return_, 1)]
theorem cd_Mo_sendAll : ∀ r ∈ tt_Mo_sendAll, decode prog_12_method_33_code r.1 = .ok (r.2.1, r.2.2) := by decide +kernel
def tt_Mo_chosen : List (Nat × Instr × Nat) := [(0, .iconst 2, 1), (1, .istore_n 3, 1), (2, .iconst 1, 1), (3, .istore 4, 2), (5, .iload 4, 2), (7, .ifCond .lt 30, 3), (10, .aload_n 0, 1), (11, .getfield 92, 3), (14, .iconst 3, 1), (15, .iload_n 2, 1), (16, .imul, 1), (17, .iload 4, 2), (19, .iadd, 1), (20, .iaload, 1), (21, .ifCond .le 8, 3), (24, .iload 4, 2), (26, .goto 4, 3), (29, .iload_n 3, 1), (30, .istore_n 3, 1), (31, .iinc 4 (-1), 3), (34, .goto (-29), 3), (37, .aload_n 0, 1), (38, .getfield 101, 3), (41, .iload_n 1, 1), (42, .iaload, 1), (43, .iconst 1, 1), (44, .isub, 1), (45, .istore 4, 2), (47, .iload 4, 2), (49, .ifCond .lt 43, 3), (52, .aload_n 0, 1), (53, .getfield 104, 3), (56, .iconst 3, 1), (57, .iload_n 1, 1), (58, .imul, 1), (59, .iload 4, 2), (61, .iadd, 1), (62, .iaload, 1), (63, .istore 5, 2), (65, .aload_n 0, 1), (66, .getfield 92, 3), (69, .iconst 3, 1), (70, .iload_n 2, 1), (71, .imul, 1), (72, .iload 5, 2), (74, .iadd, 1), (75, .iaload, 1), (76, .ifCond .le 8, 3), (79, .iload 5, 2), (81, .goto 4, 3), (84, .iload_n 3, 1), (85, .istore_n 3, 1), (86, .iinc 4 (-1), 3), (89, .goto (-42), 3), (92, .iload_n 3, 1), (93, .ireturn, 1)]
theorem cd_Mo_chosen : ∀ r ∈ tt_Mo_chosen, decode prog_12_method_34_code r.1 = .ok (r.2.1, r.2.2) := by decide +kernel
def tt_Mo_hear : List (Nat × Instr × Nat) := [(0, .bipush 12, 2), (2, .iload_n 1, 1), (3, .imul, 1), (4, .aload_n 0, 1), (5, .getfield 62, 3), (8, .iload_n 2, 1), (9, .iaload, 1), (10, .iadd, 1), (11, .istore 5, 2), (13, .aload_n 0, 1), (14, .getfield 65, 3), (17, .iload_n 2, 1), (18, .iaload, 1), (19, .aload_n 0, 1), (20, .getfield 116, 3), (23, .iload 5, 2), (25, .iaload, 1), (26, .if_icmp .ge 4, 3), (29, .return_, 1), (30, .aload_n 0, 1), (31, .getfield 65, 3), (34, .iload_n 2, 1), (35, .iaload, 1), (36, .aload_n 0, 1), (37, .getfield 116, 3), (40, .iload 5, 2), (42, .iaload, 1), (43, .if_icmp .le 24, 3), (46, .aload_n 0, 1), (47, .getfield 116, 3), (50, .iload 5, 2), (52, .aload_n 0, 1), (53, .getfield 65, 3), (56, .iload_n 2, 1), (57, .iaload, 1), (58, .iastore, 1), (59, .aload_n 0, 1), (60, .getfield 119, 3), (63, .iload 5, 2), (65, .iconst 0, 1), (66, .iastore, 1), (67, .aload_n 0, 1), (68, .getfield 74, 3), (71, .iload_n 2, 1), (72, .baload, 1), (73, .ifCond .ne 4, 3), (76, .return_, 1), (77, .aload_n 0, 1), (78, .getfield 119, 3), (81, .iload 5, 2), (83, .aload_n 0, 1), (84, .getfield 119, 3), (87, .iload 5, 2), (89, .iaload, 1), (90, .iconst 1, 1), (91, .iconst 3, 1), (92, .iload_n 3, 1), (93, .imul, 1), (94, .iload 4, 2), (96, .iadd, 1), (97, .ishl, 1), (98, .ior, 1), (99, .iastore, 1), (100, .aload_n 0, 1), (101, .iload_n 1, 1), (102, .iload_n 2, 1), (103, .invokevirtual 238, 3), (106, .istore 6, 2), (108, .iconst 1, 1), (109, .aload_n 0, 1), (110, .iload_n 2, 1), (111, .iload 6, 2), (113, .invokevirtual 234, 3), (116, .ishl, 1), (117, .iconst 1, 1), (118, .isub, 1), (119, .istore 7, 2), (121, .aload_n 0, 1), (122, .getfield 122, 3), (125, .bipush 40, 2), (127, .iload_n 1, 1), (128, .imul, 1), (129, .iload_n 2, 1), (130, .iadd, 1), (131, .baload, 1), (132, .ifCond .ne 23, 3), (135, .aload_n 0, 1), (136, .getfield 119, 3), (139, .iload 5, 2), (141, .iaload, 1), (142, .iconst 3, 1), (143, .iload 6, 2), (145, .imul, 1), (146, .ishr, 1), (147, .iload 7, 2), (149, .iand, 1), (150, .iload 7, 2), (152, .if_icmp .eq 4, 3), (155, .return_, 1), (156, .aload_n 0, 1), (157, .getfield 122, 3), (160, .bipush 40, 2), (162, .iload_n 1, 1), (163, .imul, 1), (164, .iload_n 2, 1), (165, .iadd, 1), (166, .iconst 1, 1), (167, .bastore, 1), (168, .bipush 40, 2), (170, .iload_n 1, 1), (171, .imul, 1), (172, .aload_n 0, 1), (173, .getfield 125, 3), (176, .iload_n 1, 1), (177, .iaload, 1), (178, .iadd, 1), (179, .istore 8, 2), (181, .aload_n 0, 1), (182, .getfield 128, 3), (185, .iload 8, 2), (187, .iload_n 2, 1), (188, .iastore, 1), (189, .aload_n 0, 1), (190, .getfield 131, 3), (193, .iload 8, 2), (195, .iload 6, 2), (197, .iastore, 1), (198, .aload_n 0, 1), (199, .getfield 134, 3), (202, .iload 8, 2), (204, .aload_n 0, 1), (205, .getfield 187, 3), (208, .iastore, 1), (209, .aload_n 0, 1), (210, .getfield 125, 3), (213, .iload_n 1, 1), (214, .dup2, 1), (215, .iaload, 1), (216, .iconst 1, 1), (217, .iadd, 1), (218, .iastore, 1), (219, .aload_n 0, 1), (220, .getfield 113, 3), (223, .iload_n 1, 1), (224, .aload_n 0, 1), (225, .getfield 68, 3), (228, .iload_n 2, 1), (229, .iaload, 1), (230, .aload_n 0, 1), (231, .getfield 98, 3), (234, .iload_n 1, 1), (235, .iaload, 1), (236, .if_icmp .lt 14, 3), (239, .aload_n 0, 1), (240, .getfield 113, 3), (243, .iload_n 1, 1), (244, .iaload, 1), (245, .iconst 1, 1), (246, .iadd, 1), (247, .goto 9, 3), (250, .aload_n 0, 1), (251, .getfield 113, 3), (254, .iload_n 1, 1), (255, .iaload, 1), (256, .iastore, 1), (257, .return_, 1)]
theorem cd_Mo_hear : ∀ r ∈ tt_Mo_hear, decode prog_12_method_35_code r.1 = .ok (r.2.1, r.2.2) := by decide +kernel
def tt_Mo_minute : List (Nat × Instr × Nat) := [(0, .aload_n 0, 1), (1, .iconst 0, 1), (2, .putfield 137, 3), (5, .aload_n 0, 1), (6, .dup, 1), (7, .getfield 187, 3), (10, .iconst 1, 1), (11, .iadd, 1), (12, .putfield 187, 3), (15, .iconst 0, 1), (16, .istore_n 1, 1), (17, .iconst 0, 1), (18, .istore_n 2, 1), (19, .iload_n 2, 1), (20, .aload_n 0, 1), (21, .getfield 145, 3), (24, .if_icmp .ge 28, 3), (27, .aload_n 0, 1), (28, .iload_n 2, 1), (29, .invokevirtual 241, 3), (32, .aload_n 0, 1), (33, .iload_n 2, 1), (34, .invokevirtual 245, 3), (37, .iload_n 1, 1), (38, .aload_n 0, 1), (39, .getfield 32, 3), (42, .iload_n 2, 1), (43, .iaload, 1), (44, .iadd, 1), (45, .istore_n 1, 1), (46, .iinc 2 1, 3), (49, .goto (-30), 3), (52, .iconst 0, 1), (53, .istore_n 2, 1), (54, .iload_n 2, 1), (55, .aload_n 0, 1), (56, .getfield 248, 3), (59, .if_icmp .ge 97, 3), (62, .aload_n 0, 1), (63, .getfield 107, 3), (66, .iload_n 2, 1), (67, .iaload, 1), (68, .istore_n 3, 1), (69, .iconst 0, 1), (70, .istore 4, 2), (72, .iload_n 3, 1), (73, .ifCond .lt 77, 3), (76, .iload 4, 2), (78, .aload_n 0, 1), (79, .getfield 32, 3), (82, .iload_n 3, 1), (83, .iaload, 1), (84, .if_icmp .ge 66, 3), (87, .aload_n 0, 1), (88, .getfield 110, 3), (91, .iload_n 2, 1), (92, .iaload, 1), (93, .ifCond .le 16, 3), (96, .aload_n 0, 1), (97, .getfield 110, 3), (100, .iload_n 2, 1), (101, .dup2, 1), (102, .iaload, 1), (103, .iconst 1, 1), (104, .isub, 1), (105, .iastore, 1), (106, .goto 38, 3), (109, .bipush 108, 2), (111, .iload_n 3, 1), (112, .imul, 1), (113, .iload 4, 2), (115, .iadd, 1), (116, .istore 5, 2), (118, .aload_n 0, 1), (119, .iload_n 2, 1), (120, .aload_n 0, 1), (121, .getfield 35, 3), (124, .iload 5, 2), (126, .iaload, 1), (127, .aload_n 0, 1), (128, .getfield 38, 3), (131, .iload 5, 2), (133, .iaload, 1), (134, .aload_n 0, 1), (135, .getfield 41, 3), (138, .iload 5, 2), (140, .iaload, 1), (141, .invokevirtual 251, 3), (144, .iinc 4 1, 3), (147, .goto (-75), 3), (150, .iinc 2 1, 3), (153, .goto (-99), 3), (156, .iload_n 1, 1), (157, .ireturn, 1)]
theorem cd_Mo_minute : ∀ r ∈ tt_Mo_minute, decode prog_12_method_36_code r.1 = .ok (r.2.1, r.2.2) := by decide +kernel
def tt_Mo_isCell : List (Nat × Instr × Nat) := [(0, .iload_n 1, 1), (1, .ifCond .lt 15, 3), (4, .iload_n 1, 1), (5, .aload_n 0, 1), (6, .getfield 145, 3), (9, .if_icmp .ge 7, 3), (12, .iconst 1, 1), (13, .goto 4, 3), (16, .iconst 0, 1), (17, .ireturn, 1)]
theorem cd_Mo_isCell : ∀ r ∈ tt_Mo_isCell, decode prog_12_method_37_code r.1 = .ok (r.2.1, r.2.2) := by decide +kernel
def tt_Mo_isHandset : List (Nat × Instr × Nat) := [(0, .iload_n 1, 1), (1, .ifCond .lt 15, 3), (4, .iload_n 1, 1), (5, .aload_n 0, 1), (6, .getfield 248, 3), (9, .if_icmp .ge 7, 3), (12, .iconst 1, 1), (13, .goto 4, 3), (16, .iconst 0, 1), (17, .ireturn, 1)]
theorem cd_Mo_isHandset : ∀ r ∈ tt_Mo_isHandset, decode prog_12_method_38_code r.1 = .ok (r.2.1, r.2.2) := by decide +kernel
def tt_Mo_line : List (Nat × Instr × Nat) := [(0, .aload_n 0, 1), (1, .aload_n 0, 1), (2, .iload_n 1, 1), (3, .invokevirtual 254, 3), (6, .ifCond .eq 7, 3), (9, .iconst 0, 1), (10, .goto 4, 3), (13, .iconst 1, 1), (14, .putfield 137, 3), (17, .aload_n 0, 1), (18, .getfield 137, 3), (21, .ifCond .le 5, 3), (24, .iconst 0, 1), (25, .ireturn, 1), (26, .aload_n 0, 1), (27, .getfield 19, 3), (30, .iload_n 1, 1), (31, .baload, 1), (32, .ifCond .ne 7, 3), (35, .iconst 1, 1), (36, .goto 4, 3), (39, .iconst 0, 1), (40, .istore_n 3, 1), (41, .aload_n 0, 1), (42, .getfield 19, 3), (45, .iload_n 1, 1), (46, .iload_n 2, 1), (47, .ifCond .ne 7, 3), (50, .iconst 1, 1), (51, .goto 4, 3), (54, .iconst 0, 1), (55, .bastore, 1), (56, .iload_n 3, 1), (57, .ireturn, 1)]
theorem cd_Mo_line : ∀ r ∈ tt_Mo_line, decode prog_12_method_39_code r.1 = .ok (r.2.1, r.2.2) := by decide +kernel
def tt_Mo_handset : List (Nat × Instr × Nat) := [(0, .aload_n 0, 1), (1, .iload_n 1, 1), (2, .ifCond .lt 8, 3), (5, .iload_n 1, 1), (6, .iconst 5, 1), (7, .if_icmp .le 7, 3), (10, .iconst 1, 1), (11, .goto 16, 3), (14, .aload_n 0, 1), (15, .getfield 248, 3), (18, .iconst 3, 1), (19, .if_icmp .ne 7, 3), (22, .iconst 2, 1), (23, .goto 4, 3), (26, .iconst 0, 1), (27, .putfield 137, 3), (30, .aload_n 0, 1), (31, .getfield 137, 3), (34, .ifCond .le 5, 3), (37, .iconst 0, 1), (38, .ireturn, 1), (39, .aload_n 0, 1), (40, .getfield 98, 3), (43, .aload_n 0, 1), (44, .getfield 248, 3), (47, .iload_n 1, 1), (48, .iastore, 1), (49, .aload_n 0, 1), (50, .getfield 107, 3), (53, .aload_n 0, 1), (54, .getfield 248, 3), (57, .iconst (-1), 1), (58, .iastore, 1), (59, .aload_n 0, 1), (60, .dup, 1), (61, .getfield 248, 3), (64, .iconst 1, 1), (65, .iadd, 1), (66, .putfield 248, 3), (69, .aload_n 0, 1), (70, .getfield 248, 3), (73, .iconst 1, 1), (74, .isub, 1), (75, .ireturn, 1)]
theorem cd_Mo_handset : ∀ r ∈ tt_Mo_handset, decode prog_12_method_40_code r.1 = .ok (r.2.1, r.2.2) := by decide +kernel
def tt_Mo_likes : List (Nat × Instr × Nat) := [(0, .aload_n 0, 1), (1, .aload_n 0, 1), (2, .iload_n 1, 1), (3, .invokevirtual 257, 3), (6, .ifCond .ne 7, 3), (9, .iconst 1, 1), (10, .goto 31, 3), (13, .iload_n 2, 1), (14, .ifCond .lt 8, 3), (17, .iload_n 2, 1), (18, .iconst 2, 1), (19, .if_icmp .le 7, 3), (22, .iconst 2, 1), (23, .goto 18, 3), (26, .aload_n 0, 1), (27, .getfield 101, 3), (30, .iload_n 1, 1), (31, .iaload, 1), (32, .iconst 3, 1), (33, .if_icmp .ne 7, 3), (36, .iconst 3, 1), (37, .goto 4, 3), (40, .iconst 0, 1), (41, .putfield 137, 3), (44, .aload_n 0, 1), (45, .getfield 137, 3), (48, .ifCond .le 5, 3), (51, .iconst 0, 1), (52, .ireturn, 1), (53, .aload_n 0, 1), (54, .getfield 104, 3), (57, .iconst 3, 1), (58, .iload_n 1, 1), (59, .imul, 1), (60, .aload_n 0, 1), (61, .getfield 101, 3), (64, .iload_n 1, 1), (65, .iaload, 1), (66, .iadd, 1), (67, .iload_n 2, 1), (68, .iastore, 1), (69, .aload_n 0, 1), (70, .getfield 101, 3), (73, .iload_n 1, 1), (74, .dup2, 1), (75, .iaload, 1), (76, .iconst 1, 1), (77, .iadd, 1), (78, .iastore, 1), (79, .aload_n 0, 1), (80, .getfield 101, 3), (83, .iload_n 1, 1), (84, .iaload, 1), (85, .ireturn, 1)]
theorem cd_Mo_likes : ∀ r ∈ tt_Mo_likes, decode prog_12_method_41_code r.1 = .ok (r.2.1, r.2.2) := by decide +kernel
def tt_Mo_camp : List (Nat × Instr × Nat) := [(0, .aload_n 0, 1), (1, .aload_n 0, 1), (2, .iload_n 1, 1), (3, .invokevirtual 257, 3), (6, .ifCond .eq 16, 3), (9, .iload_n 2, 1), (10, .iconst (-1), 1), (11, .if_icmp .eq 15, 3), (14, .aload_n 0, 1), (15, .iload_n 2, 1), (16, .invokevirtual 254, 3), (19, .ifCond .ne 7, 3), (22, .iconst 1, 1), (23, .goto 4, 3), (26, .iconst 0, 1), (27, .putfield 137, 3), (30, .aload_n 0, 1), (31, .getfield 137, 3), (34, .ifCond .le 5, 3), (37, .iconst 0, 1), (38, .ireturn, 1), (39, .aload_n 0, 1), (40, .getfield 107, 3), (43, .iload_n 1, 1), (44, .iaload, 1), (45, .istore_n 3, 1), (46, .aload_n 0, 1), (47, .getfield 107, 3), (50, .iload_n 1, 1), (51, .iload_n 2, 1), (52, .iastore, 1), (53, .iload_n 3, 1), (54, .ireturn, 1)]
theorem cd_Mo_camp : ∀ r ∈ tt_Mo_camp, decode prog_12_method_42_code r.1 = .ok (r.2.1, r.2.2) := by decide +kernel
def tt_Mo_miss : List (Nat × Instr × Nat) := [(0, .aload_n 0, 1), (1, .aload_n 0, 1), (2, .iload_n 1, 1), (3, .invokevirtual 257, 3), (6, .ifCond .ne 7, 3), (9, .iconst 1, 1), (10, .goto 19, 3), (13, .iload_n 2, 1), (14, .ifCond .lt 10, 3), (17, .iload_n 2, 1), (18, .sipush 1000, 3), (21, .if_icmp .le 7, 3), (24, .iconst 2, 1), (25, .goto 4, 3), (28, .iconst 0, 1), (29, .putfield 137, 3), (32, .aload_n 0, 1), (33, .getfield 137, 3), (36, .ifCond .le 5, 3), (39, .iconst 0, 1), (40, .ireturn, 1), (41, .aload_n 0, 1), (42, .getfield 110, 3), (45, .iload_n 1, 1), (46, .aload_n 0, 1), (47, .getfield 110, 3), (50, .iload_n 1, 1), (51, .iaload, 1), (52, .iload_n 2, 1), (53, .iadd, 1), (54, .iastore, 1), (55, .aload_n 0, 1), (56, .getfield 110, 3), (59, .iload_n 1, 1), (60, .iaload, 1), (61, .ireturn, 1)]
theorem cd_Mo_miss : ∀ r ∈ tt_Mo_miss, decode prog_12_method_43_code r.1 = .ok (r.2.1, r.2.2) := by decide +kernel
def tt_Mo_covers : List (Nat × Instr × Nat) := [(0, .aload_n 0, 1), (1, .iload_n 1, 1), (2, .invokevirtual 210, 3), (5, .istore_n 3, 1), (6, .aload_n 0, 1), (7, .aload_n 0, 1), (8, .iload_n 2, 1), (9, .invokevirtual 254, 3), (12, .ifCond .ne 7, 3), (15, .iconst 1, 1), (16, .goto 26, 3), (19, .iload_n 3, 1), (20, .ifCond .lt 17, 3), (23, .aload_n 0, 1), (24, .getfield 74, 3), (27, .aload_n 0, 1), (28, .getfield 59, 3), (31, .iload_n 3, 1), (32, .iaload, 1), (33, .baload, 1), (34, .ifCond .ne 7, 3), (37, .iconst 2, 1), (38, .goto 4, 3), (41, .iconst 0, 1), (42, .putfield 137, 3), (45, .aload_n 0, 1), (46, .getfield 137, 3), (49, .ifCond .ne 21, 3), (52, .aload_n 0, 1), (53, .aload_n 0, 1), (54, .getfield 59, 3), (57, .iload_n 3, 1), (58, .iaload, 1), (59, .iload_n 2, 1), (60, .invokevirtual 181, 3), (63, .ifCond .eq 7, 3), (66, .iconst 1, 1), (67, .goto 4, 3), (70, .iconst 0, 1), (71, .ireturn, 1)]
theorem cd_Mo_covers : ∀ r ∈ tt_Mo_covers, decode prog_12_method_44_code r.1 = .ok (r.2.1, r.2.2) := by decide +kernel
def tt_Mo_version : List (Nat × Instr × Nat) := [(0, .aload_n 0, 1), (1, .iconst 0, 1), (2, .putfield 137, 3), (5, .aload_n 0, 1), (6, .iload_n 1, 1), (7, .invokevirtual 210, 3), (10, .istore_n 2, 1), (11, .iload_n 2, 1), (12, .ifCond .ge 7, 3), (15, .iconst 0, 1), (16, .goto 14, 3), (19, .aload_n 0, 1), (20, .getfield 65, 3), (23, .aload_n 0, 1), (24, .getfield 59, 3), (27, .iload_n 2, 1), (28, .iaload, 1), (29, .iaload, 1), (30, .ireturn, 1)]
theorem cd_Mo_version : ∀ r ∈ tt_Mo_version, decode prog_12_method_45_code r.1 = .ok (r.2.1, r.2.2) := by decide +kernel
def tt_Mo_listed : List (Nat × Instr × Nat) := [(0, .aload_n 0, 1), (1, .aload_n 0, 1), (2, .iload_n 1, 1), (3, .invokevirtual 254, 3), (6, .ifCond .eq 17, 3), (9, .iload_n 2, 1), (10, .ifCond .lt 13, 3), (13, .iload_n 2, 1), (14, .aload_n 0, 1), (15, .getfield 23, 3), (18, .iload_n 1, 1), (19, .iaload, 1), (20, .if_icmp .lt 7, 3), (23, .iconst 1, 1), (24, .goto 17, 3), (27, .iload_n 3, 1), (28, .ifCond .lt 8, 3), (31, .iload_n 3, 1), (32, .iconst 4, 1), (33, .if_icmp .le 7, 3), (36, .iconst 2, 1), (37, .goto 4, 3), (40, .iconst 0, 1), (41, .putfield 137, 3), (44, .aload_n 0, 1), (45, .getfield 137, 3), (48, .ifCond .le 5, 3), (51, .iconst 0, 1), (52, .ireturn, 1), (53, .aload_n 0, 1), (54, .getfield 26, 3), (57, .bipush 12, 2), (59, .iload_n 1, 1), (60, .imul, 1), (61, .iload_n 2, 1), (62, .iadd, 1), (63, .iaload, 1), (64, .istore 4, 2), (66, .iload_n 3, 1), (67, .ifCond .ne 18, 3), (70, .aload_n 0, 1), (71, .getfield 56, 3), (74, .aload_n 0, 1), (75, .getfield 62, 3), (78, .iload 4, 2), (80, .iaload, 1), (81, .iaload, 1), (82, .goto 63, 3), (85, .iload_n 3, 1), (86, .iconst 1, 1), (87, .if_icmp .ne 13, 3), (90, .aload_n 0, 1), (91, .getfield 65, 3), (94, .iload 4, 2), (96, .iaload, 1), (97, .goto 48, 3), (100, .iload_n 3, 1), (101, .iconst 2, 1), (102, .if_icmp .ne 13, 3), (105, .aload_n 0, 1), (106, .getfield 68, 3), (109, .iload 4, 2), (111, .iaload, 1), (112, .goto 33, 3), (115, .iload_n 3, 1), (116, .iconst 3, 1), (117, .if_icmp .ne 13, 3), (120, .aload_n 0, 1), (121, .getfield 71, 3), (124, .iload 4, 2), (126, .iaload, 1), (127, .goto 18, 3), (130, .aload_n 0, 1), (131, .getfield 74, 3), (134, .iload 4, 2), (136, .baload, 1), (137, .ifCond .eq 7, 3), (140, .iconst 1, 1), (141, .goto 4, 3), (144, .iconst 0, 1), (145, .ireturn, 1)]
theorem cd_Mo_listed : ∀ r ∈ tt_Mo_listed, decode prog_12_method_46_code r.1 = .ok (r.2.1, r.2.2) := by decide +kernel
def tt_Mo_sent : List (Nat × Instr × Nat) := [(0, .aload_n 0, 1), (1, .aload_n 0, 1), (2, .iload_n 1, 1), (3, .invokevirtual 254, 3), (6, .ifCond .eq 17, 3), (9, .iload_n 2, 1), (10, .ifCond .lt 13, 3), (13, .iload_n 2, 1), (14, .aload_n 0, 1), (15, .getfield 32, 3), (18, .iload_n 1, 1), (19, .iaload, 1), (20, .if_icmp .lt 7, 3), (23, .iconst 1, 1), (24, .goto 17, 3), (27, .iload_n 3, 1), (28, .ifCond .lt 8, 3), (31, .iload_n 3, 1), (32, .iconst 4, 1), (33, .if_icmp .le 7, 3), (36, .iconst 2, 1), (37, .goto 4, 3), (40, .iconst 0, 1), (41, .putfield 137, 3), (44, .aload_n 0, 1), (45, .getfield 137, 3), (48, .ifCond .le 5, 3), (51, .iconst 0, 1), (52, .ireturn, 1), (53, .bipush 108, 2), (55, .iload_n 1, 1), (56, .imul, 1), (57, .iload_n 2, 1), (58, .iadd, 1), (59, .istore 4, 2), (61, .aload_n 0, 1), (62, .getfield 35, 3), (65, .iload 4, 2), (67, .iaload, 1), (68, .istore 5, 2), (70, .aload_n 0, 1), (71, .getfield 38, 3), (74, .iload 4, 2), (76, .iaload, 1), (77, .istore 6, 2), (79, .iload 6, 2), (81, .iconst 3, 1), (82, .if_icmp .ne 7, 3), (85, .iconst 0, 1), (86, .goto 26, 3), (89, .aload_n 0, 1), (90, .getfield 92, 3), (93, .iconst 3, 1), (94, .iload 5, 2), (96, .imul, 1), (97, .iload 6, 2), (99, .iadd, 1), (100, .iaload, 1), (101, .bipush 10, 2), (103, .aload_n 0, 1), (104, .getfield 41, 3), (107, .iload 4, 2), (109, .iaload, 1), (110, .imul, 1), (111, .isub, 1), (112, .istore 7, 2), (114, .iload_n 3, 1), (115, .ifCond .ne 18, 3), (118, .aload_n 0, 1), (119, .getfield 56, 3), (122, .aload_n 0, 1), (123, .getfield 62, 3), (126, .iload 5, 2), (128, .iaload, 1), (129, .iaload, 1), (130, .goto 57, 3), (133, .iload_n 3, 1), (134, .iconst 1, 1), (135, .if_icmp .ne 13, 3), (138, .aload_n 0, 1), (139, .getfield 65, 3), (142, .iload 5, 2), (144, .iaload, 1), (145, .goto 42, 3), (148, .iload_n 3, 1), (149, .iconst 2, 1), (150, .if_icmp .ne 8, 3), (153, .iload 6, 2), (155, .goto 32, 3), (158, .iload_n 3, 1), (159, .iconst 3, 1), (160, .if_icmp .ne 13, 3), (163, .aload_n 0, 1), (164, .getfield 41, 3), (167, .iload 4, 2), (169, .iaload, 1), (170, .goto 17, 3), (173, .iload 7, 2), (175, .bipush 10, 2), (177, .if_icmp .le 8, 3), (180, .bipush 10, 2), (182, .goto 5, 3), (185, .iload 7, 2), (187, .ireturn, 1)]
theorem cd_Mo_sent : ∀ r ∈ tt_Mo_sent, decode prog_12_method_47_code r.1 = .ok (r.2.1, r.2.2) := by decide +kernel
def tt_Mo_isCurrent : List (Nat × Instr × Nat) := [(0, .aload_n 0, 1), (1, .getfield 71, 3), (4, .iload_n 2, 1), (5, .iaload, 1), (6, .aload_n 0, 1), (7, .getfield 187, 3), (10, .if_icmp .le 32, 3), (13, .aload_n 0, 1), (14, .getfield 116, 3), (17, .bipush 12, 2), (19, .iload_n 1, 1), (20, .imul, 1), (21, .aload_n 0, 1), (22, .getfield 62, 3), (25, .iload_n 2, 1), (26, .iaload, 1), (27, .iadd, 1), (28, .iaload, 1), (29, .aload_n 0, 1), (30, .getfield 65, 3), (33, .iload_n 2, 1), (34, .iaload, 1), (35, .if_icmp .gt 7, 3), (38, .iconst 1, 1), (39, .goto 4, 3), (42, .iconst 0, 1), (43, .ireturn, 1)]
theorem cd_Mo_isCurrent : ∀ r ∈ tt_Mo_isCurrent, decode prog_12_method_48_code r.1 = .ok (r.2.1, r.2.2) := by decide +kernel
def tt_Mo_shown : List (Nat × Instr × Nat) := [(0, .aload_n 0, 1), (1, .aload_n 0, 1), (2, .iload_n 1, 1), (3, .invokevirtual 257, 3), (6, .ifCond .eq 17, 3), (9, .iload_n 2, 1), (10, .ifCond .lt 13, 3), (13, .iload_n 2, 1), (14, .aload_n 0, 1), (15, .getfield 125, 3), (18, .iload_n 1, 1), (19, .iaload, 1), (20, .if_icmp .lt 7, 3), (23, .iconst 1, 1), (24, .goto 17, 3), (27, .iload_n 3, 1), (28, .ifCond .lt 8, 3), (31, .iload_n 3, 1), (32, .iconst 5, 1), (33, .if_icmp .le 7, 3), (36, .iconst 2, 1), (37, .goto 4, 3), (40, .iconst 0, 1), (41, .putfield 137, 3), (44, .aload_n 0, 1), (45, .getfield 137, 3), (48, .ifCond .le 5, 3), (51, .iconst 0, 1), (52, .ireturn, 1), (53, .bipush 40, 2), (55, .iload_n 1, 1), (56, .imul, 1), (57, .iload_n 2, 1), (58, .iadd, 1), (59, .istore 4, 2), (61, .aload_n 0, 1), (62, .getfield 128, 3), (65, .iload 4, 2), (67, .iaload, 1), (68, .istore 5, 2), (70, .aload_n 0, 1), (71, .getfield 131, 3), (74, .iload 4, 2), (76, .iaload, 1), (77, .istore 6, 2), (79, .iload_n 3, 1), (80, .iconst 3, 1), (81, .if_icmp .le 39, 3), (84, .iload_n 3, 1), (85, .iconst 5, 1), (86, .if_icmp .ne 18, 3), (89, .aload_n 0, 1), (90, .getfield 92, 3), (93, .iconst 3, 1), (94, .iload 5, 2), (96, .imul, 1), (97, .iload 6, 2), (99, .iadd, 1), (100, .iaload, 1), (101, .goto 18, 3), (104, .aload_n 0, 1), (105, .iload_n 1, 1), (106, .iload 5, 2), (108, .invokevirtual 260, 3), (111, .ifCond .eq 7, 3), (114, .iconst 1, 1), (115, .goto 4, 3), (118, .iconst 0, 1), (119, .ireturn, 1), (120, .iload_n 3, 1), (121, .ifCond .ne 18, 3), (124, .aload_n 0, 1), (125, .getfield 56, 3), (128, .aload_n 0, 1), (129, .getfield 62, 3), (132, .iload 5, 2), (134, .iaload, 1), (135, .iaload, 1), (136, .goto 35, 3), (139, .iload_n 3, 1), (140, .iconst 1, 1), (141, .if_icmp .ne 13, 3), (144, .aload_n 0, 1), (145, .getfield 65, 3), (148, .iload 5, 2), (150, .iaload, 1), (151, .goto 20, 3), (154, .iload_n 3, 1), (155, .iconst 2, 1), (156, .if_icmp .ne 8, 3), (159, .iload 6, 2), (161, .goto 10, 3), (164, .aload_n 0, 1), (165, .getfield 134, 3), (168, .iload 4, 2), (170, .iaload, 1), (171, .ireturn, 1)]
theorem cd_Mo_shown : ∀ r ∈ tt_Mo_shown, decode prog_12_method_49_code r.1 = .ok (r.2.1, r.2.2) := by decide +kernel
def tt_Mo_shownByte : List (Nat × Instr × Nat) := [(0, .aload_n 0, 1), (1, .aload_n 0, 1), (2, .iload_n 1, 1), (3, .invokevirtual 257, 3), (6, .ifCond .eq 17, 3), (9, .iload_n 2, 1), (10, .ifCond .lt 13, 3), (13, .iload_n 2, 1), (14, .aload_n 0, 1), (15, .getfield 125, 3), (18, .iload_n 1, 1), (19, .iaload, 1), (20, .if_icmp .lt 7, 3), (23, .iconst 1, 1), (24, .goto 4, 3), (27, .iconst 0, 1), (28, .putfield 137, 3), (31, .aload_n 0, 1), (32, .getfield 137, 3), (35, .ifCond .le 5, 3), (38, .iconst 0, 1), (39, .ireturn, 1), (40, .aload_n 0, 1), (41, .getfield 128, 3), (44, .bipush 40, 2), (46, .iload_n 1, 1), (47, .imul, 1), (48, .iload_n 2, 1), (49, .iadd, 1), (50, .iaload, 1), (51, .istore 4, 2), (53, .aload_n 0, 1), (54, .getfield 131, 3), (57, .bipush 40, 2), (59, .iload_n 1, 1), (60, .imul, 1), (61, .iload_n 2, 1), (62, .iadd, 1), (63, .iaload, 1), (64, .istore 5, 2), (66, .aload_n 0, 1), (67, .iload_n 3, 1), (68, .ifCond .lt 19, 3), (71, .iload_n 3, 1), (72, .aload_n 0, 1), (73, .getfield 92, 3), (76, .iconst 3, 1), (77, .iload 4, 2), (79, .imul, 1), (80, .iload 5, 2), (82, .iadd, 1), (83, .iaload, 1), (84, .if_icmp .lt 7, 3), (87, .iconst 1, 1), (88, .goto 4, 3), (91, .iconst 0, 1), (92, .putfield 137, 3), (95, .aload_n 0, 1), (96, .getfield 137, 3), (99, .ifCond .le 7, 3), (102, .iconst 0, 1), (103, .goto 21, 3), (106, .aload_n 0, 1), (107, .getfield 95, 3), (110, .bipush 90, 2), (112, .iload 4, 2), (114, .imul, 1), (115, .bipush 30, 2), (117, .iload 5, 2), (119, .imul, 1), (120, .iadd, 1), (121, .iload_n 3, 1), (122, .iadd, 1), (123, .iaload, 1), (124, .ireturn, 1)]
theorem cd_Mo_shownByte : ∀ r ∈ tt_Mo_shownByte, decode prog_12_method_50_code r.1 = .ok (r.2.1, r.2.2) := by decide +kernel
def tt_Mo_total : List (Nat × Instr × Nat) := [(0, .aload_n 0, 1), (1, .iconst 0, 1), (2, .putfield 137, 3), (5, .iload_n 1, 1), (6, .bipush 10, 2), (8, .if_icmp .lt 24, 3), (11, .iload_n 1, 1), (12, .bipush 10, 2), (14, .isub, 1), (15, .aload_n 0, 1), (16, .getfield 248, 3), (19, .if_icmp .ge 13, 3), (22, .aload_n 0, 1), (23, .getfield 113, 3), (26, .iload_n 1, 1), (27, .bipush 10, 2), (29, .isub, 1), (30, .iaload, 1), (31, .ireturn, 1), (32, .iload_n 1, 1), (33, .ifCond .ne 10, 3), (36, .aload_n 0, 1), (37, .getfield 187, 3), (40, .goto 52, 3), (43, .iload_n 1, 1), (44, .iconst 1, 1), (45, .if_icmp .ne 10, 3), (48, .aload_n 0, 1), (49, .getfield 145, 3), (52, .goto 40, 3), (55, .iload_n 1, 1), (56, .iconst 2, 1), (57, .if_icmp .ne 10, 3), (60, .aload_n 0, 1), (61, .getfield 184, 3), (64, .goto 28, 3), (67, .iload_n 1, 1), (68, .iconst 3, 1), (69, .if_icmp .ne 10, 3), (72, .aload_n 0, 1), (73, .getfield 194, 3), (76, .goto 16, 3), (79, .iload_n 1, 1), (80, .iconst 4, 1), (81, .if_icmp .ne 10, 3), (84, .aload_n 0, 1), (85, .getfield 248, 3), (88, .goto 4, 3), (91, .iconst (-1), 1), (92, .ireturn, 1)]
theorem cd_Mo_total : ∀ r ∈ tt_Mo_total, decode prog_12_method_51_code r.1 = .ok (r.2.1, r.2.2) := by decide +kernel
end
section
def tt_La_cell : List (Nat × Instr × Nat) := [(0, .aload 4, 2), (2, .iconst 0, 1), (3, .aload_n 0, 1), (4, .iload_n 1, 1), (5, .iload_n 2, 1), (6, .iload_n 3, 1), (7, .invokevirtual 7, 3), (10, .i2l, 1), (11, .lastore, 1), (12, .goto 11, 3), (15, .astore 5, 2), (17, .iconst 1, 1), (18, .ireturn, 1), (19, .astore 5, 2), (21, .iconst 2, 1), (22, .ireturn, 1), (23, .iconst 0, 1), (24, .ireturn, 1)]
theorem cd_La_cell : ∀ r ∈ tt_La_cell, decode method_3_code r.1 = .ok (r.2.1, r.2.2) := by decide +kernel
def tt_La_corner : List (Nat × Instr × Nat) := [(0, .aload_n 3, 1), (1, .iconst 0, 1), (2, .aload_n 0, 1), (3, .iload_n 1, 1), (4, .iload_n 2, 1), (5, .invokevirtual 17, 3), (8, .i2l, 1), (9, .lastore, 1), (10, .goto 11, 3), (13, .astore 4, 2), (15, .iconst 1, 1), (16, .ireturn, 1), (17, .astore 4, 2), (19, .iconst 2, 1), (20, .ireturn, 1), (21, .iconst 0, 1), (22, .ireturn, 1)]
theorem cd_La_corner : ∀ r ∈ tt_La_corner, decode method_4_code r.1 = .ok (r.2.1, r.2.2) := by decide +kernel
def tt_La_text : List (Nat × Instr × Nat) := [(0, .aload_n 3, 1), (1, .iconst 0, 1), (2, .aload_n 0, 1), (3, .iload_n 1, 1), (4, .iload_n 2, 1), (5, .invokevirtual 21, 3), (8, .i2l, 1), (9, .lastore, 1), (10, .goto 11, 3), (13, .astore 4, 2), (15, .iconst 1, 1), (16, .ireturn, 1), (17, .astore 4, 2), (19, .iconst 2, 1), (20, .ireturn, 1), (21, .iconst 0, 1), (22, .ireturn, 1)]
theorem cd_La_text : ∀ r ∈ tt_La_text, decode method_5_code r.1 = .ok (r.2.1, r.2.2) := by decide +kernel
def tt_La_issue : List (Nat × Instr × Nat) := [(0, .aload 6, 2), (2, .iconst 0, 1), (3, .aload_n 0, 1), (4, .iload_n 1, 1), (5, .iload_n 2, 1), (6, .iload_n 3, 1), (7, .iload 4, 2), (9, .iload 5, 2), (11, .invokevirtual 24, 3), (14, .i2l, 1), (15, .lastore, 1), (16, .goto 15, 3), (19, .astore 7, 2), (21, .iconst 1, 1), (22, .ireturn, 1), (23, .astore 7, 2), (25, .iconst 2, 1), (26, .ireturn, 1), (27, .astore 7, 2), (29, .iconst 3, 1), (30, .ireturn, 1), (31, .iconst 0, 1), (32, .ireturn, 1)]
theorem cd_La_issue : ∀ r ∈ tt_La_issue, decode method_6_code r.1 = .ok (r.2.1, r.2.2) := by decide +kernel
def tt_La_update : List (Nat × Instr × Nat) := [(0, .aload 5, 2), (2, .iconst 0, 1), (3, .aload_n 0, 1), (4, .iload_n 1, 1), (5, .iload_n 2, 1), (6, .iload_n 3, 1), (7, .iload 4, 2), (9, .invokevirtual 30, 3), (12, .i2l, 1), (13, .lastore, 1), (14, .goto 15, 3), (17, .astore 6, 2), (19, .iconst 1, 1), (20, .ireturn, 1), (21, .astore 6, 2), (23, .iconst 2, 1), (24, .ireturn, 1), (25, .astore 6, 2), (27, .iconst 3, 1), (28, .ireturn, 1), (29, .iconst 0, 1), (30, .ireturn, 1)]
theorem cd_La_update : ∀ r ∈ tt_La_update, decode method_7_code r.1 = .ok (r.2.1, r.2.2) := by decide +kernel
def tt_La_cancel : List (Nat × Instr × Nat) := [(0, .aload_n 2, 1), (1, .iconst 0, 1), (2, .aload_n 0, 1), (3, .iload_n 1, 1), (4, .invokevirtual 34, 3), (7, .i2l, 1), (8, .lastore, 1), (9, .goto 6, 3), (12, .astore_n 3, 1), (13, .iconst 1, 1), (14, .ireturn, 1), (15, .iconst 0, 1), (16, .ireturn, 1)]
theorem cd_La_cancel : ∀ r ∈ tt_La_cancel, decode method_8_code r.1 = .ok (r.2.1, r.2.2) := by decide +kernel
def tt_La_line : List (Nat × Instr × Nat) := [(0, .aload_n 3, 1), (1, .iconst 0, 1), (2, .aload_n 0, 1), (3, .iload_n 1, 1), (4, .iload_n 2, 1), (5, .invokevirtual 38, 3), (8, .ifCond .eq 7, 3), (11, .lconst 1, 1), (12, .goto 4, 3), (15, .lconst 0, 1), (16, .lastore, 1), (17, .goto 7, 3), (20, .astore 4, 2), (22, .iconst 1, 1), (23, .ireturn, 1), (24, .iconst 0, 1), (25, .ireturn, 1)]
theorem cd_La_line : ∀ r ∈ tt_La_line, decode method_9_code r.1 = .ok (r.2.1, r.2.2) := by decide +kernel
def tt_La_handset : List (Nat × Instr × Nat) := [(0, .aload_n 2, 1), (1, .iconst 0, 1), (2, .aload_n 0, 1), (3, .iload_n 1, 1), (4, .invokevirtual 44, 3), (7, .i2l, 1), (8, .lastore, 1), (9, .goto 9, 3), (12, .astore_n 3, 1), (13, .iconst 1, 1), (14, .ireturn, 1), (15, .astore_n 3, 1), (16, .iconst 2, 1), (17, .ireturn, 1), (18, .iconst 0, 1), (19, .ireturn, 1)]
theorem cd_La_handset : ∀ r ∈ tt_La_handset, decode method_10_code r.1 = .ok (r.2.1, r.2.2) := by decide +kernel
def tt_La_likes : List (Nat × Instr × Nat) := [(0, .aload_n 3, 1), (1, .iconst 0, 1), (2, .aload_n 0, 1), (3, .iload_n 1, 1), (4, .iload_n 2, 1), (5, .invokevirtual 47, 3), (8, .i2l, 1), (9, .lastore, 1), (10, .goto 15, 3), (13, .astore 4, 2), (15, .iconst 1, 1), (16, .ireturn, 1), (17, .astore 4, 2), (19, .iconst 2, 1), (20, .ireturn, 1), (21, .astore 4, 2), (23, .iconst 3, 1), (24, .ireturn, 1), (25, .iconst 0, 1), (26, .ireturn, 1)]
theorem cd_La_likes : ∀ r ∈ tt_La_likes, decode method_11_code r.1 = .ok (r.2.1, r.2.2) := by decide +kernel
def tt_La_camp : List (Nat × Instr × Nat) := [(0, .aload_n 3, 1), (1, .iconst 0, 1), (2, .aload_n 0, 1), (3, .iload_n 1, 1), (4, .iload_n 2, 1), (5, .invokevirtual 50, 3), (8, .i2l, 1), (9, .lastore, 1), (10, .goto 7, 3), (13, .astore 4, 2), (15, .iconst 1, 1), (16, .ireturn, 1), (17, .iconst 0, 1), (18, .ireturn, 1)]
theorem cd_La_camp : ∀ r ∈ tt_La_camp, decode method_12_code r.1 = .ok (r.2.1, r.2.2) := by decide +kernel
def tt_La_miss : List (Nat × Instr × Nat) := [(0, .aload_n 3, 1), (1, .iconst 0, 1), (2, .aload_n 0, 1), (3, .iload_n 1, 1), (4, .iload_n 2, 1), (5, .invokevirtual 53, 3), (8, .i2l, 1), (9, .lastore, 1), (10, .goto 11, 3), (13, .astore 4, 2), (15, .iconst 1, 1), (16, .ireturn, 1), (17, .astore 4, 2), (19, .iconst 2, 1), (20, .ireturn, 1), (21, .iconst 0, 1), (22, .ireturn, 1)]
theorem cd_La_miss : ∀ r ∈ tt_La_miss, decode method_13_code r.1 = .ok (r.2.1, r.2.2) := by decide +kernel
def tt_La_covers : List (Nat × Instr × Nat) := [(0, .aload_n 3, 1), (1, .iconst 0, 1), (2, .aload_n 0, 1), (3, .iload_n 1, 1), (4, .iload_n 2, 1), (5, .invokevirtual 56, 3), (8, .ifCond .eq 7, 3), (11, .lconst 1, 1), (12, .goto 4, 3), (15, .lconst 0, 1), (16, .lastore, 1), (17, .goto 11, 3), (20, .astore 4, 2), (22, .iconst 1, 1), (23, .ireturn, 1), (24, .astore 4, 2), (26, .iconst 2, 1), (27, .ireturn, 1), (28, .iconst 0, 1), (29, .ireturn, 1)]
theorem cd_La_covers : ∀ r ∈ tt_La_covers, decode method_14_code r.1 = .ok (r.2.1, r.2.2) := by decide +kernel
def tt_La_listed : List (Nat × Instr × Nat) := [(0, .aload 4, 2), (2, .iconst 0, 1), (3, .aload_n 0, 1), (4, .iload_n 1, 1), (5, .iload_n 2, 1), (6, .iload_n 3, 1), (7, .invokevirtual 60, 3), (10, .i2l, 1), (11, .lastore, 1), (12, .goto 11, 3), (15, .astore 5, 2), (17, .iconst 1, 1), (18, .ireturn, 1), (19, .astore 5, 2), (21, .iconst 2, 1), (22, .ireturn, 1), (23, .iconst 0, 1), (24, .ireturn, 1)]
theorem cd_La_listed : ∀ r ∈ tt_La_listed, decode method_15_code r.1 = .ok (r.2.1, r.2.2) := by decide +kernel
def tt_La_sent : List (Nat × Instr × Nat) := [(0, .aload 4, 2), (2, .iconst 0, 1), (3, .aload_n 0, 1), (4, .iload_n 1, 1), (5, .iload_n 2, 1), (6, .iload_n 3, 1), (7, .invokevirtual 63, 3), (10, .i2l, 1), (11, .lastore, 1), (12, .goto 11, 3), (15, .astore 5, 2), (17, .iconst 1, 1), (18, .ireturn, 1), (19, .astore 5, 2), (21, .iconst 2, 1), (22, .ireturn, 1), (23, .iconst 0, 1), (24, .ireturn, 1)]
theorem cd_La_sent : ∀ r ∈ tt_La_sent, decode method_16_code r.1 = .ok (r.2.1, r.2.2) := by decide +kernel
def tt_La_shown : List (Nat × Instr × Nat) := [(0, .aload 4, 2), (2, .iconst 0, 1), (3, .aload_n 0, 1), (4, .iload_n 1, 1), (5, .iload_n 2, 1), (6, .iload_n 3, 1), (7, .invokevirtual 66, 3), (10, .i2l, 1), (11, .lastore, 1), (12, .goto 11, 3), (15, .astore 5, 2), (17, .iconst 1, 1), (18, .ireturn, 1), (19, .astore 5, 2), (21, .iconst 2, 1), (22, .ireturn, 1), (23, .iconst 0, 1), (24, .ireturn, 1)]
theorem cd_La_shown : ∀ r ∈ tt_La_shown, decode method_17_code r.1 = .ok (r.2.1, r.2.2) := by decide +kernel
def tt_La_shownByte : List (Nat × Instr × Nat) := [(0, .aload 4, 2), (2, .iconst 0, 1), (3, .aload_n 0, 1), (4, .iload_n 1, 1), (5, .iload_n 2, 1), (6, .iload_n 3, 1), (7, .invokevirtual 69, 3), (10, .i2l, 1), (11, .lastore, 1), (12, .goto 7, 3), (15, .astore 5, 2), (17, .iconst 1, 1), (18, .ireturn, 1), (19, .iconst 0, 1), (20, .ireturn, 1)]
theorem cd_La_shownByte : ∀ r ∈ tt_La_shownByte, decode method_18_code r.1 = .ok (r.2.1, r.2.2) := by decide +kernel
end
section
/-! rules where the ints are counted by Nat, and truth values -/
def b2i (b : Bool) : Int32 := if b then 1 else 0
theorem b2i_narrow (b : Bool) : narrow .boolean (.int (b2i b)) = .int (b2i b) := by cases b <;> rfl
theorem b2i_fits (b : Bool) : fits .boolean (.int (b2i b)) = true := by cases b <;> rfl
theorem b2i_zero {b : Bool} : b2i b = 0 ↔ b = false := by cases b <;> decide
section VN
variable {g : Gx} {d : Nat} {y : MT} {pc : Nat} {L : Lo} {st : List Value} {A : AH} {Φ : Out → AH → Prop}
theorem rt_f {b : Bool} (h : b = false) : Rt (some (.int (b2i b))) A (.inl (some (.int 0))) A := by subst h; exact rt_ret
theorem rt_t {b : Bool} (h : b = true) : Rt (some (.int (b2i b))) A (.inl (some (.int 1))) A := by subst h; exact rt_ret
theorem rt_of {v v' : Value} (h : v = v') : Rt (some v') A (.inl (some v)) A := by subst h; exact rt_ret
theorem v_ialdN {j a n : Nat} {vs : List Value} {v : Value} (hd : decode y.2.1 pc = .ok (.iaload, 1)) (hA : A.1 a = some (100 + j, vs)) (hj : j < 100) (ht : (gT g)[j]? = some .int) (hn : n < 2 ^ 31) (hv : vs[n]? = some v) (h : V g d y (pc + 1) L (v :: st) A Φ) : V g d y pc L (.int (nI n) :: .ref a :: st) A Φ :=
  v_iald hd hA hj ht (nI_pos hn) (by rw [nI_clamp hn]; exact hv) h
theorem v_zaldN {j a n : Nat} {vs : List Value} {v : Value} (hd : decode y.2.1 pc = .ok (.baload, 1)) (hA : A.1 a = some (100 + j, vs)) (hj : j < 100) (ht : (gT g)[j]? = some .boolean) (hn : n < 2 ^ 31) (hv : vs[n]? = some v) (h : V g d y (pc + 1) L (v :: st) A Φ) : V g d y pc L (.int (nI n) :: .ref a :: st) A Φ :=
  v_zald hd hA hj ht (nI_pos hn) (by rw [nI_clamp hn]; exact hv) h
theorem v_aaldN {j a n : Nat} {vs : List Value} {v : Value} {ty : FieldType} (hd : decode y.2.1 pc = .ok (.aaload, 1)) (hA : A.1 a = some (100 + j, vs)) (hj : j < 100) (ht : (gT g)[j]? = some ty) (href : ty.isReference = true) (hn : n < 2 ^ 31) (hv : vs[n]? = some v) (h : V g d y (pc + 1) L (v :: st) A Φ) : V g d y pc L (.int (nI n) :: .ref a :: st) A Φ :=
  v_aald hd hA hj ht href (nI_pos hn) (by rw [nI_clamp hn]; exact hv) h
theorem v_iastN {j a n : Nat} {vs : List Value} {x : Int32} (hd : decode y.2.1 pc = .ok (.iastore, 1)) (hA : A.1 a = some (100 + j, vs)) (hj : j < 100) (ht : (gT g)[j]? = some .int) (hn : n < 2 ^ 31) (hlt : n < vs.length) (h : V g d y (pc + 1) L st (aset A a (100 + j, vs.set n (.int x))) Φ) : V g d y pc L (.int x :: .int (nI n) :: .ref a :: st) A Φ :=
  v_iast hd hA hj ht (nI_pos hn) (by rw [nI_clamp hn]; exact hlt) (by rw [nI_clamp hn]; exact h)
theorem v_zastN {j a n : Nat} {vs : List Value} {x : Int32} (hd : decode y.2.1 pc = .ok (.bastore, 1)) (hA : A.1 a = some (100 + j, vs)) (hj : j < 100) (ht : (gT g)[j]? = some .boolean) (hn : n < 2 ^ 31) (hlt : n < vs.length) (hx2 : narrow .boolean (.int x) = .int x) (h : V g d y (pc + 1) L st (aset A a (100 + j, vs.set n (.int x))) Φ) : V g d y pc L (.int x :: .int (nI n) :: .ref a :: st) A Φ :=
  v_zast hd hA hj ht (nI_pos hn) (by rw [nI_clamp hn]; exact hlt) hx2 (by rw [nI_clamp hn]; exact h)
theorem v_aastN {j kv a b n : Nat} {vs fv : List Value} (hd : decode y.2.1 pc = .ok (.aastore, 1)) (hs : AS (gW g) (gC g) (gT g) j kv) (hA : A.1 a = some (100 + j, vs)) (hB : A.1 b = some (kv, fv)) (hn : n < 2 ^ 31) (hlt : n < vs.length) (h : V g d y (pc + 1) L st (aset A a (100 + j, vs.set n (.ref b))) Φ) : V g d y pc L (.ref b :: .int (nI n) :: .ref a :: st) A Φ :=
  v_aast hd hs hA hB (nI_pos hn) (by rw [nI_clamp hn]; exact hlt) (by rw [nI_clamp hn]; exact h)
theorem v_iaddN {a b : Nat} (hd : decode y.2.1 pc = .ok (.iadd, 1)) (h : V g d y (pc + 1) L (.int (nI (a + b)) :: st) A Φ) : V g d y pc L (.int (nI b) :: .int (nI a) :: st) A Φ := v_iadd hd (by rw [nI_add]; exact h)
theorem v_imulN {a b : Nat} (hd : decode y.2.1 pc = .ok (.imul, 1)) (h : V g d y (pc + 1) L (.int (nI (a * b)) :: st) A Φ) : V g d y pc L (.int (nI b) :: .int (nI a) :: st) A Φ := v_imul hd (by rw [pk_mul]; exact h)
theorem v_isubN {a b : Nat} (hd : decode y.2.1 pc = .ok (.isub, 1)) (hab : b ≤ a) (h : V g d y (pc + 1) L (.int (nI (a - b)) :: st) A Φ) : V g d y pc L (.int (nI b) :: .int (nI a) :: st) A Φ := v_isub hd (by rw [pk_sub hab]; exact h)
theorem v_iincN {k x : Nat} (hd : decode y.2.1 pc = .ok (.iinc k 1, 3)) (hl : L[k]? = some (some (.int (nI x)))) (hi : k < y.2.2.1) (hn : noL L k = true) (h : V g d y (pc + 3) (L.set k (some (.int (nI (x + 1))))) st A Φ) : V g d y pc L st A Φ := v_iinc hd hl hi hn (by rw [nI_succ] at h; exact h)
theorem v_iincM {k x : Nat} (hd : decode y.2.1 pc = .ok (.iinc k (-1), 3)) (hl : L[k]? = some (some (.int (nI (x + 1))))) (hi : k < y.2.2.1) (hn : noL L k = true) (h : V g d y (pc + 3) (L.set k (some (.int (nI x)))) st A Φ) : V g d y pc L st A Φ := v_iinc hd hl hi hn (by
  have e : nI (x + 1) + Int32.ofInt (-1) = nI x := pk_m1 x
  rw [e]; exact h)
theorem v_icmp_geN {x w : Nat} {off : Int} {tgt : Nat} (hd : decode y.2.1 pc = .ok (.if_icmp .ge off, 3)) (ht : (pc : Int) + off = (tgt : Int)) (hx : x < 2 ^ 31) (hw : w < 2 ^ 31) (kt : w ≤ x → V g d y tgt L st A Φ) (kf : x < w → V g d y (pc + 3) L st A Φ) : V g d y pc L (.int (nI w) :: .int (nI x) :: st) A Φ :=
  v_icmp_ge hd ht (fun q => kt ((nI_leI hw hx).mp q)) (fun q => kf (Nat.lt_of_not_le (fun z => q ((nI_leI hw hx).mpr z))))
theorem v_icmp_gtN {x w : Nat} {off : Int} {tgt : Nat} (hd : decode y.2.1 pc = .ok (.if_icmp .gt off, 3)) (ht : (pc : Int) + off = (tgt : Int)) (hx : x < 2 ^ 31) (hw : w < 2 ^ 31) (kt : w < x → V g d y tgt L st A Φ) (kf : x ≤ w → V g d y (pc + 3) L st A Φ) : V g d y pc L (.int (nI w) :: .int (nI x) :: st) A Φ :=
  v_icmp_gt hd ht (fun q => kt ((nI_ltI hw hx).mp q)) (fun q => kf (Nat.le_of_not_lt (fun z => q ((nI_ltI hw hx).mpr z))))
theorem v_icmp_ltN {x w : Nat} {off : Int} {tgt : Nat} (hd : decode y.2.1 pc = .ok (.if_icmp .lt off, 3)) (ht : (pc : Int) + off = (tgt : Int)) (hx : x < 2 ^ 31) (hw : w < 2 ^ 31) (kt : x < w → V g d y tgt L st A Φ) (kf : w ≤ x → V g d y (pc + 3) L st A Φ) : V g d y pc L (.int (nI w) :: .int (nI x) :: st) A Φ :=
  v_icmp_lt hd ht (fun q => kt ((nI_ltI hx hw).mp q)) (fun q => kf (Nat.le_of_not_lt (fun z => q ((nI_ltI hx hw).mpr z))))
theorem v_icmp_leN {x w : Nat} {off : Int} {tgt : Nat} (hd : decode y.2.1 pc = .ok (.if_icmp .le off, 3)) (ht : (pc : Int) + off = (tgt : Int)) (hx : x < 2 ^ 31) (hw : w < 2 ^ 31) (kt : x ≤ w → V g d y tgt L st A Φ) (kf : w < x → V g d y (pc + 3) L st A Φ) : V g d y pc L (.int (nI w) :: .int (nI x) :: st) A Φ :=
  v_icmp_le hd ht (fun q => kt ((nI_leI hx hw).mp q)) (fun q => kf (Nat.lt_of_not_le (fun z => q ((nI_leI hx hw).mpr z))))
theorem v_icmp_eqN {x w : Nat} {off : Int} {tgt : Nat} (hd : decode y.2.1 pc = .ok (.if_icmp .eq off, 3)) (ht : (pc : Int) + off = (tgt : Int)) (hx : x < 2 ^ 31) (hw : w < 2 ^ 31) (kt : x = w → V g d y tgt L st A Φ) (kf : ¬ x = w → V g d y (pc + 3) L st A Φ) : V g d y pc L (.int (nI w) :: .int (nI x) :: st) A Φ :=
  v_icmp_eq hd ht (fun q => kt ((nI_eq hx hw).mp q)) (fun q => kf (id (fun z => q ((nI_eq hx hw).mpr z))))
theorem v_icmp_neN {x w : Nat} {off : Int} {tgt : Nat} (hd : decode y.2.1 pc = .ok (.if_icmp .ne off, 3)) (ht : (pc : Int) + off = (tgt : Int)) (hx : x < 2 ^ 31) (hw : w < 2 ^ 31) (kt : ¬ x = w → V g d y tgt L st A Φ) (kf : x = w → V g d y (pc + 3) L st A Φ) : V g d y pc L (.int (nI w) :: .int (nI x) :: st) A Φ :=
  v_icmp_ne hd ht (fun q => kt (fun z => q ((nI_eq hx hw).mpr z))) (fun q => kf ((nI_eq hx hw).mp q))
theorem v_ifeqB {b : Bool} {off : Int} {tgt : Nat} (hd : decode y.2.1 pc = .ok (.ifCond .eq off, 3)) (ht : (pc : Int) + off = (tgt : Int)) (kt : b = false → V g d y tgt L st A Φ) (kf : b = true → V g d y (pc + 3) L st A Φ) : V g d y pc L (.int (b2i b) :: st) A Φ :=
  v_if_eq hd ht (fun q => kt (b2i_zero.mp q)) (fun q => kf (by cases b with | true => rfl | false => exact absurd rfl q))
theorem v_ifneB {b : Bool} {off : Int} {tgt : Nat} (hd : decode y.2.1 pc = .ok (.ifCond .ne off, 3)) (ht : (pc : Int) + off = (tgt : Int)) (kt : b = true → V g d y tgt L st A Φ) (kf : b = false → V g d y (pc + 3) L st A Φ) : V g d y pc L (.int (b2i b) :: st) A Φ :=
  v_if_ne hd ht (fun q => kt (by cases b with | true => rfl | false => exact absurd rfl q)) (fun q => kf (b2i_zero.mp q))
theorem v_zretB {b : Bool} (hd : decode y.2.1 pc = .ok (.ireturn, 1)) (hr : y.2.2.2.1 = some .boolean) (h : Φ (.inl (some (.int (b2i b)))) A) : V g d y pc L [.int (b2i b)] A Φ := v_zret hd hr (b2i_narrow b) h
theorem v_lcmp_eq {a b : Int64} {off : Int} {tgt : Nat} (hd : decode y.2.1 pc = .ok (.lcmp, 1)) (hd2 : decode y.2.1 (pc + 1) = .ok (.ifCond .eq off, 3)) (ht : ((pc + 1 : Nat) : Int) + off = (tgt : Int)) (kt : a = b → V g d y tgt L st A Φ) (kf : ¬ a = b → V g d y (pc + 1 + 3) L st A Φ) : V g d y pc L (.long b :: .long a :: st) A Φ :=
  v_lcmp hd (v_if_eq hd2 ht (fun q => kt ((lg_cmp_eq a b).mp q)) (fun q => kf (fun z => q ((lg_cmp_eq a b).mpr z))))
theorem v_lcmp_lt {a b : Int64} {off : Int} {tgt : Nat} (hd : decode y.2.1 pc = .ok (.lcmp, 1)) (hd2 : decode y.2.1 (pc + 1) = .ok (.ifCond .lt off, 3)) (ht : ((pc + 1 : Nat) : Int) + off = (tgt : Int)) (kt : a < b → V g d y tgt L st A Φ) (kf : ¬ a < b → V g d y (pc + 1 + 3) L st A Φ) : V g d y pc L (.long b :: .long a :: st) A Φ :=
  v_lcmp hd (v_if_lt hd2 ht (fun q => kt ((lg_cmp_lt a b).mp q)) (fun q => kf (fun z => q ((lg_cmp_lt a b).mpr z))))
theorem v_lcmp_ge {a b : Int64} {off : Int} {tgt : Nat} (hd : decode y.2.1 pc = .ok (.lcmp, 1)) (hd2 : decode y.2.1 (pc + 1) = .ok (.ifCond .ge off, 3)) (ht : ((pc + 1 : Nat) : Int) + off = (tgt : Int)) (kt : b ≤ a → V g d y tgt L st A Φ) (kf : ¬ b ≤ a → V g d y (pc + 1 + 3) L st A Φ) : V g d y pc L (.long b :: .long a :: st) A Φ :=
  v_lcmp hd (v_if_ge hd2 ht (fun q => kt ((lg_cmp_ge a b).mp q)) (fun q => kf (fun z => q ((lg_cmp_ge a b).mpr z))))
theorem v_lcmp_gt {a b : Int64} {off : Int} {tgt : Nat} (hd : decode y.2.1 pc = .ok (.lcmp, 1)) (hd2 : decode y.2.1 (pc + 1) = .ok (.ifCond .gt off, 3)) (ht : ((pc + 1 : Nat) : Int) + off = (tgt : Int)) (kt : b < a → V g d y tgt L st A Φ) (kf : ¬ b < a → V g d y (pc + 1 + 3) L st A Φ) : V g d y pc L (.long b :: .long a :: st) A Φ :=
  v_lcmp hd (v_if_gt hd2 ht (fun q => kt ((lg_cmp_gt a b).mp q)) (fun q => kf (fun z => q ((lg_cmp_gt a b).mpr z))))
theorem v_lcmp_le {a b : Int64} {off : Int} {tgt : Nat} (hd : decode y.2.1 pc = .ok (.lcmp, 1)) (hd2 : decode y.2.1 (pc + 1) = .ok (.ifCond .le off, 3)) (ht : ((pc + 1 : Nat) : Int) + off = (tgt : Int)) (kt : a ≤ b → V g d y tgt L st A Φ) (kf : ¬ a ≤ b → V g d y (pc + 1 + 3) L st A Φ) : V g d y pc L (.long b :: .long a :: st) A Φ :=
  v_lcmp hd (v_if_le hd2 ht (fun q => kt ((lg_cmp_le a b).mp q)) (fun q => kf (fun z => q ((lg_cmp_le a b).mpr z))))
theorem v_lcmp_ne {a b : Int64} {off : Int} {tgt : Nat} (hd : decode y.2.1 pc = .ok (.lcmp, 1)) (hd2 : decode y.2.1 (pc + 1) = .ok (.ifCond .ne off, 3)) (ht : ((pc + 1 : Nat) : Int) + off = (tgt : Int)) (kt : ¬ a = b → V g d y tgt L st A Φ) (kf : a = b → V g d y (pc + 1 + 3) L st A Φ) : V g d y pc L (.long b :: .long a :: st) A Φ :=
  v_lcmp hd (v_if_ne hd2 ht (fun q => kt (fun z => q ((lg_cmp_eq a b).mpr z))) (fun q => kf ((lg_cmp_eq a b).mp q)))
end VN
end
section
/-! truth values that javac lays by a branch, 1, a jump and 0 -/
section VM
variable {g : Gx} {d : Nat} {y : MT} {pc : Nat} {L : Lo} {st : List Value} {A : AH} {Φ : Out → AH → Prop}
theorem v_mat_ieq {x w : Int32} {o1 o2 : Int} (hd : decode y.2.1 pc = .ok (.if_icmp .eq o1, 3)) (h1 : decode y.2.1 (pc + 3) = .ok (.iconst 1, 1)) (h2 : decode y.2.1 (pc + 4) = .ok (.goto o2, 3)) (h3 : decode y.2.1 (pc + 7) = .ok (.iconst 0, 1)) (e1 : o1 = 7) (e2 : o2 = 4)
    (h : V g d y (pc + 8) L (.int (b2i (!decide (x = w))) :: st) A Φ) : V g d y pc L (.int w :: .int x :: st) A Φ := by
  subst e1 e2
  refine v_icmp_eq (tgt := pc + 7) hd (by omega) (fun q => ?_) (fun q => ?_)
  · refine v_iconst (v := 0) h3 (by decide) ?_
    rw [show b2i (!decide (x = w)) = 0 by simp [q, b2i]] at h; exact h
  · refine v_iconst (v := 1) h1 (by decide) (v_goto (tgt := pc + 8) h2 (by omega) ?_)
    rw [show b2i (!decide (x = w)) = 1 by simp [q, b2i]] at h; exact h
theorem v_mat_ilt {x w : Int32} {o1 o2 : Int} (hd : decode y.2.1 pc = .ok (.if_icmp .lt o1, 3)) (h1 : decode y.2.1 (pc + 3) = .ok (.iconst 1, 1)) (h2 : decode y.2.1 (pc + 4) = .ok (.goto o2, 3)) (h3 : decode y.2.1 (pc + 7) = .ok (.iconst 0, 1)) (e1 : o1 = 7) (e2 : o2 = 4)
    (h : V g d y (pc + 8) L (.int (b2i (!decide (x < w))) :: st) A Φ) : V g d y pc L (.int w :: .int x :: st) A Φ := by
  subst e1 e2
  refine v_icmp_lt (tgt := pc + 7) hd (by omega) (fun q => ?_) (fun q => ?_)
  · refine v_iconst (v := 0) h3 (by decide) ?_
    rw [show b2i (!decide (x < w)) = 0 by simp [q, b2i]] at h; exact h
  · refine v_iconst (v := 1) h1 (by decide) (v_goto (tgt := pc + 8) h2 (by omega) ?_)
    rw [show b2i (!decide (x < w)) = 1 by simp [q, b2i]] at h; exact h
theorem v_mat_ige {x w : Int32} {o1 o2 : Int} (hd : decode y.2.1 pc = .ok (.if_icmp .ge o1, 3)) (h1 : decode y.2.1 (pc + 3) = .ok (.iconst 1, 1)) (h2 : decode y.2.1 (pc + 4) = .ok (.goto o2, 3)) (h3 : decode y.2.1 (pc + 7) = .ok (.iconst 0, 1)) (e1 : o1 = 7) (e2 : o2 = 4)
    (h : V g d y (pc + 8) L (.int (b2i (!decide (w ≤ x))) :: st) A Φ) : V g d y pc L (.int w :: .int x :: st) A Φ := by
  subst e1 e2
  refine v_icmp_ge (tgt := pc + 7) hd (by omega) (fun q => ?_) (fun q => ?_)
  · refine v_iconst (v := 0) h3 (by decide) ?_
    rw [show b2i (!decide (w ≤ x)) = 0 by simp [q, b2i]] at h; exact h
  · refine v_iconst (v := 1) h1 (by decide) (v_goto (tgt := pc + 8) h2 (by omega) ?_)
    rw [show b2i (!decide (w ≤ x)) = 1 by simp [q, b2i]] at h; exact h
theorem v_mat_igt {x w : Int32} {o1 o2 : Int} (hd : decode y.2.1 pc = .ok (.if_icmp .gt o1, 3)) (h1 : decode y.2.1 (pc + 3) = .ok (.iconst 1, 1)) (h2 : decode y.2.1 (pc + 4) = .ok (.goto o2, 3)) (h3 : decode y.2.1 (pc + 7) = .ok (.iconst 0, 1)) (e1 : o1 = 7) (e2 : o2 = 4)
    (h : V g d y (pc + 8) L (.int (b2i (!decide (w < x))) :: st) A Φ) : V g d y pc L (.int w :: .int x :: st) A Φ := by
  subst e1 e2
  refine v_icmp_gt (tgt := pc + 7) hd (by omega) (fun q => ?_) (fun q => ?_)
  · refine v_iconst (v := 0) h3 (by decide) ?_
    rw [show b2i (!decide (w < x)) = 0 by simp [q, b2i]] at h; exact h
  · refine v_iconst (v := 1) h1 (by decide) (v_goto (tgt := pc + 8) h2 (by omega) ?_)
    rw [show b2i (!decide (w < x)) = 1 by simp [q, b2i]] at h; exact h
theorem v_mat_ile {x w : Int32} {o1 o2 : Int} (hd : decode y.2.1 pc = .ok (.if_icmp .le o1, 3)) (h1 : decode y.2.1 (pc + 3) = .ok (.iconst 1, 1)) (h2 : decode y.2.1 (pc + 4) = .ok (.goto o2, 3)) (h3 : decode y.2.1 (pc + 7) = .ok (.iconst 0, 1)) (e1 : o1 = 7) (e2 : o2 = 4)
    (h : V g d y (pc + 8) L (.int (b2i (!decide (x ≤ w))) :: st) A Φ) : V g d y pc L (.int w :: .int x :: st) A Φ := by
  subst e1 e2
  refine v_icmp_le (tgt := pc + 7) hd (by omega) (fun q => ?_) (fun q => ?_)
  · refine v_iconst (v := 0) h3 (by decide) ?_
    rw [show b2i (!decide (x ≤ w)) = 0 by simp [q, b2i]] at h; exact h
  · refine v_iconst (v := 1) h1 (by decide) (v_goto (tgt := pc + 8) h2 (by omega) ?_)
    rw [show b2i (!decide (x ≤ w)) = 1 by simp [q, b2i]] at h; exact h
theorem v_mat_ine {x w : Int32} {o1 o2 : Int} (hd : decode y.2.1 pc = .ok (.if_icmp .ne o1, 3)) (h1 : decode y.2.1 (pc + 3) = .ok (.iconst 1, 1)) (h2 : decode y.2.1 (pc + 4) = .ok (.goto o2, 3)) (h3 : decode y.2.1 (pc + 7) = .ok (.iconst 0, 1)) (e1 : o1 = 7) (e2 : o2 = 4)
    (h : V g d y (pc + 8) L (.int (b2i (decide (x = w))) :: st) A Φ) : V g d y pc L (.int w :: .int x :: st) A Φ := by
  subst e1 e2
  refine v_icmp_ne (tgt := pc + 7) hd (by omega) (fun q => ?_) (fun q => ?_)
  · refine v_iconst (v := 0) h3 (by decide) ?_
    rw [show b2i (decide (x = w)) = 0 by simp [q, b2i]] at h; exact h
  · refine v_iconst (v := 1) h1 (by decide) (v_goto (tgt := pc + 8) h2 (by omega) ?_)
    rw [show b2i (decide (x = w)) = 1 by simp [q, b2i]] at h; exact h
theorem v_mat_lle {a b : Int64} {o1 o2 : Int} (hd0 : decode y.2.1 pc = .ok (.lcmp, 1)) (hd : decode y.2.1 (pc + 1) = .ok (.ifCond .le o1, 3)) (h1 : decode y.2.1 (pc + 1 + 3) = .ok (.iconst 1, 1)) (h2 : decode y.2.1 (pc + 1 + 4) = .ok (.goto o2, 3)) (h3 : decode y.2.1 (pc + 1 + 7) = .ok (.iconst 0, 1)) (e1 : o1 = 7) (e2 : o2 = 4)
    (h : V g d y (pc + 1 + 8) L (.int (b2i (!decide (a ≤ b))) :: st) A Φ) : V g d y pc L (.long b :: .long a :: st) A Φ := by
  subst e1 e2
  refine v_lcmp_le (tgt := pc + 1 + 7) hd0 hd (by omega) (fun q => ?_) (fun q => ?_)
  · refine v_iconst (v := 0) h3 (by decide) ?_
    rw [show b2i (!decide (a ≤ b)) = 0 by simp [q, b2i]] at h; exact h
  · refine v_iconst (v := 1) h1 (by decide) (v_goto (tgt := pc + 1 + 8) h2 (by omega) ?_)
    rw [show b2i (!decide (a ≤ b)) = 1 by simp [q, b2i]] at h; exact h
theorem v_mat_lgt {a b : Int64} {o1 o2 : Int} (hd0 : decode y.2.1 pc = .ok (.lcmp, 1)) (hd : decode y.2.1 (pc + 1) = .ok (.ifCond .gt o1, 3)) (h1 : decode y.2.1 (pc + 1 + 3) = .ok (.iconst 1, 1)) (h2 : decode y.2.1 (pc + 1 + 4) = .ok (.goto o2, 3)) (h3 : decode y.2.1 (pc + 1 + 7) = .ok (.iconst 0, 1)) (e1 : o1 = 7) (e2 : o2 = 4)
    (h : V g d y (pc + 1 + 8) L (.int (b2i (!decide (b < a))) :: st) A Φ) : V g d y pc L (.long b :: .long a :: st) A Φ := by
  subst e1 e2
  refine v_lcmp_gt (tgt := pc + 1 + 7) hd0 hd (by omega) (fun q => ?_) (fun q => ?_)
  · refine v_iconst (v := 0) h3 (by decide) ?_
    rw [show b2i (!decide (b < a)) = 0 by simp [q, b2i]] at h; exact h
  · refine v_iconst (v := 1) h1 (by decide) (v_goto (tgt := pc + 1 + 8) h2 (by omega) ?_)
    rw [show b2i (!decide (b < a)) = 1 by simp [q, b2i]] at h; exact h
theorem v_mat_llt {a b : Int64} {o1 o2 : Int} (hd0 : decode y.2.1 pc = .ok (.lcmp, 1)) (hd : decode y.2.1 (pc + 1) = .ok (.ifCond .lt o1, 3)) (h1 : decode y.2.1 (pc + 1 + 3) = .ok (.iconst 1, 1)) (h2 : decode y.2.1 (pc + 1 + 4) = .ok (.goto o2, 3)) (h3 : decode y.2.1 (pc + 1 + 7) = .ok (.iconst 0, 1)) (e1 : o1 = 7) (e2 : o2 = 4)
    (h : V g d y (pc + 1 + 8) L (.int (b2i (!decide (a < b))) :: st) A Φ) : V g d y pc L (.long b :: .long a :: st) A Φ := by
  subst e1 e2
  refine v_lcmp_lt (tgt := pc + 1 + 7) hd0 hd (by omega) (fun q => ?_) (fun q => ?_)
  · refine v_iconst (v := 0) h3 (by decide) ?_
    rw [show b2i (!decide (a < b)) = 0 by simp [q, b2i]] at h; exact h
  · refine v_iconst (v := 1) h1 (by decide) (v_goto (tgt := pc + 1 + 8) h2 (by omega) ?_)
    rw [show b2i (!decide (a < b)) = 1 by simp [q, b2i]] at h; exact h
theorem v_mat_lge {a b : Int64} {o1 o2 : Int} (hd0 : decode y.2.1 pc = .ok (.lcmp, 1)) (hd : decode y.2.1 (pc + 1) = .ok (.ifCond .ge o1, 3)) (h1 : decode y.2.1 (pc + 1 + 3) = .ok (.iconst 1, 1)) (h2 : decode y.2.1 (pc + 1 + 4) = .ok (.goto o2, 3)) (h3 : decode y.2.1 (pc + 1 + 7) = .ok (.iconst 0, 1)) (e1 : o1 = 7) (e2 : o2 = 4)
    (h : V g d y (pc + 1 + 8) L (.int (b2i (!decide (b ≤ a))) :: st) A Φ) : V g d y pc L (.long b :: .long a :: st) A Φ := by
  subst e1 e2
  refine v_lcmp_ge (tgt := pc + 1 + 7) hd0 hd (by omega) (fun q => ?_) (fun q => ?_)
  · refine v_iconst (v := 0) h3 (by decide) ?_
    rw [show b2i (!decide (b ≤ a)) = 0 by simp [q, b2i]] at h; exact h
  · refine v_iconst (v := 1) h1 (by decide) (v_goto (tgt := pc + 1 + 8) h2 (by omega) ?_)
    rw [show b2i (!decide (b ≤ a)) = 1 by simp [q, b2i]] at h; exact h
theorem v_mat_not {b : Bool} {o1 o2 : Int} (hd : decode y.2.1 pc = .ok (.ifCond .ne o1, 3)) (h1 : decode y.2.1 (pc + 3) = .ok (.iconst 1, 1)) (h2 : decode y.2.1 (pc + 4) = .ok (.goto o2, 3)) (h3 : decode y.2.1 (pc + 7) = .ok (.iconst 0, 1)) (e1 : o1 = 7) (e2 : o2 = 4)
    (h : V g d y (pc + 8) L (.int (b2i (!b)) :: st) A Φ) : V g d y pc L (.int (b2i b) :: st) A Φ := by
  subst e1 e2
  refine v_ifneB (tgt := pc + 7) hd (by omega) (fun q => ?_) (fun q => ?_)
  · subst q; exact v_iconst (v := 0) h3 (by decide) h
  · subst q; exact v_iconst (v := 1) h1 (by decide) (v_goto (tgt := pc + 8) h2 (by omega) h)
theorem v_icmp_eqB {a b : Bool} {off : Int} {tgt : Nat} (hd : decode y.2.1 pc = .ok (.if_icmp .eq off, 3)) (ht : (pc : Int) + off = (tgt : Int)) (kt : a = b → V g d y tgt L st A Φ) (kf : ¬ a = b → V g d y (pc + 3) L st A Φ) : V g d y pc L (.int (b2i b) :: .int (b2i a) :: st) A Φ :=
  v_icmp_eq hd ht (fun q => kt (by cases a <;> cases b <;> first | rfl | exact absurd q (by decide))) (fun q => kf (fun z => q (by rw [z])))
theorem v_icmp_neB {a b : Bool} {off : Int} {tgt : Nat} (hd : decode y.2.1 pc = .ok (.if_icmp .ne off, 3)) (ht : (pc : Int) + off = (tgt : Int)) (kt : ¬ a = b → V g d y tgt L st A Φ) (kf : a = b → V g d y (pc + 3) L st A Φ) : V g d y pc L (.int (b2i b) :: .int (b2i a) :: st) A Φ :=
  v_icmp_ne hd ht (fun q => kt (fun z => q (by rw [z]))) (fun q => kf (by cases a <;> cases b <;> first | rfl | exact absurd q (by decide)))
end VM
end
section
/-! what varies in a claim's start: class numbers, slots, the old heap, the room -/
abbrev Ux : Type := va_G × (Nat → ClassId) × (Nat → ClassId) × Heap × Nat × Nat
def YS : List Cond := [.isRef (.static "java/lang/Throwable" "UNASSIGNED_STACK" "[Ljava/lang/StackTraceElement;"), .isRef (.static "java/lang/Throwable" "SUPPRESSED_SENTINEL" "Ljava/util/List;"), .laysStatic "java/lang/Throwable" "UNASSIGNED_STACK" "[Ljava/lang/StackTraceElement;", .laysStatic "java/lang/Throwable" "SUPPRESSED_SENTINEL" "Ljava/util/List;"]
abbrev gg (u : Ux) : Gx := (WS, YS, clS, u.1, taS, u.2.1, [("java/lang/IllegalArgumentException", u.2.2.1 0), ("java/lang/IllegalStateException", u.2.2.1 1), ("java/lang/UnsupportedOperationException", u.2.2.1 2), ("java/lang/IndexOutOfBoundsException", u.2.2.1 3)], u.2.2.2.1, u.2.2.2.2.1, u.2.2.2.2.2)
end
section
/-! Area: pure words and the reads -/
abbrev Pts : Type := List (Int32 × Int32)
def pX (a : Pts) (k : Nat) : Int32 := (a.getD k (0, 0)).1
def pY (a : Pts) (k : Nat) : Int32 := (a.getD k (0, 0)).2
def nx (n i : Nat) : Nat := if i + 1 < n then i + 1 else 0
theorem nx_lt {n i : Nat} (h : i < n) : nx n i < n := by unfold nx; split <;> omega
def ArAt (A : AH) (o : Nat) (a : Pts) : Prop := a.length ≤ 8 ∧ ∃ (xa ya : Nat) (vx vy : List Value), A.1 o = some (1, [.ref xa, .ref ya, .int (nI a.length)]) ∧ A.1 xa = some (100, vx) ∧ A.1 ya = some (100, vy) ∧ vx.length = 8 ∧ vy.length = 8 ∧ (∀ k, k < a.length → vx[k]? = some (.int (pX a k))) ∧ ∀ k, k < a.length → vy[k]? = some (.int (pY a k))
def cTurn (a : Pts) (i : Nat) (x y : Int32) : Int64 := (pX a (nx a.length i) - pX a i).toInt64 * (y - pY a i).toInt64 - (pY a (nx a.length i) - pY a i).toInt64 * (x - pX a i).toInt64
def cSq (a : Pts) (i : Nat) (x y : Int32) : Int64 := (x - pX a i).toInt64 * (x - pX a i).toInt64 + (y - pY a i).toInt64 * (y - pY a i).toInt64
def cFold (a : Pts) (b s h : Nat) : Bool :=
  decide ((pX a b - pX a s).toInt64 * (pY a h - pY a s).toInt64 = (pY a b - pY a s).toInt64 * (pX a h - pX a s).toInt64) &&
  decide (0 < (pX a b - pX a s).toInt64 * (pX a h - pX a s).toInt64 + (pY a b - pY a s).toInt64 * (pY a h - pY a s).toInt64)
def mx (a b : Int32) : Int32 := if a < b then b else a
def mn (a b : Int32) : Int32 := if b < a then b else a
def cRange (a b c d : Int32) : Bool := decide (mn c d ≤ mx a b) && decide (mn a b ≤ mx c d)
def cMeet (a : Pts) (i j : Nat) : Bool :=
  cRange (pX a i) (pX a (nx a.length i)) (pX a j) (pX a (nx a.length j)) && (cRange (pY a i) (pY a (nx a.length i)) (pY a j) (pY a (nx a.length j)) &&
  (decide (cTurn a i (pX a j) (pY a j) * cTurn a i (pX a (nx a.length j)) (pY a (nx a.length j)) ≤ 0) && decide (cTurn a j (pX a i) (pY a i) * cTurn a j (pX a (nx a.length i)) (pY a (nx a.length i)) ≤ 0)))
def cClash (a : Pts) (i j : Nat) : Bool := if nx a.length i = j then cFold a i j (nx a.length j) else if nx a.length j = i then cFold a j i (nx a.length i) else cMeet a i j
def cSide (a : Pts) (i : Nat) (x y r : Int32) : Bool :=
  let ax := (pX a (nx a.length i) - pX a i).toInt64
  let ay := (pY a (nx a.length i) - pY a i).toInt64
  let foot := ax * (x - pX a i).toInt64 + ay * (y - pY a i).toInt64
  if 0 < foot then (if foot < ax * ax + ay * ay then !decide (r.toInt64 * r.toInt64 * (ax * ax + ay * ay) < cTurn a i x y * cTurn a i x y) else !decide (r.toInt64 * r.toInt64 < cSq a (nx a.length i) x y)) else !decide (r.toInt64 * r.toInt64 < cSq a i x y)
def cCross (a : Pts) (i : Nat) (x y : Int32) : Bool := !((!decide (pY a i ≤ y)) == (!decide (pY a (nx a.length i) ≤ y))) && ((!decide (pY a (nx a.length i) ≤ pY a i)) == (!decide (cTurn a i x y ≤ 0)))
def cInTo (a : Pts) (x y : Int32) : Nat → Bool
  | 0 => false
  | k + 1 => if cCross a k x y then !cInTo a x y k else cInTo a x y k
def cReach (a : Pts) (x y r : Int32) : Bool := (List.range a.length).any (fun i => cSide a i x y r) || cInTo a x y a.length
def cPair (n : Nat) (f : Nat → Nat → Bool) : Bool := (List.range n).any fun i => (List.range n).any fun j => decide (i < j) && f i j
def cSame (a : Pts) (i j : Nat) : Bool := decide (pX a i = pX a j) && decide (pY a i = pY a j)
def cSimple (a : Pts) : Bool := decide (3 ≤ a.length) && (!cPair a.length (cSame a) && !cPair a.length (cClash a))
theorem cPair_no {n : Nat} {f : Nat → Nat → Bool} (h : ∀ i, i < n → ∀ j, i < j → j < n → f i j = false) : cPair n f = false := by
  unfold cPair
  rw [List.any_eq_false]
  intro i hi
  rw [List.mem_range] at hi
  rw [Bool.not_eq_true, List.any_eq_false]
  intro j hj
  rw [List.mem_range] at hj
  by_cases hij : i < j
  · simp [hij, h i hi j hij hj]
  · simp [hij]
theorem cPair_yes {n i j : Nat} {f : Nat → Nat → Bool} (hij : i < j) (hj : j < n) (h : f i j = true) : cPair n f = true := by
  unfold cPair
  rw [List.any_eq_true]
  refine ⟨i, List.mem_range.mpr (by omega), ?_⟩
  rw [List.any_eq_true]
  exact ⟨j, List.mem_range.mpr hj, by simp [hij, h]⟩
theorem up_ind {P : Nat → Prop} (N : Nat) (h : ∀ k, (k < N → P (k + 1)) → P k) : ∀ k, P k := by
  intro k
  induction hn : N - k generalizing k with
  | zero => exact h k (fun hk => by omega)
  | succ n ih => exact h k (fun hk => ih (k + 1) (by omega))
section AR
variable {u : Ux} {d : Nat} {A : AH} {o : Nat} {a : Pts}
set_option maxRecDepth 100000 in
set_option maxHeartbeats 4000000 in
theorem Ar_next_ok {i : Nat} (H : ArAt A o a) (hi : i < a.length) : V (gg u) d mm_Ar_next 0 [some (.ref o), some (.int (nI i))] [] A (Rt (some (.int (nI (nx a.length i)))) A) := by
  obtain ⟨h8, xa, ya, vx, vy, h1, h2, h3, h4, h5, hX, hY⟩ := H
  refine v_iload_n (dk cd_Ar_next 0 rfl) rfl ?_
  refine v_iconst (v := nI 1) (dk cd_Ar_next 1 rfl) (by decide) ?_
  refine v_iaddN (dk cd_Ar_next 2 rfl) ?_
  refine v_aload_n (dk cd_Ar_next 3 rfl) rfl ?_
  refine v_getf (dk cd_Ar_next 4 rfl) fg_Ar_18_Ar (by assumption) (by rfl) ?_
  refine v_icmp_geN (tgt := 16) (dk cd_Ar_next 5 rfl) rfl (by omega) (by omega) (fun q7 => ?_) (fun q7 => ?_)
  · refine v_iconst (v := nI 0) (dk cd_Ar_next 10 rfl) (by decide) ?_
    exact v_iret (dk cd_Ar_next 11 rfl) rfl (rt_of (by unfold nx; first | rw [if_pos (by omega)] | rw [if_neg (by omega)]))
  · refine v_iload_n (dk cd_Ar_next 6 rfl) rfl ?_
    refine v_iconst (v := nI 1) (dk cd_Ar_next 7 rfl) (by decide) ?_
    refine v_iaddN (dk cd_Ar_next 8 rfl) ?_
    refine v_goto (tgt := 17) (dk cd_Ar_next 9 rfl) rfl ?_
    exact v_iret (dk cd_Ar_next 11 rfl) rfl (rt_of (by unfold nx; first | rw [if_pos (by omega)] | rw [if_neg (by omega)]))
set_option maxRecDepth 100000 in
set_option maxHeartbeats 4000000 in
theorem Ar_turn_ok {i : Nat} {x y : Int32} (H : ArAt A o a) (hi : i < a.length) : V (gg u) (d + 1) mm_Ar_turn 0 [some (.ref o), some (.int (nI i)), some (.int x), some (.int y), none, none, none, none, none] [] A (Rt (some (.long (cTurn a i x y))) A) := by
  have hn := nx_lt hi
  have H0 := H
  obtain ⟨h8, xa, ya, vx, vy, h1, h2, h3, h4, h5, hX, hY⟩ := H
  refine v_aload_n (dk cd_Ar_turn 0 rfl) rfl ?_
  refine v_iload_n (dk cd_Ar_turn 1 rfl) rfl ?_
  refine v_rv (r := ("AreaWarnings$Area", TT_Ar, 3)) (dk cd_Ar_turn 2 rfl) cv_Ar_33 rfl (by assumption) (as := [_]) rfl rfl (Nat.le_of_ble_eq_true rfl) (by simp [Value.category]) (Ar_next_ok H0 hi) ?_
  refine v_istore (dk cd_Ar_turn 3 rfl) (by decide) rfl ?_
  refine v_aload_n (dk cd_Ar_turn 4 rfl) rfl ?_
  refine v_getf (dk cd_Ar_turn 5 rfl) fg_Ar_9_Ar (by assumption) (by rfl) ?_
  refine v_iload (dk cd_Ar_turn 6 rfl) rfl ?_
  refine v_ialdN (j := 0) (dk cd_Ar_turn 7 rfl) (by assumption) (by decide) rfl (by omega) (by first | exact hX _ (by omega) | exact hY _ (by omega)) ?_
  refine v_aload_n (dk cd_Ar_turn 8 rfl) rfl ?_
  refine v_getf (dk cd_Ar_turn 9 rfl) fg_Ar_9_Ar (by assumption) (by rfl) ?_
  refine v_iload_n (dk cd_Ar_turn 10 rfl) rfl ?_
  refine v_ialdN (j := 0) (dk cd_Ar_turn 11 rfl) (by assumption) (by decide) rfl (by omega) (by first | exact hX _ (by omega) | exact hY _ (by omega)) ?_
  refine v_isub (dk cd_Ar_turn 12 rfl) ?_
  refine v_i2l (dk cd_Ar_turn 13 rfl) ?_
  refine v_lstore (dk cd_Ar_turn 14 rfl) (by decide) rfl ?_
  refine v_aload_n (dk cd_Ar_turn 15 rfl) rfl ?_
  refine v_getf (dk cd_Ar_turn 16 rfl) fg_Ar_15_Ar (by assumption) (by rfl) ?_
  refine v_iload (dk cd_Ar_turn 17 rfl) rfl ?_
  refine v_ialdN (j := 0) (dk cd_Ar_turn 18 rfl) (by assumption) (by decide) rfl (by omega) (by first | exact hX _ (by omega) | exact hY _ (by omega)) ?_
  refine v_aload_n (dk cd_Ar_turn 19 rfl) rfl ?_
  refine v_getf (dk cd_Ar_turn 20 rfl) fg_Ar_15_Ar (by assumption) (by rfl) ?_
  refine v_iload_n (dk cd_Ar_turn 21 rfl) rfl ?_
  refine v_ialdN (j := 0) (dk cd_Ar_turn 22 rfl) (by assumption) (by decide) rfl (by omega) (by first | exact hX _ (by omega) | exact hY _ (by omega)) ?_
  refine v_isub (dk cd_Ar_turn 23 rfl) ?_
  refine v_i2l (dk cd_Ar_turn 24 rfl) ?_
  refine v_lstore (dk cd_Ar_turn 25 rfl) (by decide) rfl ?_
  refine v_lload (dk cd_Ar_turn 26 rfl) rfl ?_
  refine v_iload_n (dk cd_Ar_turn 27 rfl) rfl ?_
  refine v_aload_n (dk cd_Ar_turn 28 rfl) rfl ?_
  refine v_getf (dk cd_Ar_turn 29 rfl) fg_Ar_15_Ar (by assumption) (by rfl) ?_
  refine v_iload_n (dk cd_Ar_turn 30 rfl) rfl ?_
  refine v_ialdN (j := 0) (dk cd_Ar_turn 31 rfl) (by assumption) (by decide) rfl (by omega) (by first | exact hX _ (by omega) | exact hY _ (by omega)) ?_
  refine v_isub (dk cd_Ar_turn 32 rfl) ?_
  refine v_i2l (dk cd_Ar_turn 33 rfl) ?_
  refine v_lmul (dk cd_Ar_turn 34 rfl) ?_
  refine v_lload (dk cd_Ar_turn 35 rfl) rfl ?_
  refine v_iload_n (dk cd_Ar_turn 36 rfl) rfl ?_
  refine v_aload_n (dk cd_Ar_turn 37 rfl) rfl ?_
  refine v_getf (dk cd_Ar_turn 38 rfl) fg_Ar_9_Ar (by assumption) (by rfl) ?_
  refine v_iload_n (dk cd_Ar_turn 39 rfl) rfl ?_
  refine v_ialdN (j := 0) (dk cd_Ar_turn 40 rfl) (by assumption) (by decide) rfl (by omega) (by first | exact hX _ (by omega) | exact hY _ (by omega)) ?_
  refine v_isub (dk cd_Ar_turn 41 rfl) ?_
  refine v_i2l (dk cd_Ar_turn 42 rfl) ?_
  refine v_lmul (dk cd_Ar_turn 43 rfl) ?_
  refine v_lsub (dk cd_Ar_turn 44 rfl) ?_
  exact v_lret (dk cd_Ar_turn 45 rfl) rfl rt_ret
set_option maxRecDepth 100000 in
set_option maxHeartbeats 4000000 in
theorem Ar_squareToCorner_ok {i : Nat} {x y : Int32} (H : ArAt A o a) (hi : i < a.length) : V (gg u) d mm_Ar_squareToCorner 0 [some (.ref o), some (.int (nI i)), some (.int x), some (.int y), none, none, none, none] [] A (Rt (some (.long (cSq a i x y))) A) := by
  obtain ⟨h8, xa, ya, vx, vy, h1, h2, h3, h4, h5, hX, hY⟩ := H
  refine v_iload_n (dk cd_Ar_squareToCorner 0 rfl) rfl ?_
  refine v_aload_n (dk cd_Ar_squareToCorner 1 rfl) rfl ?_
  refine v_getf (dk cd_Ar_squareToCorner 2 rfl) fg_Ar_9_Ar (by assumption) (by rfl) ?_
  refine v_iload_n (dk cd_Ar_squareToCorner 3 rfl) rfl ?_
  refine v_ialdN (j := 0) (dk cd_Ar_squareToCorner 4 rfl) (by assumption) (by decide) rfl (by omega) (by first | exact hX _ (by omega) | exact hY _ (by omega)) ?_
  refine v_isub (dk cd_Ar_squareToCorner 5 rfl) ?_
  refine v_i2l (dk cd_Ar_squareToCorner 6 rfl) ?_
  refine v_lstore (dk cd_Ar_squareToCorner 7 rfl) (by decide) rfl ?_
  refine v_iload_n (dk cd_Ar_squareToCorner 8 rfl) rfl ?_
  refine v_aload_n (dk cd_Ar_squareToCorner 9 rfl) rfl ?_
  refine v_getf (dk cd_Ar_squareToCorner 10 rfl) fg_Ar_15_Ar (by assumption) (by rfl) ?_
  refine v_iload_n (dk cd_Ar_squareToCorner 11 rfl) rfl ?_
  refine v_ialdN (j := 0) (dk cd_Ar_squareToCorner 12 rfl) (by assumption) (by decide) rfl (by omega) (by first | exact hX _ (by omega) | exact hY _ (by omega)) ?_
  refine v_isub (dk cd_Ar_squareToCorner 13 rfl) ?_
  refine v_i2l (dk cd_Ar_squareToCorner 14 rfl) ?_
  refine v_lstore (dk cd_Ar_squareToCorner 15 rfl) (by decide) rfl ?_
  refine v_lload (dk cd_Ar_squareToCorner 16 rfl) rfl ?_
  refine v_lload (dk cd_Ar_squareToCorner 17 rfl) rfl ?_
  refine v_lmul (dk cd_Ar_squareToCorner 18 rfl) ?_
  refine v_lload (dk cd_Ar_squareToCorner 19 rfl) rfl ?_
  refine v_lload (dk cd_Ar_squareToCorner 20 rfl) rfl ?_
  refine v_lmul (dk cd_Ar_squareToCorner 21 rfl) ?_
  refine v_ladd (dk cd_Ar_squareToCorner 22 rfl) ?_
  exact v_lret (dk cd_Ar_squareToCorner 23 rfl) rfl rt_ret
set_option maxRecDepth 100000 in
set_option maxHeartbeats 4000000 in
theorem Ar_foldsBack_ok {b s h : Nat} (H : ArAt A o a) (hb : b < a.length) (hs : s < a.length) (hh : h < a.length) : V (gg u) d mm_Ar_foldsBack 0 [some (.ref o), some (.int (nI b)), some (.int (nI s)), some (.int (nI h)), none, none, none, none, none, none, none, none] [] A (Rt (some (.int (b2i (cFold a b s h)))) A) := by
  obtain ⟨h8, xa, ya, vx, vy, h1, h2, h3, h4, h5, hX, hY⟩ := H
  refine v_aload_n (dk cd_Ar_foldsBack 0 rfl) rfl ?_
  refine v_getf (dk cd_Ar_foldsBack 1 rfl) fg_Ar_9_Ar (by assumption) (by rfl) ?_
  refine v_iload_n (dk cd_Ar_foldsBack 2 rfl) rfl ?_
  refine v_ialdN (j := 0) (dk cd_Ar_foldsBack 3 rfl) (by assumption) (by decide) rfl (by omega) (by first | exact hX _ (by omega) | exact hY _ (by omega)) ?_
  refine v_aload_n (dk cd_Ar_foldsBack 4 rfl) rfl ?_
  refine v_getf (dk cd_Ar_foldsBack 5 rfl) fg_Ar_9_Ar (by assumption) (by rfl) ?_
  refine v_iload_n (dk cd_Ar_foldsBack 6 rfl) rfl ?_
  refine v_ialdN (j := 0) (dk cd_Ar_foldsBack 7 rfl) (by assumption) (by decide) rfl (by omega) (by first | exact hX _ (by omega) | exact hY _ (by omega)) ?_
  refine v_isub (dk cd_Ar_foldsBack 8 rfl) ?_
  refine v_i2l (dk cd_Ar_foldsBack 9 rfl) ?_
  refine v_lstore (dk cd_Ar_foldsBack 10 rfl) (by decide) rfl ?_
  refine v_aload_n (dk cd_Ar_foldsBack 11 rfl) rfl ?_
  refine v_getf (dk cd_Ar_foldsBack 12 rfl) fg_Ar_15_Ar (by assumption) (by rfl) ?_
  refine v_iload_n (dk cd_Ar_foldsBack 13 rfl) rfl ?_
  refine v_ialdN (j := 0) (dk cd_Ar_foldsBack 14 rfl) (by assumption) (by decide) rfl (by omega) (by first | exact hX _ (by omega) | exact hY _ (by omega)) ?_
  refine v_aload_n (dk cd_Ar_foldsBack 15 rfl) rfl ?_
  refine v_getf (dk cd_Ar_foldsBack 16 rfl) fg_Ar_15_Ar (by assumption) (by rfl) ?_
  refine v_iload_n (dk cd_Ar_foldsBack 17 rfl) rfl ?_
  refine v_ialdN (j := 0) (dk cd_Ar_foldsBack 18 rfl) (by assumption) (by decide) rfl (by omega) (by first | exact hX _ (by omega) | exact hY _ (by omega)) ?_
  refine v_isub (dk cd_Ar_foldsBack 19 rfl) ?_
  refine v_i2l (dk cd_Ar_foldsBack 20 rfl) ?_
  refine v_lstore (dk cd_Ar_foldsBack 21 rfl) (by decide) rfl ?_
  refine v_aload_n (dk cd_Ar_foldsBack 22 rfl) rfl ?_
  refine v_getf (dk cd_Ar_foldsBack 23 rfl) fg_Ar_9_Ar (by assumption) (by rfl) ?_
  refine v_iload_n (dk cd_Ar_foldsBack 24 rfl) rfl ?_
  refine v_ialdN (j := 0) (dk cd_Ar_foldsBack 25 rfl) (by assumption) (by decide) rfl (by omega) (by first | exact hX _ (by omega) | exact hY _ (by omega)) ?_
  refine v_aload_n (dk cd_Ar_foldsBack 26 rfl) rfl ?_
  refine v_getf (dk cd_Ar_foldsBack 27 rfl) fg_Ar_9_Ar (by assumption) (by rfl) ?_
  refine v_iload_n (dk cd_Ar_foldsBack 28 rfl) rfl ?_
  refine v_ialdN (j := 0) (dk cd_Ar_foldsBack 29 rfl) (by assumption) (by decide) rfl (by omega) (by first | exact hX _ (by omega) | exact hY _ (by omega)) ?_
  refine v_isub (dk cd_Ar_foldsBack 30 rfl) ?_
  refine v_i2l (dk cd_Ar_foldsBack 31 rfl) ?_
  refine v_lstore (dk cd_Ar_foldsBack 32 rfl) (by decide) rfl ?_
  refine v_aload_n (dk cd_Ar_foldsBack 33 rfl) rfl ?_
  refine v_getf (dk cd_Ar_foldsBack 34 rfl) fg_Ar_15_Ar (by assumption) (by rfl) ?_
  refine v_iload_n (dk cd_Ar_foldsBack 35 rfl) rfl ?_
  refine v_ialdN (j := 0) (dk cd_Ar_foldsBack 36 rfl) (by assumption) (by decide) rfl (by omega) (by first | exact hX _ (by omega) | exact hY _ (by omega)) ?_
  refine v_aload_n (dk cd_Ar_foldsBack 37 rfl) rfl ?_
  refine v_getf (dk cd_Ar_foldsBack 38 rfl) fg_Ar_15_Ar (by assumption) (by rfl) ?_
  refine v_iload_n (dk cd_Ar_foldsBack 39 rfl) rfl ?_
  refine v_ialdN (j := 0) (dk cd_Ar_foldsBack 40 rfl) (by assumption) (by decide) rfl (by omega) (by first | exact hX _ (by omega) | exact hY _ (by omega)) ?_
  refine v_isub (dk cd_Ar_foldsBack 41 rfl) ?_
  refine v_i2l (dk cd_Ar_foldsBack 42 rfl) ?_
  refine v_lstore (dk cd_Ar_foldsBack 43 rfl) (by decide) rfl ?_
  refine v_lload (dk cd_Ar_foldsBack 44 rfl) rfl ?_
  refine v_lload (dk cd_Ar_foldsBack 45 rfl) rfl ?_
  refine v_lmul (dk cd_Ar_foldsBack 46 rfl) ?_
  refine v_lload (dk cd_Ar_foldsBack 47 rfl) rfl ?_
  refine v_lload (dk cd_Ar_foldsBack 48 rfl) rfl ?_
  refine v_lmul (dk cd_Ar_foldsBack 49 rfl) ?_
  refine v_lcmp_ne (tgt := 98) (dk cd_Ar_foldsBack 50 rfl) (dk cd_Ar_foldsBack 51 rfl) rfl (fun q75 => ?_) (fun q75 => ?_)
  · refine v_iconst (v := 0) (dk cd_Ar_foldsBack 64 rfl) (by decide) ?_
    exact v_zret (dk cd_Ar_foldsBack 65 rfl) rfl rfl (rt_f (by simp [cFold]; simp_all))
  · refine v_lload (dk cd_Ar_foldsBack 52 rfl) rfl ?_
    refine v_lload (dk cd_Ar_foldsBack 53 rfl) rfl ?_
    refine v_lmul (dk cd_Ar_foldsBack 54 rfl) ?_
    refine v_lload (dk cd_Ar_foldsBack 55 rfl) rfl ?_
    refine v_lload (dk cd_Ar_foldsBack 56 rfl) rfl ?_
    refine v_lmul (dk cd_Ar_foldsBack 57 rfl) ?_
    refine v_ladd (dk cd_Ar_foldsBack 58 rfl) ?_
    refine v_lconst (v := 0) (dk cd_Ar_foldsBack 59 rfl) (by decide) ?_
    refine v_lcmp_le (tgt := 98) (dk cd_Ar_foldsBack 60 rfl) (dk cd_Ar_foldsBack 61 rfl) rfl (fun q91 => ?_) (fun q91 => ?_)
    · refine v_iconst (v := 0) (dk cd_Ar_foldsBack 64 rfl) (by decide) ?_
      exact v_zret (dk cd_Ar_foldsBack 65 rfl) rfl rfl (rt_f (by simp [cFold]; simp_all))
    · refine v_iconst (v := 1) (dk cd_Ar_foldsBack 62 rfl) (by decide) ?_
      refine v_goto (tgt := 99) (dk cd_Ar_foldsBack 63 rfl) rfl ?_
      exact v_zret (dk cd_Ar_foldsBack 65 rfl) rfl rfl (rt_t (by simp [cFold]; simp_all))
set_option maxRecDepth 100000 in
set_option maxHeartbeats 4000000 in
theorem Ar_rangesMeet_ok {x y z w : Int32} : V (gg u) d mm_Ar_rangesMeet 0 [some (.int x), some (.int y), some (.int z), some (.int w)] [] A (Rt (some (.int (b2i (cRange x y z w)))) A) := by
  refine v_iload_n (dk cd_Ar_rangesMeet 0 rfl) rfl ?_
  refine v_iload_n (dk cd_Ar_rangesMeet 1 rfl) rfl ?_
  refine v_mmax (dk cd_Ar_rangesMeet 2 rfl) ma_Ar_51 (by simp [Value.category]) ?_
  refine v_iload_n (dk cd_Ar_rangesMeet 3 rfl) rfl ?_
  refine v_iload_n (dk cd_Ar_rangesMeet 4 rfl) rfl ?_
  refine v_mmin (dk cd_Ar_rangesMeet 5 rfl) ma_Ar_57 (by simp [Value.category]) ?_
  refine v_icmp_lt (tgt := 30) (dk cd_Ar_rangesMeet 6 rfl) rfl (fun q10 => ?_) (fun q10 => ?_)
  · refine v_iconst (v := 0) (dk cd_Ar_rangesMeet 16 rfl) (by decide) ?_
    exact v_zret (dk cd_Ar_rangesMeet 17 rfl) rfl rfl (rt_f (by unfold cRange mx mn; first | rw [decide_eq_false (Int32.not_le.mpr q10), Bool.false_and] | rw [decide_eq_false (Int32.not_le.mpr q23), Bool.and_false]))
  · refine v_iload_n (dk cd_Ar_rangesMeet 7 rfl) rfl ?_
    refine v_iload_n (dk cd_Ar_rangesMeet 8 rfl) rfl ?_
    refine v_mmax (dk cd_Ar_rangesMeet 9 rfl) ma_Ar_51 (by simp [Value.category]) ?_
    refine v_iload_n (dk cd_Ar_rangesMeet 10 rfl) rfl ?_
    refine v_iload_n (dk cd_Ar_rangesMeet 11 rfl) rfl ?_
    refine v_mmin (dk cd_Ar_rangesMeet 12 rfl) ma_Ar_57 (by simp [Value.category]) ?_
    refine v_icmp_lt (tgt := 30) (dk cd_Ar_rangesMeet 13 rfl) rfl (fun q23 => ?_) (fun q23 => ?_)
    · refine v_iconst (v := 0) (dk cd_Ar_rangesMeet 16 rfl) (by decide) ?_
      exact v_zret (dk cd_Ar_rangesMeet 17 rfl) rfl rfl (rt_f (by unfold cRange mx mn; first | rw [decide_eq_false (Int32.not_le.mpr q10), Bool.false_and] | rw [decide_eq_false (Int32.not_le.mpr q23), Bool.and_false]))
    · refine v_iconst (v := 1) (dk cd_Ar_rangesMeet 14 rfl) (by decide) ?_
      refine v_goto (tgt := 31) (dk cd_Ar_rangesMeet 15 rfl) rfl ?_
      exact v_zret (dk cd_Ar_rangesMeet 17 rfl) rfl rfl (rt_t (by simp_all [cRange, mx, mn]))
set_option maxRecDepth 100000 in
set_option maxHeartbeats 4000000 in
theorem Ar_sidesMeet_ok {i j : Nat} (H : ArAt A o a) (hi : i < a.length) (hj : j < a.length) : V (gg u) (d + 2) mm_Ar_sidesMeet 0 [some (.ref o), some (.int (nI i)), some (.int (nI j)), none, none] [] A (Rt (some (.int (b2i (cMeet a i j)))) A) := by
  have hn := nx_lt hi
  have hn2 := nx_lt hj
  have H0 := H
  obtain ⟨h8, xa, ya, vx, vy, h1, h2, h3, h4, h5, hX, hY⟩ := H
  refine v_aload_n (dk cd_Ar_sidesMeet 0 rfl) rfl ?_
  refine v_iload_n (dk cd_Ar_sidesMeet 1 rfl) rfl ?_
  refine v_rv (r := ("AreaWarnings$Area", TT_Ar, 3)) (dk cd_Ar_sidesMeet 2 rfl) cv_Ar_33 rfl (by assumption) (as := [_]) rfl rfl (Nat.le_of_ble_eq_true rfl) (by simp [Value.category]) (Ar_next_ok H0 (by assumption)) ?_
  refine v_istore_n (dk cd_Ar_sidesMeet 3 rfl) (by decide) rfl ?_
  refine v_aload_n (dk cd_Ar_sidesMeet 4 rfl) rfl ?_
  refine v_iload_n (dk cd_Ar_sidesMeet 5 rfl) rfl ?_
  refine v_rv (r := ("AreaWarnings$Area", TT_Ar, 3)) (dk cd_Ar_sidesMeet 6 rfl) cv_Ar_33 rfl (by assumption) (as := [_]) rfl rfl (Nat.le_of_ble_eq_true rfl) (by simp [Value.category]) (Ar_next_ok H0 (by assumption)) ?_
  refine v_istore (dk cd_Ar_sidesMeet 7 rfl) (by decide) rfl ?_
  refine v_aload_n (dk cd_Ar_sidesMeet 8 rfl) rfl ?_
  refine v_getf (dk cd_Ar_sidesMeet 9 rfl) fg_Ar_9_Ar (by assumption) (by rfl) ?_
  refine v_iload_n (dk cd_Ar_sidesMeet 10 rfl) rfl ?_
  refine v_ialdN (j := 0) (dk cd_Ar_sidesMeet 11 rfl) (by assumption) (by decide) rfl (by omega) (by first | exact hX _ (by omega) | exact hY _ (by omega)) ?_
  refine v_aload_n (dk cd_Ar_sidesMeet 12 rfl) rfl ?_
  refine v_getf (dk cd_Ar_sidesMeet 13 rfl) fg_Ar_9_Ar (by assumption) (by rfl) ?_
  refine v_iload_n (dk cd_Ar_sidesMeet 14 rfl) rfl ?_
  refine v_ialdN (j := 0) (dk cd_Ar_sidesMeet 15 rfl) (by assumption) (by decide) rfl (by omega) (by first | exact hX _ (by omega) | exact hY _ (by omega)) ?_
  refine v_aload_n (dk cd_Ar_sidesMeet 16 rfl) rfl ?_
  refine v_getf (dk cd_Ar_sidesMeet 17 rfl) fg_Ar_9_Ar (by assumption) (by rfl) ?_
  refine v_iload_n (dk cd_Ar_sidesMeet 18 rfl) rfl ?_
  refine v_ialdN (j := 0) (dk cd_Ar_sidesMeet 19 rfl) (by assumption) (by decide) rfl (by omega) (by first | exact hX _ (by omega) | exact hY _ (by omega)) ?_
  refine v_aload_n (dk cd_Ar_sidesMeet 20 rfl) rfl ?_
  refine v_getf (dk cd_Ar_sidesMeet 21 rfl) fg_Ar_9_Ar (by assumption) (by rfl) ?_
  refine v_iload (dk cd_Ar_sidesMeet 22 rfl) rfl ?_
  refine v_ialdN (j := 0) (dk cd_Ar_sidesMeet 23 rfl) (by assumption) (by decide) rfl (by omega) (by first | exact hX _ (by omega) | exact hY _ (by omega)) ?_
  refine v_rs (dk cd_Ar_sidesMeet 24 rfl) cs_Ar_44 (as := [_, _, _, _]) rfl rfl (Nat.le_of_ble_eq_true rfl) (by simp [Value.category]) Ar_rangesMeet_ok ?_
  refine v_ifeqB (tgt := 161) (dk cd_Ar_sidesMeet 25 rfl) rfl (fun q41 => ?_) (fun q41 => ?_)
  · refine v_iconst (v := 0) (dk cd_Ar_sidesMeet 98 rfl) (by decide) ?_
    exact v_zret (dk cd_Ar_sidesMeet 99 rfl) rfl rfl (rt_f (by simp only [cMeet]; simp [*]; try exact fun z => absurd q114 (Int64.not_lt.mpr z)))
  · refine v_aload_n (dk cd_Ar_sidesMeet 26 rfl) rfl ?_
    refine v_getf (dk cd_Ar_sidesMeet 27 rfl) fg_Ar_15_Ar (by assumption) (by rfl) ?_
    refine v_iload_n (dk cd_Ar_sidesMeet 28 rfl) rfl ?_
    refine v_ialdN (j := 0) (dk cd_Ar_sidesMeet 29 rfl) (by assumption) (by decide) rfl (by omega) (by first | exact hX _ (by omega) | exact hY _ (by omega)) ?_
    refine v_aload_n (dk cd_Ar_sidesMeet 30 rfl) rfl ?_
    refine v_getf (dk cd_Ar_sidesMeet 31 rfl) fg_Ar_15_Ar (by assumption) (by rfl) ?_
    refine v_iload_n (dk cd_Ar_sidesMeet 32 rfl) rfl ?_
    refine v_ialdN (j := 0) (dk cd_Ar_sidesMeet 33 rfl) (by assumption) (by decide) rfl (by omega) (by first | exact hX _ (by omega) | exact hY _ (by omega)) ?_
    refine v_aload_n (dk cd_Ar_sidesMeet 34 rfl) rfl ?_
    refine v_getf (dk cd_Ar_sidesMeet 35 rfl) fg_Ar_15_Ar (by assumption) (by rfl) ?_
    refine v_iload_n (dk cd_Ar_sidesMeet 36 rfl) rfl ?_
    refine v_ialdN (j := 0) (dk cd_Ar_sidesMeet 37 rfl) (by assumption) (by decide) rfl (by omega) (by first | exact hX _ (by omega) | exact hY _ (by omega)) ?_
    refine v_aload_n (dk cd_Ar_sidesMeet 38 rfl) rfl ?_
    refine v_getf (dk cd_Ar_sidesMeet 39 rfl) fg_Ar_15_Ar (by assumption) (by rfl) ?_
    refine v_iload (dk cd_Ar_sidesMeet 40 rfl) rfl ?_
    refine v_ialdN (j := 0) (dk cd_Ar_sidesMeet 41 rfl) (by assumption) (by decide) rfl (by omega) (by first | exact hX _ (by omega) | exact hY _ (by omega)) ?_
    refine v_rs (dk cd_Ar_sidesMeet 42 rfl) cs_Ar_44 (as := [_, _, _, _]) rfl rfl (Nat.le_of_ble_eq_true rfl) (by simp [Value.category]) Ar_rangesMeet_ok ?_
    refine v_ifeqB (tgt := 161) (dk cd_Ar_sidesMeet 43 rfl) rfl (fun q72 => ?_) (fun q72 => ?_)
    · refine v_iconst (v := 0) (dk cd_Ar_sidesMeet 98 rfl) (by decide) ?_
      exact v_zret (dk cd_Ar_sidesMeet 99 rfl) rfl rfl (rt_f (by simp only [cMeet]; simp [*]; try exact fun z => absurd q114 (Int64.not_lt.mpr z)))
    · refine v_aload_n (dk cd_Ar_sidesMeet 44 rfl) rfl ?_
      refine v_iload_n (dk cd_Ar_sidesMeet 45 rfl) rfl ?_
      refine v_aload_n (dk cd_Ar_sidesMeet 46 rfl) rfl ?_
      refine v_getf (dk cd_Ar_sidesMeet 47 rfl) fg_Ar_9_Ar (by assumption) (by rfl) ?_
      refine v_iload_n (dk cd_Ar_sidesMeet 48 rfl) rfl ?_
      refine v_ialdN (j := 0) (dk cd_Ar_sidesMeet 49 rfl) (by assumption) (by decide) rfl (by omega) (by first | exact hX _ (by omega) | exact hY _ (by omega)) ?_
      refine v_aload_n (dk cd_Ar_sidesMeet 50 rfl) rfl ?_
      refine v_getf (dk cd_Ar_sidesMeet 51 rfl) fg_Ar_15_Ar (by assumption) (by rfl) ?_
      refine v_iload_n (dk cd_Ar_sidesMeet 52 rfl) rfl ?_
      refine v_ialdN (j := 0) (dk cd_Ar_sidesMeet 53 rfl) (by assumption) (by decide) rfl (by omega) (by first | exact hX _ (by omega) | exact hY _ (by omega)) ?_
      refine v_rv (r := ("AreaWarnings$Area", TT_Ar, 3)) (dk cd_Ar_sidesMeet 54 rfl) cv_Ar_47 rfl (by assumption) (as := [_, _, _]) rfl rfl (Nat.le_of_ble_eq_true rfl) (by simp [Value.category]) (Ar_turn_ok H0 (by assumption)) ?_
      refine v_aload_n (dk cd_Ar_sidesMeet 55 rfl) rfl ?_
      refine v_iload_n (dk cd_Ar_sidesMeet 56 rfl) rfl ?_
      refine v_aload_n (dk cd_Ar_sidesMeet 57 rfl) rfl ?_
      refine v_getf (dk cd_Ar_sidesMeet 58 rfl) fg_Ar_9_Ar (by assumption) (by rfl) ?_
      refine v_iload (dk cd_Ar_sidesMeet 59 rfl) rfl ?_
      refine v_ialdN (j := 0) (dk cd_Ar_sidesMeet 60 rfl) (by assumption) (by decide) rfl (by omega) (by first | exact hX _ (by omega) | exact hY _ (by omega)) ?_
      refine v_aload_n (dk cd_Ar_sidesMeet 61 rfl) rfl ?_
      refine v_getf (dk cd_Ar_sidesMeet 62 rfl) fg_Ar_15_Ar (by assumption) (by rfl) ?_
      refine v_iload (dk cd_Ar_sidesMeet 63 rfl) rfl ?_
      refine v_ialdN (j := 0) (dk cd_Ar_sidesMeet 64 rfl) (by assumption) (by decide) rfl (by omega) (by first | exact hX _ (by omega) | exact hY _ (by omega)) ?_
      refine v_rv (r := ("AreaWarnings$Area", TT_Ar, 3)) (dk cd_Ar_sidesMeet 65 rfl) cv_Ar_47 rfl (by assumption) (as := [_, _, _]) rfl rfl (Nat.le_of_ble_eq_true rfl) (by simp [Value.category]) (Ar_turn_ok H0 (by assumption)) ?_
      refine v_lmul (dk cd_Ar_sidesMeet 66 rfl) ?_
      refine v_lconst (v := 0) (dk cd_Ar_sidesMeet 67 rfl) (by decide) ?_
      refine v_lcmp_gt (tgt := 161) (dk cd_Ar_sidesMeet 68 rfl) (dk cd_Ar_sidesMeet 69 rfl) rfl (fun q114 => ?_) (fun q114 => ?_)
      · refine v_iconst (v := 0) (dk cd_Ar_sidesMeet 98 rfl) (by decide) ?_
        exact v_zret (dk cd_Ar_sidesMeet 99 rfl) rfl rfl (rt_f (by simp only [cMeet]; simp [*]; try exact fun z => absurd q114 (Int64.not_lt.mpr z)))
      · refine v_aload_n (dk cd_Ar_sidesMeet 70 rfl) rfl ?_
        refine v_iload_n (dk cd_Ar_sidesMeet 71 rfl) rfl ?_
        refine v_aload_n (dk cd_Ar_sidesMeet 72 rfl) rfl ?_
        refine v_getf (dk cd_Ar_sidesMeet 73 rfl) fg_Ar_9_Ar (by assumption) (by rfl) ?_
        refine v_iload_n (dk cd_Ar_sidesMeet 74 rfl) rfl ?_
        refine v_ialdN (j := 0) (dk cd_Ar_sidesMeet 75 rfl) (by assumption) (by decide) rfl (by omega) (by first | exact hX _ (by omega) | exact hY _ (by omega)) ?_
        refine v_aload_n (dk cd_Ar_sidesMeet 76 rfl) rfl ?_
        refine v_getf (dk cd_Ar_sidesMeet 77 rfl) fg_Ar_15_Ar (by assumption) (by rfl) ?_
        refine v_iload_n (dk cd_Ar_sidesMeet 78 rfl) rfl ?_
        refine v_ialdN (j := 0) (dk cd_Ar_sidesMeet 79 rfl) (by assumption) (by decide) rfl (by omega) (by first | exact hX _ (by omega) | exact hY _ (by omega)) ?_
        refine v_rv (r := ("AreaWarnings$Area", TT_Ar, 3)) (dk cd_Ar_sidesMeet 80 rfl) cv_Ar_47 rfl (by assumption) (as := [_, _, _]) rfl rfl (Nat.le_of_ble_eq_true rfl) (by simp [Value.category]) (Ar_turn_ok H0 (by assumption)) ?_
        refine v_aload_n (dk cd_Ar_sidesMeet 81 rfl) rfl ?_
        refine v_iload_n (dk cd_Ar_sidesMeet 82 rfl) rfl ?_
        refine v_aload_n (dk cd_Ar_sidesMeet 83 rfl) rfl ?_
        refine v_getf (dk cd_Ar_sidesMeet 84 rfl) fg_Ar_9_Ar (by assumption) (by rfl) ?_
        refine v_iload_n (dk cd_Ar_sidesMeet 85 rfl) rfl ?_
        refine v_ialdN (j := 0) (dk cd_Ar_sidesMeet 86 rfl) (by assumption) (by decide) rfl (by omega) (by first | exact hX _ (by omega) | exact hY _ (by omega)) ?_
        refine v_aload_n (dk cd_Ar_sidesMeet 87 rfl) rfl ?_
        refine v_getf (dk cd_Ar_sidesMeet 88 rfl) fg_Ar_15_Ar (by assumption) (by rfl) ?_
        refine v_iload_n (dk cd_Ar_sidesMeet 89 rfl) rfl ?_
        refine v_ialdN (j := 0) (dk cd_Ar_sidesMeet 90 rfl) (by assumption) (by decide) rfl (by omega) (by first | exact hX _ (by omega) | exact hY _ (by omega)) ?_
        refine v_rv (r := ("AreaWarnings$Area", TT_Ar, 3)) (dk cd_Ar_sidesMeet 91 rfl) cv_Ar_47 rfl (by assumption) (as := [_, _, _]) rfl rfl (Nat.le_of_ble_eq_true rfl) (by simp [Value.category]) (Ar_turn_ok H0 (by assumption)) ?_
        refine v_lmul (dk cd_Ar_sidesMeet 92 rfl) ?_
        refine v_lconst (v := 0) (dk cd_Ar_sidesMeet 93 rfl) (by decide) ?_
        refine v_lcmp_gt (tgt := 161) (dk cd_Ar_sidesMeet 94 rfl) (dk cd_Ar_sidesMeet 95 rfl) rfl (fun q154 => ?_) (fun q154 => ?_)
        · refine v_iconst (v := 0) (dk cd_Ar_sidesMeet 98 rfl) (by decide) ?_
          exact v_zret (dk cd_Ar_sidesMeet 99 rfl) rfl rfl (rt_f (by simp only [cMeet]; simp [*]; try exact fun z => absurd q114 (Int64.not_lt.mpr z)))
        · refine v_iconst (v := 1) (dk cd_Ar_sidesMeet 96 rfl) (by decide) ?_
          refine v_goto (tgt := 162) (dk cd_Ar_sidesMeet 97 rfl) rfl ?_
          exact v_zret (dk cd_Ar_sidesMeet 99 rfl) rfl rfl (rt_t (by simp only [cMeet]; simp [*]; first | done | (constructor <;> exact Int64.not_lt.mp (by assumption))))
set_option maxRecDepth 100000 in
set_option maxHeartbeats 4000000 in
theorem Ar_sidesClash_ok {i j : Nat} (H : ArAt A o a) (hi : i < a.length) (hj : j < a.length) : V (gg u) (d + 3) mm_Ar_sidesClash 0 [some (.ref o), some (.int (nI i)), some (.int (nI j))] [] A (Rt (some (.int (b2i (cClash a i j)))) A) := by
  have hn := nx_lt hi
  have hn2 := nx_lt hj
  have H0 := H
  obtain ⟨h8, xa, ya, vx, vy, h1, h2, h3, h4, h5, hX, hY⟩ := H
  refine v_aload_n (dk cd_Ar_sidesClash 0 rfl) rfl ?_
  refine v_iload_n (dk cd_Ar_sidesClash 1 rfl) rfl ?_
  refine v_rv (r := ("AreaWarnings$Area", TT_Ar, 3)) (dk cd_Ar_sidesClash 2 rfl) cv_Ar_33 rfl (by assumption) (as := [_]) rfl rfl (Nat.le_of_ble_eq_true rfl) (by simp [Value.category]) (Ar_next_ok H0 (by assumption)) ?_
  refine v_iload_n (dk cd_Ar_sidesClash 3 rfl) rfl ?_
  refine v_icmp_neN (tgt := 21) (dk cd_Ar_sidesClash 4 rfl) rfl (by omega) (by omega) (fun q6 => ?_) (fun q6 => ?_)
  · refine v_aload_n (dk cd_Ar_sidesClash 13 rfl) rfl ?_
    refine v_iload_n (dk cd_Ar_sidesClash 14 rfl) rfl ?_
    refine v_rv (r := ("AreaWarnings$Area", TT_Ar, 3)) (dk cd_Ar_sidesClash 15 rfl) cv_Ar_33 rfl (by assumption) (as := [_]) rfl rfl (Nat.le_of_ble_eq_true rfl) (by simp [Value.category]) (Ar_next_ok H0 (by assumption)) ?_
    refine v_iload_n (dk cd_Ar_sidesClash 16 rfl) rfl ?_
    refine v_icmp_neN (tgt := 42) (dk cd_Ar_sidesClash 17 rfl) rfl (by omega) (by omega) (fun q27 => ?_) (fun q27 => ?_)
    · refine v_aload_n (dk cd_Ar_sidesClash 26 rfl) rfl ?_
      refine v_iload_n (dk cd_Ar_sidesClash 27 rfl) rfl ?_
      refine v_iload_n (dk cd_Ar_sidesClash 28 rfl) rfl ?_
      refine v_rv (r := ("AreaWarnings$Area", TT_Ar, 3)) (dk cd_Ar_sidesClash 29 rfl) cv_Ar_41 rfl (by assumption) (as := [_, _]) rfl rfl (Nat.le_of_ble_eq_true rfl) (by simp [Value.category]) (Ar_sidesMeet_ok H0 hi hj) ?_
      exact v_zretB (dk cd_Ar_sidesClash 30 rfl) rfl (rt_of (by simp [cClash, q6, q27]))
    · refine v_aload_n (dk cd_Ar_sidesClash 18 rfl) rfl ?_
      refine v_iload_n (dk cd_Ar_sidesClash 19 rfl) rfl ?_
      refine v_iload_n (dk cd_Ar_sidesClash 20 rfl) rfl ?_
      refine v_aload_n (dk cd_Ar_sidesClash 21 rfl) rfl ?_
      refine v_iload_n (dk cd_Ar_sidesClash 22 rfl) rfl ?_
      refine v_rv (r := ("AreaWarnings$Area", TT_Ar, 3)) (dk cd_Ar_sidesClash 23 rfl) cv_Ar_33 rfl (by assumption) (as := [_]) rfl rfl (Nat.le_of_ble_eq_true rfl) (by simp [Value.category]) (Ar_next_ok H0 (by assumption)) ?_
      refine v_rv (r := ("AreaWarnings$Area", TT_Ar, 3)) (dk cd_Ar_sidesClash 24 rfl) cv_Ar_37 rfl (by assumption) (as := [_, _, _]) rfl rfl (Nat.le_of_ble_eq_true rfl) (by simp [Value.category]) (Ar_foldsBack_ok H0 (by omega) (by omega) (by omega)) ?_
      exact v_zretB (dk cd_Ar_sidesClash 25 rfl) rfl (rt_of (by simp [cClash, q6, q27]))
  · refine v_aload_n (dk cd_Ar_sidesClash 5 rfl) rfl ?_
    refine v_iload_n (dk cd_Ar_sidesClash 6 rfl) rfl ?_
    refine v_iload_n (dk cd_Ar_sidesClash 7 rfl) rfl ?_
    refine v_aload_n (dk cd_Ar_sidesClash 8 rfl) rfl ?_
    refine v_iload_n (dk cd_Ar_sidesClash 9 rfl) rfl ?_
    refine v_rv (r := ("AreaWarnings$Area", TT_Ar, 3)) (dk cd_Ar_sidesClash 10 rfl) cv_Ar_33 rfl (by assumption) (as := [_]) rfl rfl (Nat.le_of_ble_eq_true rfl) (by simp [Value.category]) (Ar_next_ok H0 (by assumption)) ?_
    refine v_rv (r := ("AreaWarnings$Area", TT_Ar, 3)) (dk cd_Ar_sidesClash 11 rfl) cv_Ar_37 rfl (by assumption) (as := [_, _, _]) rfl rfl (Nat.le_of_ble_eq_true rfl) (by simp [Value.category]) (Ar_foldsBack_ok H0 (by omega) (by omega) (by omega)) ?_
    exact v_zretB (dk cd_Ar_sidesClash 12 rfl) rfl (rt_of (by subst q6; simp [cClash]))
set_option maxRecDepth 100000 in
set_option maxHeartbeats 4000000 in
theorem Ar_sideReaches_ok {i : Nat} {x y r : Int32} (H : ArAt A o a) (hi : i < a.length) : V (gg u) (d + 2) mm_Ar_sideReaches 0 [some (.ref o), some (.int (nI i)), some (.int x), some (.int y), some (.int r), none, none, none, none, none, none, none, none, none, none, none, none, none] [] A (Rt (some (.int (b2i (cSide a i x y r)))) A) := by
  have hn := nx_lt hi
  have H0 := H
  obtain ⟨h8, xa, ya, vx, vy, h1, h2, h3, h4, h5, hX, hY⟩ := H
  refine v_aload_n (dk cd_Ar_sideReaches 0 rfl) rfl ?_
  refine v_iload_n (dk cd_Ar_sideReaches 1 rfl) rfl ?_
  refine v_rv (r := ("AreaWarnings$Area", TT_Ar, 3)) (dk cd_Ar_sideReaches 2 rfl) cv_Ar_33 rfl (by assumption) (as := [_]) rfl rfl (Nat.le_of_ble_eq_true rfl) (by simp [Value.category]) (Ar_next_ok H0 (by assumption)) ?_
  refine v_istore (dk cd_Ar_sideReaches 3 rfl) (by decide) rfl ?_
  refine v_iload (dk cd_Ar_sideReaches 4 rfl) rfl ?_
  refine v_i2l (dk cd_Ar_sideReaches 5 rfl) ?_
  refine v_iload (dk cd_Ar_sideReaches 6 rfl) rfl ?_
  refine v_i2l (dk cd_Ar_sideReaches 7 rfl) ?_
  refine v_lmul (dk cd_Ar_sideReaches 8 rfl) ?_
  refine v_lstore (dk cd_Ar_sideReaches 9 rfl) (by decide) rfl ?_
  refine v_aload_n (dk cd_Ar_sideReaches 10 rfl) rfl ?_
  refine v_getf (dk cd_Ar_sideReaches 11 rfl) fg_Ar_9_Ar (by assumption) (by rfl) ?_
  refine v_iload (dk cd_Ar_sideReaches 12 rfl) rfl ?_
  refine v_ialdN (j := 0) (dk cd_Ar_sideReaches 13 rfl) (by assumption) (by decide) rfl (by omega) (by first | exact hX _ (by omega) | exact hY _ (by omega)) ?_
  refine v_aload_n (dk cd_Ar_sideReaches 14 rfl) rfl ?_
  refine v_getf (dk cd_Ar_sideReaches 15 rfl) fg_Ar_9_Ar (by assumption) (by rfl) ?_
  refine v_iload_n (dk cd_Ar_sideReaches 16 rfl) rfl ?_
  refine v_ialdN (j := 0) (dk cd_Ar_sideReaches 17 rfl) (by assumption) (by decide) rfl (by omega) (by first | exact hX _ (by omega) | exact hY _ (by omega)) ?_
  refine v_isub (dk cd_Ar_sideReaches 18 rfl) ?_
  refine v_i2l (dk cd_Ar_sideReaches 19 rfl) ?_
  refine v_lstore (dk cd_Ar_sideReaches 20 rfl) (by decide) rfl ?_
  refine v_aload_n (dk cd_Ar_sideReaches 21 rfl) rfl ?_
  refine v_getf (dk cd_Ar_sideReaches 22 rfl) fg_Ar_15_Ar (by assumption) (by rfl) ?_
  refine v_iload (dk cd_Ar_sideReaches 23 rfl) rfl ?_
  refine v_ialdN (j := 0) (dk cd_Ar_sideReaches 24 rfl) (by assumption) (by decide) rfl (by omega) (by first | exact hX _ (by omega) | exact hY _ (by omega)) ?_
  refine v_aload_n (dk cd_Ar_sideReaches 25 rfl) rfl ?_
  refine v_getf (dk cd_Ar_sideReaches 26 rfl) fg_Ar_15_Ar (by assumption) (by rfl) ?_
  refine v_iload_n (dk cd_Ar_sideReaches 27 rfl) rfl ?_
  refine v_ialdN (j := 0) (dk cd_Ar_sideReaches 28 rfl) (by assumption) (by decide) rfl (by omega) (by first | exact hX _ (by omega) | exact hY _ (by omega)) ?_
  refine v_isub (dk cd_Ar_sideReaches 29 rfl) ?_
  refine v_i2l (dk cd_Ar_sideReaches 30 rfl) ?_
  refine v_lstore (dk cd_Ar_sideReaches 31 rfl) (by decide) rfl ?_
  refine v_lload (dk cd_Ar_sideReaches 32 rfl) rfl ?_
  refine v_lload (dk cd_Ar_sideReaches 33 rfl) rfl ?_
  refine v_lmul (dk cd_Ar_sideReaches 34 rfl) ?_
  refine v_lload (dk cd_Ar_sideReaches 35 rfl) rfl ?_
  refine v_lload (dk cd_Ar_sideReaches 36 rfl) rfl ?_
  refine v_lmul (dk cd_Ar_sideReaches 37 rfl) ?_
  refine v_ladd (dk cd_Ar_sideReaches 38 rfl) ?_
  refine v_lstore (dk cd_Ar_sideReaches 39 rfl) (by decide) rfl ?_
  refine v_lload (dk cd_Ar_sideReaches 40 rfl) rfl ?_
  refine v_iload_n (dk cd_Ar_sideReaches 41 rfl) rfl ?_
  refine v_aload_n (dk cd_Ar_sideReaches 42 rfl) rfl ?_
  refine v_getf (dk cd_Ar_sideReaches 43 rfl) fg_Ar_9_Ar (by assumption) (by rfl) ?_
  refine v_iload_n (dk cd_Ar_sideReaches 44 rfl) rfl ?_
  refine v_ialdN (j := 0) (dk cd_Ar_sideReaches 45 rfl) (by assumption) (by decide) rfl (by omega) (by first | exact hX _ (by omega) | exact hY _ (by omega)) ?_
  refine v_isub (dk cd_Ar_sideReaches 46 rfl) ?_
  refine v_i2l (dk cd_Ar_sideReaches 47 rfl) ?_
  refine v_lmul (dk cd_Ar_sideReaches 48 rfl) ?_
  refine v_lload (dk cd_Ar_sideReaches 49 rfl) rfl ?_
  refine v_iload_n (dk cd_Ar_sideReaches 50 rfl) rfl ?_
  refine v_aload_n (dk cd_Ar_sideReaches 51 rfl) rfl ?_
  refine v_getf (dk cd_Ar_sideReaches 52 rfl) fg_Ar_15_Ar (by assumption) (by rfl) ?_
  refine v_iload_n (dk cd_Ar_sideReaches 53 rfl) rfl ?_
  refine v_ialdN (j := 0) (dk cd_Ar_sideReaches 54 rfl) (by assumption) (by decide) rfl (by omega) (by first | exact hX _ (by omega) | exact hY _ (by omega)) ?_
  refine v_isub (dk cd_Ar_sideReaches 55 rfl) ?_
  refine v_i2l (dk cd_Ar_sideReaches 56 rfl) ?_
  refine v_lmul (dk cd_Ar_sideReaches 57 rfl) ?_
  refine v_ladd (dk cd_Ar_sideReaches 58 rfl) ?_
  refine v_lstore (dk cd_Ar_sideReaches 59 rfl) (by decide) rfl ?_
  refine v_lload (dk cd_Ar_sideReaches 60 rfl) rfl ?_
  refine v_lconst (v := 0) (dk cd_Ar_sideReaches 61 rfl) (by decide) ?_
  refine v_lcmp_gt (tgt := 116) (dk cd_Ar_sideReaches 62 rfl) (dk cd_Ar_sideReaches 63 rfl) rfl (fun q94 => ?_) (fun q94 => ?_)
  · refine v_lload (dk cd_Ar_sideReaches 76 rfl) rfl ?_
    refine v_lload (dk cd_Ar_sideReaches 77 rfl) rfl ?_
    refine v_lcmp_lt (tgt := 144) (dk cd_Ar_sideReaches 78 rfl) (dk cd_Ar_sideReaches 79 rfl) rfl (fun q121 => ?_) (fun q121 => ?_)
    · refine v_aload_n (dk cd_Ar_sideReaches 92 rfl) rfl ?_
      refine v_iload_n (dk cd_Ar_sideReaches 93 rfl) rfl ?_
      refine v_iload_n (dk cd_Ar_sideReaches 94 rfl) rfl ?_
      refine v_iload_n (dk cd_Ar_sideReaches 95 rfl) rfl ?_
      refine v_rv (r := ("AreaWarnings$Area", TT_Ar, 3)) (dk cd_Ar_sideReaches 96 rfl) cv_Ar_47 rfl (by assumption) (as := [_, _, _]) rfl rfl (Nat.le_of_ble_eq_true rfl) (by simp [Value.category]) (Ar_turn_ok H0 (by assumption)) ?_
      refine v_lstore (dk cd_Ar_sideReaches 97 rfl) (by decide) rfl ?_
      refine v_lload (dk cd_Ar_sideReaches 98 rfl) rfl ?_
      refine v_lload (dk cd_Ar_sideReaches 99 rfl) rfl ?_
      refine v_lmul (dk cd_Ar_sideReaches 100 rfl) ?_
      refine v_lload (dk cd_Ar_sideReaches 101 rfl) rfl ?_
      refine v_lload (dk cd_Ar_sideReaches 102 rfl) rfl ?_
      refine v_lmul (dk cd_Ar_sideReaches 103 rfl) ?_
      refine v_mat_lgt (dk cd_Ar_sideReaches 104 rfl) (dk cd_Ar_sideReaches 105 rfl) (dk cd_Ar_sideReaches 106 rfl) (dk cd_Ar_sideReaches 107 rfl) (dk cd_Ar_sideReaches 108 rfl) rfl rfl ?_
      exact v_zretB (dk cd_Ar_sideReaches 109 rfl) rfl (rt_of (by simp only [cSide]; simp only [*, if_true, if_false, ite_true, ite_false]))
    · refine v_aload_n (dk cd_Ar_sideReaches 80 rfl) rfl ?_
      refine v_iload (dk cd_Ar_sideReaches 81 rfl) rfl ?_
      refine v_iload_n (dk cd_Ar_sideReaches 82 rfl) rfl ?_
      refine v_iload_n (dk cd_Ar_sideReaches 83 rfl) rfl ?_
      refine v_rv (r := ("AreaWarnings$Area", TT_Ar, 3)) (dk cd_Ar_sideReaches 84 rfl) cv_Ar_60 rfl (by assumption) (as := [_, _, _]) rfl rfl (Nat.le_of_ble_eq_true rfl) (by simp [Value.category]) (Ar_squareToCorner_ok H0 (by assumption)) ?_
      refine v_lload (dk cd_Ar_sideReaches 85 rfl) rfl ?_
      refine v_mat_lgt (dk cd_Ar_sideReaches 86 rfl) (dk cd_Ar_sideReaches 87 rfl) (dk cd_Ar_sideReaches 88 rfl) (dk cd_Ar_sideReaches 89 rfl) (dk cd_Ar_sideReaches 90 rfl) rfl rfl ?_
      exact v_zretB (dk cd_Ar_sideReaches 91 rfl) rfl (rt_of (by simp only [cSide]; simp only [*, if_true, if_false, ite_true, ite_false]))
  · refine v_aload_n (dk cd_Ar_sideReaches 64 rfl) rfl ?_
    refine v_iload_n (dk cd_Ar_sideReaches 65 rfl) rfl ?_
    refine v_iload_n (dk cd_Ar_sideReaches 66 rfl) rfl ?_
    refine v_iload_n (dk cd_Ar_sideReaches 67 rfl) rfl ?_
    refine v_rv (r := ("AreaWarnings$Area", TT_Ar, 3)) (dk cd_Ar_sideReaches 68 rfl) cv_Ar_60 rfl (by assumption) (as := [_, _, _]) rfl rfl (Nat.le_of_ble_eq_true rfl) (by simp [Value.category]) (Ar_squareToCorner_ok H0 (by assumption)) ?_
    refine v_lload (dk cd_Ar_sideReaches 69 rfl) rfl ?_
    refine v_mat_lgt (dk cd_Ar_sideReaches 70 rfl) (dk cd_Ar_sideReaches 71 rfl) (dk cd_Ar_sideReaches 72 rfl) (dk cd_Ar_sideReaches 73 rfl) (dk cd_Ar_sideReaches 74 rfl) rfl rfl ?_
    exact v_zretB (dk cd_Ar_sideReaches 75 rfl) rfl (rt_of (by simp only [cSide]; simp only [*, if_true, if_false, ite_true, ite_false]))
end AR
end
section
section AR2
variable {u : Ux} {d : Nat} {A : AH} {o : Nat} {a : Pts}
set_option maxRecDepth 100000 in
set_option maxHeartbeats 4000000 in
theorem Ar_surrounds_lp {x y : Int32} (H : ArAt A o a) : ∀ k, k ≤ a.length → V (gg u) (d + 2) mm_Ar_surrounds 5 [some (.ref o), some (.int x), some (.int y), some (.int (b2i (cInTo a x y k))), some (.int (nI k)), none, none] [] A (Rt (some (.int (b2i (cInTo a x y a.length)))) A) := by
  refine up_ind a.length ?_
  intro k ih hk
  have H0 := H
  obtain ⟨h8, xa, ya, vx, vy, h1, h2, h3, h4, h5, hX, hY⟩ := H
  refine v_iload (dk cd_Ar_surrounds 4 rfl) rfl ?_
  refine v_aload_n (dk cd_Ar_surrounds 5 rfl) rfl ?_
  refine v_getf (dk cd_Ar_surrounds 6 rfl) fg_Ar_18_Ar (by assumption) (by rfl) ?_
  refine v_icmp_geN (tgt := 120) (dk cd_Ar_surrounds 7 rfl) rfl (by omega) (by omega) (fun q11 => ?_) (fun q11 => ?_)
  · refine v_iload_n (dk cd_Ar_surrounds 65 rfl) rfl ?_
    exact v_zretB (dk cd_Ar_surrounds 66 rfl) rfl (rt_of (by rw [show k = a.length by omega]))
  · have hn := nx_lt q11
    refine v_aload_n (dk cd_Ar_surrounds 8 rfl) rfl ?_
    refine v_iload (dk cd_Ar_surrounds 9 rfl) rfl ?_
    refine v_rv (r := ("AreaWarnings$Area", TT_Ar, 3)) (dk cd_Ar_surrounds 10 rfl) cv_Ar_33 rfl (by assumption) (as := [_]) rfl rfl (Nat.le_of_ble_eq_true rfl) (by simp [Value.category]) (Ar_next_ok H0 q11) ?_
    refine v_istore (dk cd_Ar_surrounds 11 rfl) (by decide) rfl ?_
    refine v_aload_n (dk cd_Ar_surrounds 12 rfl) rfl ?_
    refine v_getf (dk cd_Ar_surrounds 13 rfl) fg_Ar_15_Ar (by assumption) (by rfl) ?_
    refine v_iload (dk cd_Ar_surrounds 14 rfl) rfl ?_
    refine v_ialdN (j := 0) (dk cd_Ar_surrounds 15 rfl) (by assumption) (by decide) rfl (by omega) (by first | exact hX _ (by omega) | exact hY _ (by omega)) ?_
    refine v_aload_n (dk cd_Ar_surrounds 16 rfl) rfl ?_
    refine v_getf (dk cd_Ar_surrounds 17 rfl) fg_Ar_15_Ar (by assumption) (by rfl) ?_
    refine v_iload (dk cd_Ar_surrounds 18 rfl) rfl ?_
    refine v_ialdN (j := 0) (dk cd_Ar_surrounds 19 rfl) (by assumption) (by decide) rfl (by omega) (by first | exact hX _ (by omega) | exact hY _ (by omega)) ?_
    refine v_mat_ile (dk cd_Ar_surrounds 20 rfl) (dk cd_Ar_surrounds 21 rfl) (dk cd_Ar_surrounds 22 rfl) (dk cd_Ar_surrounds 23 rfl) rfl rfl ?_
    refine v_istore (dk cd_Ar_surrounds 24 rfl) (by decide) rfl ?_
    refine v_aload_n (dk cd_Ar_surrounds 25 rfl) rfl ?_
    refine v_getf (dk cd_Ar_surrounds 26 rfl) fg_Ar_15_Ar (by assumption) (by rfl) ?_
    refine v_iload (dk cd_Ar_surrounds 27 rfl) rfl ?_
    refine v_ialdN (j := 0) (dk cd_Ar_surrounds 28 rfl) (by assumption) (by decide) rfl (by omega) (by first | exact hX _ (by omega) | exact hY _ (by omega)) ?_
    refine v_iload_n (dk cd_Ar_surrounds 29 rfl) rfl ?_
    refine v_mat_ile (dk cd_Ar_surrounds 30 rfl) (dk cd_Ar_surrounds 31 rfl) (dk cd_Ar_surrounds 32 rfl) (dk cd_Ar_surrounds 33 rfl) rfl rfl ?_
    refine v_aload_n (dk cd_Ar_surrounds 34 rfl) rfl ?_
    refine v_getf (dk cd_Ar_surrounds 35 rfl) fg_Ar_15_Ar (by assumption) (by rfl) ?_
    refine v_iload (dk cd_Ar_surrounds 36 rfl) rfl ?_
    refine v_ialdN (j := 0) (dk cd_Ar_surrounds 37 rfl) (by assumption) (by decide) rfl (by omega) (by first | exact hX _ (by omega) | exact hY _ (by omega)) ?_
    refine v_iload_n (dk cd_Ar_surrounds 38 rfl) rfl ?_
    refine v_mat_ile (dk cd_Ar_surrounds 39 rfl) (dk cd_Ar_surrounds 40 rfl) (dk cd_Ar_surrounds 41 rfl) (dk cd_Ar_surrounds 42 rfl) rfl rfl ?_
    refine v_icmp_eqB (tgt := 114) (dk cd_Ar_surrounds 43 rfl) rfl (fun q78 => ?_) (fun q78 => ?_)
    · refine v_iincN (dk cd_Ar_surrounds 63 rfl) rfl (by decide) rfl ?_
      refine v_goto (tgt := 5) (dk cd_Ar_surrounds 64 rfl) rfl ?_
      refine V.drop 5 (V.drop 6 ?_)
      exact (ih q11 (by omega)).eq rfl (by simp only [cInTo, cCross]; simp [*]; try rfl) rfl rfl
    · refine v_iload (dk cd_Ar_surrounds 44 rfl) rfl ?_
      refine v_aload_n (dk cd_Ar_surrounds 45 rfl) rfl ?_
      refine v_iload (dk cd_Ar_surrounds 46 rfl) rfl ?_
      refine v_iload_n (dk cd_Ar_surrounds 47 rfl) rfl ?_
      refine v_iload_n (dk cd_Ar_surrounds 48 rfl) rfl ?_
      refine v_rv (r := ("AreaWarnings$Area", TT_Ar, 3)) (dk cd_Ar_surrounds 49 rfl) cv_Ar_47 rfl (by assumption) (as := [_, _, _]) rfl rfl (Nat.le_of_ble_eq_true rfl) (by simp [Value.category]) (Ar_turn_ok H0 q11) ?_
      refine v_lconst (v := 0) (dk cd_Ar_surrounds 50 rfl) (by decide) ?_
      refine v_mat_lle (dk cd_Ar_surrounds 51 rfl) (dk cd_Ar_surrounds 52 rfl) (dk cd_Ar_surrounds 53 rfl) (dk cd_Ar_surrounds 54 rfl) (dk cd_Ar_surrounds 55 rfl) rfl rfl ?_
      refine v_icmp_neB (tgt := 114) (dk cd_Ar_surrounds 56 rfl) rfl (fun q101 => ?_) (fun q101 => ?_)
      · refine v_iincN (dk cd_Ar_surrounds 63 rfl) rfl (by decide) rfl ?_
        refine v_goto (tgt := 5) (dk cd_Ar_surrounds 64 rfl) rfl ?_
        refine V.drop 5 (V.drop 6 ?_)
        exact (ih q11 (by omega)).eq rfl (by simp only [cInTo, cCross]; simp [*]; try rfl) rfl rfl
      · refine v_iload_n (dk cd_Ar_surrounds 57 rfl) rfl ?_
        refine v_mat_not (dk cd_Ar_surrounds 58 rfl) (dk cd_Ar_surrounds 59 rfl) (dk cd_Ar_surrounds 60 rfl) (dk cd_Ar_surrounds 61 rfl) rfl rfl ?_
        refine v_istore_n (dk cd_Ar_surrounds 62 rfl) (by decide) rfl ?_
        refine v_iincN (dk cd_Ar_surrounds 63 rfl) rfl (by decide) rfl ?_
        refine v_goto (tgt := 5) (dk cd_Ar_surrounds 64 rfl) rfl ?_
        refine V.drop 5 (V.drop 6 ?_)
        exact (ih q11 (by omega)).eq rfl (by simp only [cInTo, cCross]; simp [*]; try rfl) rfl rfl
set_option maxRecDepth 100000 in
set_option maxHeartbeats 4000000 in
theorem Ar_surrounds_ok {x y : Int32} (H : ArAt A o a) : V (gg u) (d + 2) mm_Ar_surrounds 0 [some (.ref o), some (.int x), some (.int y), none, none, none, none] [] A (Rt (some (.int (b2i (cInTo a x y a.length)))) A) := by
  refine v_iconst (v := 0) (dk cd_Ar_surrounds 0 rfl) (by decide) ?_
  refine v_istore_n (dk cd_Ar_surrounds 1 rfl) (by decide) rfl ?_
  refine v_iconst (v := nI 0) (dk cd_Ar_surrounds 2 rfl) (by decide) ?_
  refine v_istore (dk cd_Ar_surrounds 3 rfl) (by decide) rfl ?_
  exact Ar_surrounds_lp H 0 (by omega)
set_option maxRecDepth 100000 in
set_option maxHeartbeats 4000000 in
theorem Ar_reaches_lp {x y r : Int32} (H : ArAt A o a) : ∀ k, k ≤ a.length ∧ (∀ i, i < k → cSide a i x y r = false) → V (gg u) (d + 3) mm_Ar_reaches 3 [some (.ref o), some (.int x), some (.int y), some (.int r), some (.int (nI k))] [] A (Rt (some (.int (b2i (cReach a x y r)))) A) := by
  refine up_ind a.length ?_
  intro k ih ⟨hk, hp⟩
  have H0 := H
  obtain ⟨h8, xa, ya, vx, vy, h1, h2, h3, h4, h5, hX, hY⟩ := H
  refine v_iload (dk cd_Ar_reaches 2 rfl) rfl ?_
  refine v_aload_n (dk cd_Ar_reaches 3 rfl) rfl ?_
  refine v_getf (dk cd_Ar_reaches 4 rfl) fg_Ar_18_Ar (by assumption) (by rfl) ?_
  refine v_icmp_geN (tgt := 32) (dk cd_Ar_reaches 5 rfl) rfl (by omega) (by omega) (fun q9 => ?_) (fun q9 => ?_)
  · refine v_aload_n (dk cd_Ar_reaches 17 rfl) rfl ?_
    refine v_iload_n (dk cd_Ar_reaches 18 rfl) rfl ?_
    refine v_iload_n (dk cd_Ar_reaches 19 rfl) rfl ?_
    refine v_rv (r := ("AreaWarnings$Area", TT_Ar, 3)) (dk cd_Ar_reaches 20 rfl) cv_Ar_30 rfl (by assumption) (as := [_, _]) rfl rfl (Nat.le_of_ble_eq_true rfl) (by simp [Value.category]) (Ar_surrounds_ok H0) ?_
    exact v_zretB (dk cd_Ar_reaches 21 rfl) rfl (rt_of (by unfold cReach; rw [show (List.range a.length).any (fun i => cSide a i x y r) = false from List.any_eq_false.mpr (fun i hi => by rw [hp i (by rw [List.mem_range] at hi; omega)]; exact Bool.false_ne_true)]; rfl))
  · refine v_aload_n (dk cd_Ar_reaches 6 rfl) rfl ?_
    refine v_iload (dk cd_Ar_reaches 7 rfl) rfl ?_
    refine v_iload_n (dk cd_Ar_reaches 8 rfl) rfl ?_
    refine v_iload_n (dk cd_Ar_reaches 9 rfl) rfl ?_
    refine v_iload_n (dk cd_Ar_reaches 10 rfl) rfl ?_
    refine v_rv (r := ("AreaWarnings$Area", TT_Ar, 3)) (dk cd_Ar_reaches 11 rfl) cv_Ar_26 rfl (by assumption) (as := [_, _, _, _]) rfl rfl (Nat.le_of_ble_eq_true rfl) (by simp [Value.category]) (Ar_sideReaches_ok H0 q9) ?_
    refine v_ifeqB (tgt := 26) (dk cd_Ar_reaches 12 rfl) rfl (fun q21 => ?_) (fun q21 => ?_)
    · refine v_iincN (dk cd_Ar_reaches 15 rfl) rfl (by decide) rfl ?_
      refine v_goto (tgt := 3) (dk cd_Ar_reaches 16 rfl) rfl ?_
      exact ih q9 ⟨by omega, fun i hi => (Nat.lt_succ_iff_lt_or_eq.mp hi).elim (hp i) (fun e => by rw [e]; exact q21)⟩
    · refine v_iconst (v := 1) (dk cd_Ar_reaches 13 rfl) (by decide) ?_
      exact v_zret (dk cd_Ar_reaches 14 rfl) rfl rfl (rt_t (by unfold cReach; rw [Bool.or_eq_true]; exact Or.inl (List.any_eq_true.mpr ⟨k, List.mem_range.mpr q9, q21⟩)))
set_option maxRecDepth 100000 in
set_option maxHeartbeats 4000000 in
theorem Ar_reaches_ok {x y r : Int32} (H : ArAt A o a) : V (gg u) (d + 3) mm_Ar_reaches 0 [some (.ref o), some (.int x), some (.int y), some (.int r), none] [] A (Rt (some (.int (b2i (cReach a x y r)))) A) := by
  refine v_iconst (v := nI 0) (dk cd_Ar_reaches 0 rfl) (by decide) ?_
  refine v_istore (dk cd_Ar_reaches 1 rfl) (by decide) rfl ?_
  exact Ar_reaches_lp H 0 ⟨by omega, fun i hi => absurd hi (Nat.not_lt_zero i)⟩
set_option maxRecDepth 100000 in
set_option maxHeartbeats 4000000 in
theorem Ar_simp_i2 {i : Nat} (H : ArAt A o a) (hi : i < a.length) (kont : (∀ j, i < j → j < a.length → cClash a i j = false) → V (gg u) (d + 4) mm_Ar_isSimple 115 [some (.ref o), some (.int (nI i)), none] [] A (Rt (some (.int (b2i (cSimple a)))) A)) : ∀ j, i < j ∧ j ≤ a.length ∧ (∀ j2, i < j2 → j2 < j → cClash a i j2 = false) → V (gg u) (d + 4) mm_Ar_isSimple 90 [some (.ref o), some (.int (nI i)), some (.int (nI j))] [] A (Rt (some (.int (b2i (cSimple a)))) A) := by
  refine up_ind a.length ?_
  intro j ih ⟨hij, hj, hp⟩
  have H0 := H
  obtain ⟨h8, xa, ya, vx, vy, h1, h2, h3, h4, h5, hX, hY⟩ := H
  refine v_iload_n (dk cd_Ar_isSimple 54 rfl) rfl ?_
  refine v_aload_n (dk cd_Ar_isSimple 55 rfl) rfl ?_
  refine v_getf (dk cd_Ar_isSimple 56 rfl) fg_Ar_18_Ar (by assumption) (by rfl) ?_
  refine v_icmp_geN (tgt := 115) (dk cd_Ar_isSimple 57 rfl) rfl (by omega) (by omega) (fun q95 => ?_) (fun q95 => ?_)
  · exact V.drop 2 (kont (fun j2 h6 h7 => hp j2 h6 (by omega)))
  · refine v_aload_n (dk cd_Ar_isSimple 58 rfl) rfl ?_
    refine v_iload_n (dk cd_Ar_isSimple 59 rfl) rfl ?_
    refine v_iload_n (dk cd_Ar_isSimple 60 rfl) rfl ?_
    refine v_rv (r := ("AreaWarnings$Area", TT_Ar, 3)) (dk cd_Ar_isSimple 61 rfl) cv_Ar_22 rfl (by assumption) (as := [_, _]) rfl rfl (Nat.le_of_ble_eq_true rfl) (by simp [Value.category]) (Ar_sidesClash_ok H0 hi q95) ?_
    refine v_ifeqB (tgt := 109) (dk cd_Ar_isSimple 62 rfl) rfl (fun q104 => ?_) (fun q104 => ?_)
    · refine v_iincN (dk cd_Ar_isSimple 65 rfl) rfl (by decide) rfl ?_
      refine v_goto (tgt := 90) (dk cd_Ar_isSimple 66 rfl) rfl ?_
      exact ih q95 ⟨by omega, by omega, fun j2 h6 h7 => (Nat.lt_succ_iff_lt_or_eq.mp h7).elim (hp j2 h6) (fun e => by rw [e]; exact q104)⟩
    · refine v_iconst (v := 0) (dk cd_Ar_isSimple 63 rfl) (by decide) ?_
      exact v_zret (dk cd_Ar_isSimple 64 rfl) rfl rfl (rt_f (by unfold cSimple; rw [cPair_yes (f := cClash a) hij q95 q104]; simp))
set_option maxRecDepth 100000 in
set_option maxHeartbeats 4000000 in
theorem Ar_simp_o2 (H : ArAt A o a) (h3n : 3 ≤ a.length) (hs : cPair a.length (cSame a) = false) : ∀ i, i ≤ a.length ∧ (∀ i2, i2 < i → ∀ j, i2 < j → j < a.length → cClash a i2 j = false) → V (gg u) (d + 4) mm_Ar_isSimple 78 [some (.ref o), some (.int (nI i)), none] [] A (Rt (some (.int (b2i (cSimple a)))) A) := by
  refine up_ind a.length ?_
  intro i ih ⟨hi, hp⟩
  have H0 := H
  obtain ⟨h8, xa, ya, vx, vy, h1, h2, h3, h4, h5, hX, hY⟩ := H
  refine v_iload_n (dk cd_Ar_isSimple 46 rfl) rfl ?_
  refine v_aload_n (dk cd_Ar_isSimple 47 rfl) rfl ?_
  refine v_getf (dk cd_Ar_isSimple 48 rfl) fg_Ar_18_Ar (by assumption) (by rfl) ?_
  refine v_icmp_geN (tgt := 121) (dk cd_Ar_isSimple 49 rfl) rfl (by omega) (by omega) (fun q83 => ?_) (fun q83 => ?_)
  · refine v_iconst (v := 1) (dk cd_Ar_isSimple 69 rfl) (by decide) ?_
    exact v_zret (dk cd_Ar_isSimple 70 rfl) rfl rfl (rt_t (by unfold cSimple; rw [hs, cPair_no (f := cClash a) (fun i2 h6 j h7 h9 => hp i2 (by omega) j h7 h9)]; simp [h3n]))
  · refine v_iload_n (dk cd_Ar_isSimple 50 rfl) rfl ?_
    refine v_iconst (v := nI 1) (dk cd_Ar_isSimple 51 rfl) (by decide) ?_
    refine v_iaddN (dk cd_Ar_isSimple 52 rfl) ?_
    refine v_istore_n (dk cd_Ar_isSimple 53 rfl) (by decide) rfl ?_
    refine Ar_simp_i2 H0 q83 (fun hc => ?_) (i + 1) ⟨by omega, by omega, fun j2 h6 h7 => by omega⟩
    refine v_iincN (dk cd_Ar_isSimple 67 rfl) rfl (by decide) rfl ?_
    refine v_goto (tgt := 78) (dk cd_Ar_isSimple 68 rfl) rfl ?_
    exact ih q83 ⟨by omega, fun i2 h6 => (Nat.lt_succ_iff_lt_or_eq.mp h6).elim (hp i2) (fun e => by rw [e]; exact hc)⟩
set_option maxRecDepth 100000 in
set_option maxHeartbeats 4000000 in
theorem Ar_simp_i1 {i : Nat} (H : ArAt A o a) (hi : i < a.length) (kont : (∀ j, i < j → j < a.length → cSame a i j = false) → V (gg u) (d + 4) mm_Ar_isSimple 70 [some (.ref o), some (.int (nI i)), none] [] A (Rt (some (.int (b2i (cSimple a)))) A)) : ∀ j, i < j ∧ j ≤ a.length ∧ (∀ j2, i < j2 → j2 < j → cSame a i j2 = false) → V (gg u) (d + 4) mm_Ar_isSimple 24 [some (.ref o), some (.int (nI i)), some (.int (nI j))] [] A (Rt (some (.int (b2i (cSimple a)))) A) := by
  refine up_ind a.length ?_
  intro j ih ⟨hij, hj, hp⟩
  have H0 := H
  obtain ⟨h8, xa, ya, vx, vy, h1, h2, h3, h4, h5, hX, hY⟩ := H
  refine v_iload_n (dk cd_Ar_isSimple 16 rfl) rfl ?_
  refine v_aload_n (dk cd_Ar_isSimple 17 rfl) rfl ?_
  refine v_getf (dk cd_Ar_isSimple 18 rfl) fg_Ar_18_Ar (by assumption) (by rfl) ?_
  refine v_icmp_geN (tgt := 70) (dk cd_Ar_isSimple 19 rfl) rfl (by omega) (by omega) (fun q29 => ?_) (fun q29 => ?_)
  · exact V.drop 2 (kont (fun j2 h6 h7 => hp j2 h6 (by omega)))
  · refine v_aload_n (dk cd_Ar_isSimple 20 rfl) rfl ?_
    refine v_getf (dk cd_Ar_isSimple 21 rfl) fg_Ar_9_Ar (by assumption) (by rfl) ?_
    refine v_iload_n (dk cd_Ar_isSimple 22 rfl) rfl ?_
    refine v_ialdN (j := 0) (dk cd_Ar_isSimple 23 rfl) (by assumption) (by decide) rfl (by omega) (by first | exact hX _ (by omega) | exact hY _ (by omega)) ?_
    refine v_aload_n (dk cd_Ar_isSimple 24 rfl) rfl ?_
    refine v_getf (dk cd_Ar_isSimple 25 rfl) fg_Ar_9_Ar (by assumption) (by rfl) ?_
    refine v_iload_n (dk cd_Ar_isSimple 26 rfl) rfl ?_
    refine v_ialdN (j := 0) (dk cd_Ar_isSimple 27 rfl) (by assumption) (by decide) rfl (by omega) (by first | exact hX _ (by omega) | exact hY _ (by omega)) ?_
    refine v_icmp_ne (tgt := 64) (dk cd_Ar_isSimple 28 rfl) rfl (fun q44 => ?_) (fun q44 => ?_)
    · refine v_iincN (dk cd_Ar_isSimple 40 rfl) rfl (by decide) rfl ?_
      refine v_goto (tgt := 24) (dk cd_Ar_isSimple 41 rfl) rfl ?_
      exact ih q29 ⟨by omega, by omega, fun j2 h6 h7 => (Nat.lt_succ_iff_lt_or_eq.mp h7).elim (hp j2 h6) (fun e => by rw [e]; simp [cSame, *])⟩
    · refine v_aload_n (dk cd_Ar_isSimple 29 rfl) rfl ?_
      refine v_getf (dk cd_Ar_isSimple 30 rfl) fg_Ar_15_Ar (by assumption) (by rfl) ?_
      refine v_iload_n (dk cd_Ar_isSimple 31 rfl) rfl ?_
      refine v_ialdN (j := 0) (dk cd_Ar_isSimple 32 rfl) (by assumption) (by decide) rfl (by omega) (by first | exact hX _ (by omega) | exact hY _ (by omega)) ?_
      refine v_aload_n (dk cd_Ar_isSimple 33 rfl) rfl ?_
      refine v_getf (dk cd_Ar_isSimple 34 rfl) fg_Ar_15_Ar (by assumption) (by rfl) ?_
      refine v_iload_n (dk cd_Ar_isSimple 35 rfl) rfl ?_
      refine v_ialdN (j := 0) (dk cd_Ar_isSimple 36 rfl) (by assumption) (by decide) rfl (by omega) (by first | exact hX _ (by omega) | exact hY _ (by omega)) ?_
      refine v_icmp_ne (tgt := 64) (dk cd_Ar_isSimple 37 rfl) rfl (fun q59 => ?_) (fun q59 => ?_)
      · refine v_iincN (dk cd_Ar_isSimple 40 rfl) rfl (by decide) rfl ?_
        refine v_goto (tgt := 24) (dk cd_Ar_isSimple 41 rfl) rfl ?_
        exact ih q29 ⟨by omega, by omega, fun j2 h6 h7 => (Nat.lt_succ_iff_lt_or_eq.mp h7).elim (hp j2 h6) (fun e => by rw [e]; simp [cSame, *])⟩
      · refine v_iconst (v := 0) (dk cd_Ar_isSimple 38 rfl) (by decide) ?_
        exact v_zret (dk cd_Ar_isSimple 39 rfl) rfl rfl (rt_f (by unfold cSimple; rw [cPair_yes (f := cSame a) hij q29 (by simp [cSame, q44, q59])]; simp))
set_option maxRecDepth 100000 in
set_option maxHeartbeats 4000000 in
theorem Ar_simp_o1 (H : ArAt A o a) (h3n : 3 ≤ a.length) : ∀ i, i ≤ a.length ∧ (∀ i2, i2 < i → ∀ j, i2 < j → j < a.length → cSame a i2 j = false) → V (gg u) (d + 4) mm_Ar_isSimple 12 [some (.ref o), some (.int (nI i)), none] [] A (Rt (some (.int (b2i (cSimple a)))) A) := by
  refine up_ind a.length ?_
  intro i ih ⟨hi, hp⟩
  have H0 := H
  obtain ⟨h8, xa, ya, vx, vy, h1, h2, h3, h4, h5, hX, hY⟩ := H
  refine v_iload_n (dk cd_Ar_isSimple 8 rfl) rfl ?_
  refine v_aload_n (dk cd_Ar_isSimple 9 rfl) rfl ?_
  refine v_getf (dk cd_Ar_isSimple 10 rfl) fg_Ar_18_Ar (by assumption) (by rfl) ?_
  refine v_icmp_geN (tgt := 76) (dk cd_Ar_isSimple 11 rfl) rfl (by omega) (by omega) (fun q17 => ?_) (fun q17 => ?_)
  · refine v_iconst (v := nI 0) (dk cd_Ar_isSimple 44 rfl) (by decide) ?_
    refine v_istore_n (dk cd_Ar_isSimple 45 rfl) (by decide) rfl ?_
    exact Ar_simp_o2 H0 h3n (cPair_no (f := cSame a) (fun i2 h6 j h7 h9 => hp i2 (by omega) j h7 h9)) 0 ⟨by omega, fun i2 h6 => absurd h6 (Nat.not_lt_zero i2)⟩
  · refine v_iload_n (dk cd_Ar_isSimple 12 rfl) rfl ?_
    refine v_iconst (v := nI 1) (dk cd_Ar_isSimple 13 rfl) (by decide) ?_
    refine v_iaddN (dk cd_Ar_isSimple 14 rfl) ?_
    refine v_istore_n (dk cd_Ar_isSimple 15 rfl) (by decide) rfl ?_
    refine Ar_simp_i1 H0 q17 (fun hc => ?_) (i + 1) ⟨by omega, by omega, fun j2 h6 h7 => by omega⟩
    refine v_iincN (dk cd_Ar_isSimple 42 rfl) rfl (by decide) rfl ?_
    refine v_goto (tgt := 12) (dk cd_Ar_isSimple 43 rfl) rfl ?_
    exact ih q17 ⟨by omega, fun i2 h6 => (Nat.lt_succ_iff_lt_or_eq.mp h6).elim (hp i2) (fun e => by rw [e]; exact hc)⟩
set_option maxRecDepth 100000 in
set_option maxHeartbeats 4000000 in
theorem Ar_isSimple_ok (H : ArAt A o a) : V (gg u) (d + 4) mm_Ar_isSimple 0 [some (.ref o), none, none] [] A (Rt (some (.int (b2i (cSimple a)))) A) := by
  have H0 := H
  obtain ⟨h8, xa, ya, vx, vy, h1, h2, h3, h4, h5, hX, hY⟩ := H
  refine v_aload_n (dk cd_Ar_isSimple 0 rfl) rfl ?_
  refine v_getf (dk cd_Ar_isSimple 1 rfl) fg_Ar_18_Ar (by assumption) (by rfl) ?_
  refine v_iconst (v := nI 3) (dk cd_Ar_isSimple 2 rfl) (by decide) ?_
  refine v_icmp_geN (tgt := 10) (dk cd_Ar_isSimple 3 rfl) rfl (by omega) (by omega) (fun q5 => ?_) (fun q5 => ?_)
  · refine v_iconst (v := nI 0) (dk cd_Ar_isSimple 6 rfl) (by decide) ?_
    refine v_istore_n (dk cd_Ar_isSimple 7 rfl) (by decide) rfl ?_
    exact Ar_simp_o1 H0 q5 0 ⟨by omega, fun i2 h6 => absurd h6 (Nat.not_lt_zero i2)⟩
  · refine v_iconst (v := 0) (dk cd_Ar_isSimple 4 rfl) (by decide) ?_
    exact v_zret (dk cd_Ar_isSimple 5 rfl) rfl rfl (rt_f (by unfold cSimple; rw [decide_eq_false (by omega)]; rfl))
end AR2
end
section
/-! the class's state, and how the heap holds it: roles (kind, index) to addresses -/
abbrev Tx : Type := List (List Int32)
abbrev CeS : Type := (Int32 × Int32 × Int32) × (Bool × Bool) × List Nat × List (Nat × Int32 × Int32)
abbrev SpS : Type := (Int32 × Int32) × (Pts × Tx) × List Bool
abbrev VeS : Type := Nat × (Int32 × Int32 × Int32) × Option SpS
abbrev WaS : Type := Int32 × Option Nat
abbrev HaS : Type := (Int32 × Int32 × Int32 × Int32) × List Int32 × (List (Option Nat) × List Int32 × List Bool) × List (Nat × Int32 × Int32)
abbrev SS : Type := Int32 × List CeS × (Pts × Tx) × (List WaS × List Nat) × List VeS × List HaS
abbrev sClock (S : SS) : Int32 := S.1
abbrev sCells (S : SS) : List CeS := S.2.1
abbrev sTyped (S : SS) : Pts × Tx := S.2.2.1
abbrev sWarn (S : SS) : List WaS := S.2.2.2.1.1
abbrev sOrd (S : SS) : List Nat := S.2.2.2.1.2
abbrev sVers (S : SS) : List VeS := S.2.2.2.2.1
abbrev sHs (S : SS) : List HaS := S.2.2.2.2.2
def msgOf (S : SS) (i : Nat) : Option (Pts × Tx) := if i = 99 then some (sTyped S) else ((sVers S)[i]?).bind fun v => v.2.2.map fun s => s.2.1
/-- a row of an array whose first values are known -/
def ArG (k n : Nat) (l : List Value) (x : AC) : Prop := ∃ gb : List Value, x = (k, l ++ gb) ∧ l.length + gb.length = n
def rfN (ad : Nat → Nat → Nat) (κ : Nat) (o : Option Nat) : Value := match o with
  | none => .null
  | some v => .ref (ad κ v)
def CTop (S : SS) (ad : Nat → Nat → Nat) (κ : Nat) (x : AC) : Prop := match κ with
  | 0 => x = (0, [.int (sClock S), .ref (ad 1 0), .int (nI (sCells S).length), .ref (ad 2 0), .int (nI (sWarn S).length), .int (nI (sVers S).length), .ref (ad 3 0), .int (nI (sHs S).length), .ref (ad 4 99)])
  | 1 => ArG 104 8 ((List.range (sCells S).length).map fun i => .ref (ad 14 i)) x
  | 2 => ArG 105 12 ((sOrd S).map fun w => .ref (ad 20 w)) x
  | _ => ArG 106 3 ((List.range (sHs S).length).map fun h => .ref (ad 23 h)) x
def CMsg (m : Pts × Tx) (ad : Nat → Nat → Nat) (i κ : Nat) (x : AC) : Prop := match κ with
  | 4 => x = (5, [.ref (ad 5 i), .ref (ad 8 i)])
  | 5 => x = (1, [.ref (ad 6 i), .ref (ad 7 i), .int (nI m.1.length)])
  | 6 => ArG 100 8 (m.1.map fun p => .int p.1) x
  | 7 => ArG 100 8 (m.1.map fun p => .int p.2) x
  | 8 => x = (7, [.ref (ad 9 i), .ref (ad 13 i)])
  | 9 => x = (103, [.ref (ad 10 i), .ref (ad 11 i), .ref (ad 12 i)])
  | 13 => x = (100, m.2.map fun t => .int (nI t.length))
  | k => ArG 100 30 ((m.2.getD (k - 10) []).map fun b => .int b) x
def CCell (c : CeS) (ad : Nat → Nat → Nat) (i κ : Nat) (x : AC) : Prop := match κ with
  | 14 => x = (3, [.int (nI i), .int c.1.1, .int c.1.2.1, .int c.1.2.2, .int (b2i c.2.1.1), .ref (ad (if c.2.1.2 then 16 else 15) i), .int (nI c.2.2.1.length), .ref (ad (if c.2.1.2 then 15 else 16) i), .ref (ad 17 i), .ref (ad 18 i), .ref (ad 19 i), .int (nI c.2.2.2.length)])
  | 15 => ArG 107 12 (if c.2.1.2 then [] else c.2.2.1.map fun v => .ref (ad 21 v)) x
  | 16 => ArG 107 12 (if c.2.1.2 then c.2.2.1.map fun v => .ref (ad 21 v) else []) x
  | 17 => ArG 107 108 (c.2.2.2.map fun p => .ref (ad 21 p.1)) x
  | 18 => ArG 100 108 (c.2.2.2.map fun p => .int p.2.1) x
  | _ => ArG 100 108 (c.2.2.2.map fun p => .int p.2.2) x
def CWarn (w : WaS) (ad : Nat → Nat → Nat) (i : Nat) (x : AC) : Prop := x = (8, [.int w.1, .int (nI i), rfN ad 21 w.2])
def vKind (v : VeS) : Nat := if v.2.2.isSome then 6 else 2
def CVer (v : VeS) (ad : Nat → Nat → Nat) (i κ : Nat) (x : AC) : Prop := match κ with
  | 21 => x = (vKind v, [.ref (ad 20 v.1), .int v.2.1.1, .int v.2.1.2.1, .int v.2.1.2.2] ++ (match v.2.2 with | none => [] | some s => [.int s.1.1, .int s.1.2, .ref (ad 5 i), .ref (ad 8 i), .ref (ad 22 i)]))
  | _ => ∀ s, v.2.2 = some s → x = (101, s.2.2.map fun b => .int (b2i b))
def CHs (h : HaS) (ad : Nat → Nat → Nat) (i κ : Nat) (x : AC) : Prop := match κ with
  | 23 => x = (4, [.int h.1.1, .ref (ad 24 i), .int (nI h.2.1.length), .int h.1.2.1, .int h.1.2.2.1, .int h.1.2.2.2, .ref (ad 25 i), .ref (ad 26 i), .ref (ad 27 i), .ref (ad 28 i), .ref (ad 29 i), .ref (ad 30 i), .int (nI h.2.2.2.length)])
  | 24 => ArG 100 3 (h.2.1.map fun l => .int l) x
  | 25 => x = (107, h.2.2.1.1.map (rfN ad 21))
  | 26 => x = (100, h.2.2.1.2.1.map fun b => .int b)
  | 27 => x = (101, h.2.2.1.2.2.map fun b => .int (b2i b))
  | 28 => ArG 108 40 (h.2.2.2.map fun p => .ref (ad 21 p.1)) x
  | 29 => ArG 100 40 (h.2.2.2.map fun p => .int p.2.1) x
  | _ => ArG 100 40 (h.2.2.2.map fun p => .int p.2.2) x
def LV (S : SS) (κ i : Nat) : Prop := (κ < 4 ∧ i = 0) ∨ (4 ≤ κ ∧ κ < 14 ∧ (κ = 4 → i = 99) ∧ (msgOf S i).isSome = true) ∨ (14 ≤ κ ∧ κ < 20 ∧ i < (sCells S).length) ∨ (κ = 20 ∧ i < (sWarn S).length) ∨
  (κ = 21 ∧ i < (sVers S).length) ∨ (κ = 22 ∧ ∃ v, (sVers S)[i]? = some v ∧ v.2.2.isSome = true) ∨ (23 ≤ κ ∧ κ ≤ 30 ∧ i < (sHs S).length)
def CT (S : SS) (ad : Nat → Nat → Nat) (κ i : Nat) (x : AC) : Prop := (κ < 4 → CTop S ad κ x) ∧ (4 ≤ κ → κ < 14 → ∀ m, msgOf S i = some m → CMsg m ad i κ x) ∧ (14 ≤ κ → κ < 20 → ∀ c, (sCells S)[i]? = some c → CCell c ad i κ x) ∧
  (κ = 20 → ∀ w, (sWarn S)[i]? = some w → CWarn w ad i x) ∧ (21 ≤ κ → κ ≤ 22 → ∀ v, (sVers S)[i]? = some v → CVer v ad i κ x) ∧ (23 ≤ κ → κ ≤ 30 → ∀ h, (sHs S)[i]? = some h → CHs h ad i κ x)
/-- the heap A holds the state S at the addresses ad, and beside it the cells of F -/
def Inv (F : Nat → Option AC) (S : SS) (ad : Nat → Nat → Nat) (A : AH) : Prop :=
  (∀ κ i κ' i', LV S κ i → LV S κ' i' → ad κ i = ad κ' i' → κ = κ' ∧ i = i') ∧ (∀ κ i, LV S κ i → ∃ x, A.1 (ad κ i) = some x ∧ CT S ad κ i x) ∧
  (∀ q x, F q = some x → A.1 q = some x ∧ ∀ κ i, LV S κ i → ad κ i ≠ q) ∧ ∀ q x, A.1 q = some x → q < A.2.1
theorem aset_same (A : AH) (a : Nat) (x : AC) : (aset A a x).1 a = some x := by simp [aset]
theorem aset_ne (A : AH) {a q : Nat} (x : AC) (h : q ≠ a) : (aset A a x).1 q = A.1 q := by simp [aset, h]
theorem aset_two (A : AH) (a : Nat) (x : AC) : (aset A a x).2 = A.2 := rfl
section IG
variable {F : Nat → Option AC} {S : SS} {ad : Nat → Nat → Nat} {A : AH}
theorem Inv.get (I : Inv F S ad A) {κ i : Nat} (h : LV S κ i) : ∃ x, A.1 (ad κ i) = some x ∧ CT S ad κ i x := I.2.1 κ i h
theorem Inv.aw (I : Inv F S ad A) : A.1 (ad 0 0) = some (0, [.int (sClock S), .ref (ad 1 0), .int (nI (sCells S).length), .ref (ad 2 0), .int (nI (sWarn S).length), .int (nI (sVers S).length), .ref (ad 3 0), .int (nI (sHs S).length), .ref (ad 4 99)]) := by
  obtain ⟨x, h1, h2⟩ := I.get (κ := 0) (i := 0) (Or.inl ⟨by omega, rfl⟩)
  have h3 : x = _ := h2.1 (by omega)
  rw [h1, h3]
theorem Inv.top (I : Inv F S ad A) {κ : Nat} (h : κ < 4) : ∃ x, A.1 (ad κ 0) = some x ∧ CTop S ad κ x := by
  obtain ⟨x, h1, h2⟩ := I.get (κ := κ) (i := 0) (Or.inl ⟨h, rfl⟩)
  exact ⟨x, h1, h2.1 h⟩
theorem Inv.msg (I : Inv F S ad A) {κ i : Nat} {m : Pts × Tx} (h1 : 4 ≤ κ) (h2 : κ < 14) (h3 : κ = 4 → i = 99) (hm : msgOf S i = some m) : ∃ x, A.1 (ad κ i) = some x ∧ CMsg m ad i κ x := by
  obtain ⟨x, h5, h6⟩ := I.get (κ := κ) (i := i) (Or.inr (Or.inl ⟨h1, h2, h3, by rw [hm]; rfl⟩))
  exact ⟨x, h5, h6.2.1 h1 h2 m hm⟩
theorem Inv.cell (I : Inv F S ad A) {κ i : Nat} {c : CeS} (h1 : 14 ≤ κ) (h2 : κ < 20) (hc : (sCells S)[i]? = some c) : ∃ x, A.1 (ad κ i) = some x ∧ CCell c ad i κ x := by
  obtain ⟨x, h5, h6⟩ := I.get (κ := κ) (i := i) (Or.inr (Or.inr (Or.inl ⟨h1, h2, (List.getElem?_eq_some_iff.mp hc).1⟩)))
  exact ⟨x, h5, h6.2.2.1 h1 h2 c hc⟩
theorem Inv.warn (I : Inv F S ad A) {i : Nat} {w : WaS} (hw : (sWarn S)[i]? = some w) : A.1 (ad 20 i) = some (8, [.int w.1, .int (nI i), rfN ad 21 w.2]) := by
  obtain ⟨x, h5, h6⟩ := I.get (κ := 20) (i := i) (Or.inr (Or.inr (Or.inr (Or.inl ⟨rfl, (List.getElem?_eq_some_iff.mp hw).1⟩))))
  have h7 : x = _ := h6.2.2.2.1 rfl w hw
  rw [h5, h7]
theorem Inv.ver (I : Inv F S ad A) {i : Nat} {v : VeS} (hv : (sVers S)[i]? = some v) : ∃ x, A.1 (ad 21 i) = some x ∧ CVer v ad i 21 x := by
  obtain ⟨x, h5, h6⟩ := I.get (κ := 21) (i := i) (Or.inr (Or.inr (Or.inr (Or.inr (Or.inl ⟨rfl, (List.getElem?_eq_some_iff.mp hv).1⟩)))))
  exact ⟨x, h5, h6.2.2.2.2.1 (by omega) (by omega) v hv⟩
theorem Inv.cov (I : Inv F S ad A) {i : Nat} {v : VeS} {s : SpS} (hv : (sVers S)[i]? = some v) (hs : v.2.2 = some s) : A.1 (ad 22 i) = some (101, s.2.2.map fun b => .int (b2i b)) := by
  obtain ⟨x, h5, h6⟩ := I.get (κ := 22) (i := i) (Or.inr (Or.inr (Or.inr (Or.inr (Or.inr (Or.inl ⟨rfl, v, hv, by rw [hs]; rfl⟩))))))
  have h7 : x = _ := h6.2.2.2.2.1 (by omega) (by omega) v hv s hs
  rw [h5, h7]
theorem Inv.hs (I : Inv F S ad A) {κ i : Nat} {h : HaS} (h1 : 23 ≤ κ) (h2 : κ ≤ 30) (hh : (sHs S)[i]? = some h) : ∃ x, A.1 (ad κ i) = some x ∧ CHs h ad i κ x := by
  obtain ⟨x, h5, h6⟩ := I.get (κ := κ) (i := i) (Or.inr (Or.inr (Or.inr (Or.inr (Or.inr (Or.inr ⟨h1, h2, (List.getElem?_eq_some_iff.mp hh).1⟩))))))
  exact ⟨x, h5, h6.2.2.2.2.2 h1 h2 h hh⟩
/-- a version's kind and first fields -/
theorem Inv.verC (I : Inv F S ad A) {i : Nat} {v : VeS} (hv : (sVers S)[i]? = some v) (hs : v.2.2 = none) : A.1 (ad 21 i) = some (2, [.ref (ad 20 v.1), .int v.2.1.1, .int v.2.1.2.1, .int v.2.1.2.2]) := by
  obtain ⟨x, h1, h2⟩ := I.ver hv
  have h3 : x = _ := h2
  rw [h1, h3, hs]; simp [vKind, hs]
theorem Inv.verS (I : Inv F S ad A) {i : Nat} {v : VeS} {s : SpS} (hv : (sVers S)[i]? = some v) (hs : v.2.2 = some s) : A.1 (ad 21 i) = some (6, [.ref (ad 20 v.1), .int v.2.1.1, .int v.2.1.2.1, .int v.2.1.2.2, .int s.1.1, .int s.1.2, .ref (ad 5 i), .ref (ad 8 i), .ref (ad 22 i)]) := by
  obtain ⟨x, h1, h2⟩ := I.ver hv
  have h3 : x = _ := h2
  rw [h1, h3, hs]; simp [vKind, hs]
theorem Inv.arAt (I : Inv F S ad A) {i : Nat} {m : Pts × Tx} (hm : msgOf S i = some m) (h8 : m.1.length ≤ 8) : ArAt A (ad 5 i) m.1 := by
  obtain ⟨x5, a5, b5⟩ := I.msg (κ := 5) (by omega) (by omega) (by omega) hm
  obtain ⟨x6, a6, g6, b6, c6⟩ := I.msg (κ := 6) (by omega) (by omega) (by omega) hm
  obtain ⟨x7, a7, g7, b7, c7⟩ := I.msg (κ := 7) (by omega) (by omega) (by omega) hm
  have e5 : x5 = _ := b5
  refine ⟨h8, ad 6 i, ad 7 i, _, _, by rw [a5, e5], by rw [a6, b6], by rw [a7, b7], by simpa using c6, by simpa using c7, fun k hk => ?_, fun k hk => ?_⟩
  · rw [List.getElem?_append_left (by simpa using hk), List.getElem?_map]
    simp [pX, hk]
  · rw [List.getElem?_append_left (by simpa using hk), List.getElem?_map]
    simp [pY, hk]
end IG
end
section
/-! more rules: references compared, quotients, a version's row by its kind -/
section VX
variable {g : Gx} {d : Nat} {y : MT} {pc : Nat} {L : Lo} {st : List Value} {A : AH} {Φ : Out → AH → Prop}
theorem v_acmp_neR {x w : Nat} {off : Int} {tgt : Nat} (hd : decode y.2.1 pc = .ok (.if_acmp .ne off, 3)) (ht : (pc : Int) + off = (tgt : Int)) (kt : ¬ x = w → V g d y tgt L st A Φ) (kf : x = w → V g d y (pc + 3) L st A Φ) : V g d y pc L (.ref w :: .ref x :: st) A Φ :=
  v_acmp_ne (rx := some x) (ry := some w) hd ht (fun q => kt (fun e => q (by rw [e]))) (fun q => kf (Option.some.inj q))
theorem v_acmp_eqR {x w : Nat} {off : Int} {tgt : Nat} (hd : decode y.2.1 pc = .ok (.if_acmp .eq off, 3)) (ht : (pc : Int) + off = (tgt : Int)) (kt : x = w → V g d y tgt L st A Φ) (kf : ¬ x = w → V g d y (pc + 3) L st A Φ) : V g d y pc L (.ref w :: .ref x :: st) A Φ :=
  v_acmp_eq (rx := some x) (ry := some w) hd ht (fun q => kt (Option.some.inj q)) (fun q => kf (fun e => q (by rw [e])))
theorem v_acmp_neNull {w : Nat} {off : Int} {tgt : Nat} (hd : decode y.2.1 pc = .ok (.if_acmp .ne off, 3)) (ht : (pc : Int) + off = (tgt : Int)) (kt : V g d y tgt L st A Φ) : V g d y pc L (.ref w :: .null :: st) A Φ :=
  v_acmp_ne (rx := none) (ry := some w) hd ht (fun _ => kt) (fun q => by cases q)
theorem v_acmp_eqNull {w : Nat} {off : Int} {tgt : Nat} (hd : decode y.2.1 pc = .ok (.if_acmp .eq off, 3)) (ht : (pc : Int) + off = (tgt : Int)) (kf : V g d y (pc + 3) L st A Φ) : V g d y pc L (.ref w :: .null :: st) A Φ :=
  v_acmp_eq (rx := none) (ry := some w) hd ht (fun q => by cases q) (fun _ => kf)
theorem v_idivN {a b : Nat} (hd : decode y.2.1 pc = .ok (.idiv, 1)) (ha : a < 2 ^ 31) (hb : 0 < b ∧ b < 2 ^ 31) (h : V g d y (pc + 1) L (.int (nI (a / b)) :: st) A Φ) : V g d y pc L (.int (nI b) :: .int (nI a) :: st) A Φ :=
  v_idiv hd (nI_ne0 hb.1 hb.2) (by rw [pk_div ha hb.1 hb.2]; exact h)
end VX
theorem nI_le0 {n : Nat} (h : n < 2 ^ 31) : nI n ≤ 0 ↔ n = 0 := ⟨fun q => by
  by_cases h0 : n = 0
  · exact h0
  · exact absurd q (nI_nle (by omega) h), fun q => by subst q; decide⟩
theorem fgV {WS : List Cond} {cl : List vw_C} {own : String} {idx k : Nat} (h1 : FR WS cl own idx 6 k) (h2 : FR WS cl own idx 2 k) (v : VeS) : FR WS cl own idx (vKind v) k := by
  unfold vKind; split
  · exact h1
  · exact h2
theorem Inv.verV {F : Nat → Option AC} {S : SS} {ad : Nat → Nat → Nat} {A : AH} (I : Inv F S ad A) {i : Nat} {v : VeS} (hv : (sVers S)[i]? = some v) : ∃ l, A.1 (ad 21 i) = some (vKind v, .ref (ad 20 v.1) :: .int v.2.1.1 :: .int v.2.1.2.1 :: .int v.2.1.2.2 :: l) := by
  obtain ⟨x, h1, h2⟩ := I.ver hv
  have h3 : x = _ := h2
  rw [h1, h3]
  exact ⟨_, rfl⟩
/-- Texts -/
def tl (t : Tx) (l : Nat) : Nat := (t.getD l []).length
def TeAt (A : AH) (o : Nat) (t : Tx) : Prop := t.length = 3 ∧ (∀ l, tl t l ≤ 30) ∧ ∃ (ba la : Nat), A.1 o = some (7, [.ref ba, .ref la]) ∧ A.1 la = some (100, t.map fun x => .int (nI x.length))
theorem tl_at {t : Tx} {l : Nat} (h3 : t.length = 3) (h : l < 3) : (t.map fun x => Value.int (nI x.length))[l]? = some (.int (nI (tl t l))) := by
  rw [List.getElem?_map]
  simp [tl, h3, h]
def tsum (t : Tx) : Nat → Nat
  | 0 => 0
  | k + 1 => tsum t k + tl t k
theorem tsum_le {t : Tx} (h : ∀ l, tl t l ≤ 30) (k : Nat) : tsum t k ≤ 30 * k := by
  induction k with
  | zero => simp [tsum]
  | succ k ih => have := h k; simp only [tsum]; omega
def pgs (n : Nat) : Nat := (n + 10 - 1) / 10
def due (clk b sp : Int32) : Bool := !decide (clk < b) && decide ((clk - b) - (clk - b) / sp * sp = 0)
theorem Inv.teAt {F : Nat → Option AC} {S : SS} {ad : Nat → Nat → Nat} {A : AH} (I : Inv F S ad A) {i : Nat} {m : Pts × Tx} (hm : msgOf S i = some m) (h3 : m.2.length = 3) (h30 : ∀ l, tl m.2 l ≤ 30) : TeAt A (ad 8 i) m.2 := by
  obtain ⟨x8, a8, b8⟩ := I.msg (κ := 8) (by omega) (by omega) (by omega) hm
  obtain ⟨x13, a13, b13⟩ := I.msg (κ := 13) (by omega) (by omega) (by omega) hm
  have e8 : x8 = _ := b8
  have e13 : x13 = _ := b13
  exact ⟨h3, h30, _, _, by rw [a8, e8], by rw [a13, e13]⟩
end
section
/-! reads of Texts, Message, Spoken; small tests of AreaWarnings -/
def pCo (x : Int32) : Bool := !decide (x < -1000) && !decide (1000 < x)
def pLa (x : Int32) : Bool := !decide (x < 0) && !decide (3 ≤ x)
def pSe (x : Int32) : Bool := !decide (x < 1) && !decide (5 < x)
def pSn (x : Int32) : Bool := !decide (x < 1) && !decide (1000 < x)
def pIx (x : Int32) (n : Nat) : Bool := !decide (x < 0) && !decide (nI n ≤ x)
theorem nI_gt0 {n : Nat} (q : ¬ nI n ≤ 0) : 0 < n := Nat.pos_of_ne_zero fun e => q (by rw [e]; decide)
section R1
variable {u : Ux} {d : Nat} {A : AH} {o : Nat} {t : Tx} {F : Nat → Option AC} {S : SS} {ad : Nat → Nat → Nat}
set_option maxRecDepth 100000 in
set_option maxHeartbeats 4000000 in
theorem AW_isCoordinate_ok {x : Int32} : V (gg u) d mm_AW_isCoordinate 0 [some (.int x)] [] A (Rt (some (.int (b2i (pCo x)))) A) := by
  refine v_iload_n (dk cd_AW_isCoordinate 0 rfl) rfl ?_
  refine v_sipush (v := -1000) (dk cd_AW_isCoordinate 1 rfl) (by decide) ?_
  refine v_icmp_lt (tgt := 18) (dk cd_AW_isCoordinate 2 rfl) rfl (fun q4 => ?_) (fun q4 => ?_)
  · refine v_iconst (v := 0) (dk cd_AW_isCoordinate 8 rfl) (by decide) ?_
    exact v_zret (dk cd_AW_isCoordinate 9 rfl) rfl rfl (rt_f (by simp [pCo, *]))
  · refine v_iload_n (dk cd_AW_isCoordinate 3 rfl) rfl ?_
    refine v_sipush (v := 1000) (dk cd_AW_isCoordinate 4 rfl) (by decide) ?_
    refine v_icmp_gt (tgt := 18) (dk cd_AW_isCoordinate 5 rfl) rfl (fun q11 => ?_) (fun q11 => ?_)
    · refine v_iconst (v := 0) (dk cd_AW_isCoordinate 8 rfl) (by decide) ?_
      exact v_zret (dk cd_AW_isCoordinate 9 rfl) rfl rfl (rt_f (by simp [pCo, *]))
    · refine v_iconst (v := 1) (dk cd_AW_isCoordinate 6 rfl) (by decide) ?_
      refine v_goto (tgt := 19) (dk cd_AW_isCoordinate 7 rfl) rfl ?_
      exact v_zret (dk cd_AW_isCoordinate 9 rfl) rfl rfl (rt_t (by simp_all [pCo]))
set_option maxRecDepth 100000 in
set_option maxHeartbeats 4000000 in
theorem AW_isLanguage_ok {x : Int32} : V (gg u) d mm_AW_isLanguage 0 [some (.int x)] [] A (Rt (some (.int (b2i (pLa x)))) A) := by
  refine v_iload_n (dk cd_AW_isLanguage 0 rfl) rfl ?_
  refine v_if_lt (tgt := 13) (dk cd_AW_isLanguage 1 rfl) rfl (fun q1 => ?_) (fun q1 => ?_)
  · refine v_iconst (v := 0) (dk cd_AW_isLanguage 7 rfl) (by decide) ?_
    exact v_zret (dk cd_AW_isLanguage 8 rfl) rfl rfl (rt_f (by simp [pLa, *]))
  · refine v_iload_n (dk cd_AW_isLanguage 2 rfl) rfl ?_
    refine v_iconst (v := 3) (dk cd_AW_isLanguage 3 rfl) (by decide) ?_
    refine v_icmp_ge (tgt := 13) (dk cd_AW_isLanguage 4 rfl) rfl (fun q6 => ?_) (fun q6 => ?_)
    · refine v_iconst (v := 0) (dk cd_AW_isLanguage 7 rfl) (by decide) ?_
      exact v_zret (dk cd_AW_isLanguage 8 rfl) rfl rfl (rt_f (by simp [pLa, *]))
    · refine v_iconst (v := 1) (dk cd_AW_isLanguage 5 rfl) (by decide) ?_
      refine v_goto (tgt := 14) (dk cd_AW_isLanguage 6 rfl) rfl ?_
      exact v_zret (dk cd_AW_isLanguage 8 rfl) rfl rfl (rt_t (by simp_all [pLa]))
set_option maxRecDepth 100000 in
set_option maxHeartbeats 4000000 in
theorem AW_isSeverity_ok {x : Int32} : V (gg u) d mm_AW_isSeverity 0 [some (.int x)] [] A (Rt (some (.int (b2i (pSe x)))) A) := by
  refine v_iload_n (dk cd_AW_isSeverity 0 rfl) rfl ?_
  refine v_iconst (v := 1) (dk cd_AW_isSeverity 1 rfl) (by decide) ?_
  refine v_icmp_lt (tgt := 14) (dk cd_AW_isSeverity 2 rfl) rfl (fun q2 => ?_) (fun q2 => ?_)
  · refine v_iconst (v := 0) (dk cd_AW_isSeverity 8 rfl) (by decide) ?_
    exact v_zret (dk cd_AW_isSeverity 9 rfl) rfl rfl (rt_f (by simp [pSe, *]))
  · refine v_iload_n (dk cd_AW_isSeverity 3 rfl) rfl ?_
    refine v_iconst (v := 5) (dk cd_AW_isSeverity 4 rfl) (by decide) ?_
    refine v_icmp_gt (tgt := 14) (dk cd_AW_isSeverity 5 rfl) rfl (fun q7 => ?_) (fun q7 => ?_)
    · refine v_iconst (v := 0) (dk cd_AW_isSeverity 8 rfl) (by decide) ?_
      exact v_zret (dk cd_AW_isSeverity 9 rfl) rfl rfl (rt_f (by simp [pSe, *]))
    · refine v_iconst (v := 1) (dk cd_AW_isSeverity 6 rfl) (by decide) ?_
      refine v_goto (tgt := 15) (dk cd_AW_isSeverity 7 rfl) rfl ?_
      exact v_zret (dk cd_AW_isSeverity 9 rfl) rfl rfl (rt_t (by simp_all [pSe]))
set_option maxRecDepth 100000 in
set_option maxHeartbeats 4000000 in
theorem AW_isSpan_ok {x : Int32} : V (gg u) d mm_AW_isSpan 0 [some (.int x)] [] A (Rt (some (.int (b2i (pSn x)))) A) := by
  refine v_iload_n (dk cd_AW_isSpan 0 rfl) rfl ?_
  refine v_iconst (v := 1) (dk cd_AW_isSpan 1 rfl) (by decide) ?_
  refine v_icmp_lt (tgt := 16) (dk cd_AW_isSpan 2 rfl) rfl (fun q2 => ?_) (fun q2 => ?_)
  · refine v_iconst (v := 0) (dk cd_AW_isSpan 8 rfl) (by decide) ?_
    exact v_zret (dk cd_AW_isSpan 9 rfl) rfl rfl (rt_f (by simp [pSn, *]))
  · refine v_iload_n (dk cd_AW_isSpan 3 rfl) rfl ?_
    refine v_sipush (v := 1000) (dk cd_AW_isSpan 4 rfl) (by decide) ?_
    refine v_icmp_gt (tgt := 16) (dk cd_AW_isSpan 5 rfl) rfl (fun q9 => ?_) (fun q9 => ?_)
    · refine v_iconst (v := 0) (dk cd_AW_isSpan 8 rfl) (by decide) ?_
      exact v_zret (dk cd_AW_isSpan 9 rfl) rfl rfl (rt_f (by simp [pSn, *]))
    · refine v_iconst (v := 1) (dk cd_AW_isSpan 6 rfl) (by decide) ?_
      refine v_goto (tgt := 17) (dk cd_AW_isSpan 7 rfl) rfl ?_
      exact v_zret (dk cd_AW_isSpan 9 rfl) rfl rfl (rt_t (by simp_all [pSn]))
set_option maxRecDepth 100000 in
set_option maxHeartbeats 4000000 in
theorem AW_isCell_ok {x : Int32} (I : Inv F S ad A) : V (gg u) d mm_AW_isCell 0 [some (.ref (ad 0 0)), some (.int x)] [] A (Rt (some (.int (b2i (pIx x (sCells S).length)))) A) := by
  have h0 := I.aw
  refine v_iload_n (dk cd_AW_isCell 0 rfl) rfl ?_
  refine v_if_lt (tgt := 16) (dk cd_AW_isCell 1 rfl) rfl (fun q1 => ?_) (fun q1 => ?_)
  · refine v_iconst (v := 0) (dk cd_AW_isCell 8 rfl) (by decide) ?_
    exact v_zret (dk cd_AW_isCell 9 rfl) rfl rfl (rt_f (by simp [pIx, *]))
  · refine v_iload_n (dk cd_AW_isCell 2 rfl) rfl ?_
    refine v_aload_n (dk cd_AW_isCell 3 rfl) rfl ?_
    refine v_getf (dk cd_AW_isCell 4 rfl) fg_AW_19_AW (by assumption) (by rfl) ?_
    refine v_icmp_ge (tgt := 16) (dk cd_AW_isCell 5 rfl) rfl (fun q9 => ?_) (fun q9 => ?_)
    · refine v_iconst (v := 0) (dk cd_AW_isCell 8 rfl) (by decide) ?_
      exact v_zret (dk cd_AW_isCell 9 rfl) rfl rfl (rt_f (by simp [pIx, *]))
    · refine v_iconst (v := 1) (dk cd_AW_isCell 6 rfl) (by decide) ?_
      refine v_goto (tgt := 17) (dk cd_AW_isCell 7 rfl) rfl ?_
      exact v_zret (dk cd_AW_isCell 9 rfl) rfl rfl (rt_t (by simp_all [pIx]))
set_option maxRecDepth 100000 in
set_option maxHeartbeats 4000000 in
theorem AW_isHandset_ok {x : Int32} (I : Inv F S ad A) : V (gg u) d mm_AW_isHandset 0 [some (.ref (ad 0 0)), some (.int x)] [] A (Rt (some (.int (b2i (pIx x (sHs S).length)))) A) := by
  have h0 := I.aw
  refine v_iload_n (dk cd_AW_isHandset 0 rfl) rfl ?_
  refine v_if_lt (tgt := 16) (dk cd_AW_isHandset 1 rfl) rfl (fun q1 => ?_) (fun q1 => ?_)
  · refine v_iconst (v := 0) (dk cd_AW_isHandset 8 rfl) (by decide) ?_
    exact v_zret (dk cd_AW_isHandset 9 rfl) rfl rfl (rt_f (by simp [pIx, *]))
  · refine v_iload_n (dk cd_AW_isHandset 2 rfl) rfl ?_
    refine v_aload_n (dk cd_AW_isHandset 3 rfl) rfl ?_
    refine v_getf (dk cd_AW_isHandset 4 rfl) fg_AW_40_AW (by assumption) (by rfl) ?_
    refine v_icmp_ge (tgt := 16) (dk cd_AW_isHandset 5 rfl) rfl (fun q9 => ?_) (fun q9 => ?_)
    · refine v_iconst (v := 0) (dk cd_AW_isHandset 8 rfl) (by decide) ?_
      exact v_zret (dk cd_AW_isHandset 9 rfl) rfl rfl (rt_f (by simp [pIx, *]))
    · refine v_iconst (v := 1) (dk cd_AW_isHandset 6 rfl) (by decide) ?_
      refine v_goto (tgt := 17) (dk cd_AW_isHandset 7 rfl) rfl ?_
      exact v_zret (dk cd_AW_isHandset 9 rfl) rfl rfl (rt_t (by simp_all [pIx]))
set_option maxRecDepth 100000 in
set_option maxHeartbeats 4000000 in
theorem Te_byteCount_lp (H : TeAt A o t) : ∀ k, k ≤ 3 → V (gg u) d mm_Te_byteCount 4 [some (.ref o), some (.int (nI (tsum t k))), some (.int (nI k))] [] A (Rt (some (.int (nI (tsum t 3)))) A) := by
  refine up_ind 3 ?_
  intro k ih hk
  obtain ⟨h3, h30, ba, la, h1, h2⟩ := H
  refine v_iload_n (dk cd_Te_byteCount 4 rfl) rfl ?_
  refine v_iconst (v := nI 3) (dk cd_Te_byteCount 5 rfl) (by decide) ?_
  refine v_icmp_geN (tgt := 24) (dk cd_Te_byteCount 6 rfl) rfl (by omega) (by omega) (fun q6 => ?_) (fun q6 => ?_)
  · refine v_iload_n (dk cd_Te_byteCount 16 rfl) rfl ?_
    exact v_iret (dk cd_Te_byteCount 17 rfl) rfl (rt_of (by rw [show k = 3 by omega]))
  · refine v_iload_n (dk cd_Te_byteCount 7 rfl) rfl ?_
    refine v_aload_n (dk cd_Te_byteCount 8 rfl) rfl ?_
    refine v_getf (dk cd_Te_byteCount 9 rfl) fg_Te_16_Te (by assumption) (by rfl) ?_
    refine v_iload_n (dk cd_Te_byteCount 10 rfl) rfl ?_
    refine v_ialdN (j := 0) (dk cd_Te_byteCount 11 rfl) (by assumption) (by decide) rfl (by omega) (tl_at h3 (by omega)) ?_
    refine v_iaddN (dk cd_Te_byteCount 12 rfl) ?_
    refine v_istore_n (dk cd_Te_byteCount 13 rfl) (by decide) rfl ?_
    refine v_iincN (dk cd_Te_byteCount 14 rfl) rfl (by decide) rfl ?_
    refine v_goto (tgt := 4) (dk cd_Te_byteCount 15 rfl) rfl ?_
    exact ih q6 (by omega)
set_option maxRecDepth 100000 in
set_option maxHeartbeats 4000000 in
theorem Te_byteCount_ok (H : TeAt A o t) : V (gg u) d mm_Te_byteCount 0 [some (.ref o), none, none] [] A (Rt (some (.int (nI (tsum t 3)))) A) := by
  refine v_iconst (v := nI 0) (dk cd_Te_byteCount 0 rfl) (by decide) ?_
  refine v_istore_n (dk cd_Te_byteCount 1 rfl) (by decide) rfl ?_
  refine v_iconst (v := nI 0) (dk cd_Te_byteCount 2 rfl) (by decide) ?_
  refine v_istore_n (dk cd_Te_byteCount 3 rfl) (by decide) rfl ?_
  exact Te_byteCount_lp H 0 (by omega)
set_option maxRecDepth 100000 in
set_option maxHeartbeats 4000000 in
theorem Te_offers_ok {l : Nat} (H : TeAt A o t) (hl : l < 3) : V (gg u) d mm_Te_offers 0 [some (.ref o), some (.int (nI l))] [] A (Rt (some (.int (b2i (decide (0 < tl t l))))) A) := by
  obtain ⟨h3, h30, ba, la, h1, h2⟩ := H
  have hb := h30 l
  refine v_aload_n (dk cd_Te_offers 0 rfl) rfl ?_
  refine v_getf (dk cd_Te_offers 1 rfl) fg_Te_16_Te (by assumption) (by rfl) ?_
  refine v_iload_n (dk cd_Te_offers 2 rfl) rfl ?_
  refine v_ialdN (j := 0) (dk cd_Te_offers 3 rfl) (by assumption) (by decide) rfl (by omega) (tl_at h3 (by omega)) ?_
  refine v_if_le (tgt := 13) (dk cd_Te_offers 4 rfl) rfl (fun q6 => ?_) (fun q6 => ?_)
  · refine v_iconst (v := 0) (dk cd_Te_offers 7 rfl) (by decide) ?_
    exact v_zret (dk cd_Te_offers 8 rfl) rfl rfl (rt_f (decide_eq_false (by have := (nI_le0 (by omega)).mp q6; omega)))
  · refine v_iconst (v := 1) (dk cd_Te_offers 5 rfl) (by decide) ?_
    refine v_goto (tgt := 14) (dk cd_Te_offers 6 rfl) rfl ?_
    exact v_zret (dk cd_Te_offers 8 rfl) rfl rfl (rt_t (decide_eq_true (nI_gt0 q6)))
set_option maxRecDepth 100000 in
set_option maxHeartbeats 4000000 in
theorem Te_pagesOf_ok {l : Nat} (H : TeAt A o t) (hl : l < 3) : V (gg u) d mm_Te_pagesOf 0 [some (.ref o), some (.int (nI l))] [] A (Rt (some (.int (nI (pgs (tl t l))))) A) := by
  obtain ⟨h3, h30, ba, la, h1, h2⟩ := H
  have hb := h30 l
  refine v_aload_n (dk cd_Te_pagesOf 0 rfl) rfl ?_
  refine v_getf (dk cd_Te_pagesOf 1 rfl) fg_Te_16_Te (by assumption) (by rfl) ?_
  refine v_iload_n (dk cd_Te_pagesOf 2 rfl) rfl ?_
  refine v_ialdN (j := 0) (dk cd_Te_pagesOf 3 rfl) (by assumption) (by decide) rfl (by omega) (tl_at h3 (by omega)) ?_
  refine v_bipush (v := nI 10) (dk cd_Te_pagesOf 4 rfl) (by decide) ?_
  refine v_iaddN (dk cd_Te_pagesOf 5 rfl) ?_
  refine v_iconst (v := nI 1) (dk cd_Te_pagesOf 6 rfl) (by decide) ?_
  refine v_isubN (dk cd_Te_pagesOf 7 rfl) (by omega) ?_
  refine v_bipush (v := nI 10) (dk cd_Te_pagesOf 8 rfl) (by decide) ?_
  refine v_idivN (dk cd_Te_pagesOf 9 rfl) (by omega) (by omega) ?_
  exact v_iret (dk cd_Te_pagesOf 10 rfl) rfl rt_ret
set_option maxRecDepth 100000 in
set_option maxHeartbeats 4000000 in
theorem Te_bytesOfPage_ok {l : Nat} {n : Int32} (H : TeAt A o t) (hl : l < 3) : V (gg u) d mm_Te_bytesOfPage 0 [some (.ref o), some (.int (nI l)), some (.int n)] [] A (Rt (some (.int (mn 10 (nI (tl t l) - n * 10)))) A) := by
  obtain ⟨h3, h30, ba, la, h1, h2⟩ := H
  refine v_bipush (v := 10) (dk cd_Te_bytesOfPage 0 rfl) (by decide) ?_
  refine v_aload_n (dk cd_Te_bytesOfPage 1 rfl) rfl ?_
  refine v_getf (dk cd_Te_bytesOfPage 2 rfl) fg_Te_16_Te (by assumption) (by rfl) ?_
  refine v_iload_n (dk cd_Te_bytesOfPage 3 rfl) rfl ?_
  refine v_ialdN (j := 0) (dk cd_Te_bytesOfPage 4 rfl) (by assumption) (by decide) rfl (by omega) (tl_at h3 (by omega)) ?_
  refine v_iload_n (dk cd_Te_bytesOfPage 5 rfl) rfl ?_
  refine v_bipush (v := 10) (dk cd_Te_bytesOfPage 6 rfl) (by decide) ?_
  refine v_imul (dk cd_Te_bytesOfPage 7 rfl) ?_
  refine v_isub (dk cd_Te_bytesOfPage 8 rfl) ?_
  refine v_mmin (dk cd_Te_bytesOfPage 9 rfl) ma_Te_20 (by simp [Value.category]) ?_
  exact v_iret (dk cd_Te_bytesOfPage 10 rfl) rfl rt_ret
set_option maxRecDepth 100000 in
set_option maxHeartbeats 4000000 in
theorem Me_canBeSpoken_ok {ar te : Nat} {a : Pts} (h0 : A.1 o = some (5, [.ref ar, .ref te])) (HA : ArAt A ar a) (HT : TeAt A te t) : V (gg u) (d + 5) mm_Me_canBeSpoken 0 [some (.ref o)] [] A (Rt (some (.int (b2i (decide (0 < tsum t 3) && cSimple a)))) A) := by
  have HA0 := HA
  have HT0 := HT
  obtain ⟨h8, xa, ya, vx, vy, k1, -⟩ := HA
  obtain ⟨h3, h30, ba, la, k2, -⟩ := HT
  have hb := tsum_le h30 3
  refine v_aload_n (dk cd_Me_canBeSpoken 0 rfl) rfl ?_
  refine v_getf (dk cd_Me_canBeSpoken 1 rfl) fg_Me_19_Me (by assumption) (by rfl) ?_
  refine v_rv (r := ("AreaWarnings$Texts", TT_Te, 2)) (dk cd_Me_canBeSpoken 2 rfl) cv_Me_23 rfl (by assumption) (as := []) rfl rfl (Nat.le_of_ble_eq_true rfl) (by simp [Value.category]) (Te_byteCount_ok HT0) ?_
  refine v_if_le (tgt := 24) (dk cd_Me_canBeSpoken 3 rfl) rfl (fun q7 => ?_) (fun q7 => ?_)
  · refine v_iconst (v := 0) (dk cd_Me_canBeSpoken 10 rfl) (by decide) ?_
    exact v_zret (dk cd_Me_canBeSpoken 11 rfl) rfl rfl (rt_f (by first | rw [decide_eq_false (by have := (nI_le0 (by omega)).mp q7; omega), Bool.false_and] | rw [q17, Bool.and_false]))
  · refine v_aload_n (dk cd_Me_canBeSpoken 4 rfl) rfl ?_
    refine v_getf (dk cd_Me_canBeSpoken 5 rfl) fg_Me_10_Me (by assumption) (by rfl) ?_
    refine v_rv (r := ("AreaWarnings$Area", TT_Ar, 3)) (dk cd_Me_canBeSpoken 6 rfl) cv_Me_27 rfl (by assumption) (as := []) rfl rfl (Nat.le_of_ble_eq_true rfl) (by simp [Value.category]) (Ar_isSimple_ok HA0) ?_
    refine v_ifeqB (tgt := 24) (dk cd_Me_canBeSpoken 7 rfl) rfl (fun q17 => ?_) (fun q17 => ?_)
    · refine v_iconst (v := 0) (dk cd_Me_canBeSpoken 10 rfl) (by decide) ?_
      exact v_zret (dk cd_Me_canBeSpoken 11 rfl) rfl rfl (rt_f (by first | rw [decide_eq_false (by have := (nI_le0 (by omega)).mp q7; omega), Bool.false_and] | rw [q17, Bool.and_false]))
    · refine v_iconst (v := 1) (dk cd_Me_canBeSpoken 8 rfl) (by decide) ?_
      refine v_goto (tgt := 25) (dk cd_Me_canBeSpoken 9 rfl) rfl ?_
      exact v_zret (dk cd_Me_canBeSpoken 11 rfl) rfl rfl (rt_t (by rw [q17, decide_eq_true (nI_gt0 q7)]; rfl))
set_option maxRecDepth 100000 in
set_option maxHeartbeats 4000000 in
theorem Sp_isDue_ok {c b n : Int32} {x0 x1 x2 x3 x6 x7 x8 : Value} (h0 : A.1 o = some (6, [x0, x1, x2, x3, .int b, .int n, x6, x7, x8])) (hn : ¬ n = 0) : V (gg u) d mm_Sp_isDue 0 [some (.ref o), some (.int c)] [] A (Rt (some (.int (b2i (due c b n)))) A) := by
  refine v_iload_n (dk cd_Sp_isDue 0 rfl) rfl ?_
  refine v_aload_n (dk cd_Sp_isDue 1 rfl) rfl ?_
  refine v_getf (dk cd_Sp_isDue 2 rfl) fg_Sp_9_Sp (by assumption) (by rfl) ?_
  refine v_icmp_lt (tgt := 26) (dk cd_Sp_isDue 3 rfl) rfl (fun q5 => ?_) (fun q5 => ?_)
  · refine v_iconst (v := 0) (dk cd_Sp_isDue 14 rfl) (by decide) ?_
    exact v_zret (dk cd_Sp_isDue 15 rfl) rfl rfl (rt_f (by simp [due, *]))
  · refine v_iload_n (dk cd_Sp_isDue 4 rfl) rfl ?_
    refine v_aload_n (dk cd_Sp_isDue 5 rfl) rfl ?_
    refine v_getf (dk cd_Sp_isDue 6 rfl) fg_Sp_9_Sp (by assumption) (by rfl) ?_
    refine v_isub (dk cd_Sp_isDue 7 rfl) ?_
    refine v_aload_n (dk cd_Sp_isDue 8 rfl) rfl ?_
    refine v_getf (dk cd_Sp_isDue 9 rfl) fg_Sp_15_Sp (by assumption) (by rfl) ?_
    refine v_irem (dk cd_Sp_isDue 10 rfl) hn ?_
    refine v_if_ne (tgt := 26) (dk cd_Sp_isDue 11 rfl) rfl (fun q19 => ?_) (fun q19 => ?_)
    · refine v_iconst (v := 0) (dk cd_Sp_isDue 14 rfl) (by decide) ?_
      exact v_zret (dk cd_Sp_isDue 15 rfl) rfl rfl (rt_f (by simp [due, *]))
    · refine v_iconst (v := 1) (dk cd_Sp_isDue 12 rfl) (by decide) ?_
      refine v_goto (tgt := 27) (dk cd_Sp_isDue 13 rfl) rfl ?_
      exact v_zret (dk cd_Sp_isDue 15 rfl) rfl rfl (rt_t (by simp_all [due]))
end R1
end
section
/-! reads over the state: find, lists, languages, pages -/
def wId (S : SS) (w : Nat) : Int32 := ((sWarn S).getD w (0, none)).1
def fnd (S : SS) (id : Int32) : Option Nat := (sOrd S).find? fun w => decide (wId S w = id)
/-- numbers in their bounds -/
def Wf (S : SS) : Prop := (sOrd S).length = (sWarn S).length ∧ (sWarn S).length ≤ 12 ∧ (sCells S).length ≤ 8 ∧ (sVers S).length ≤ 40 ∧ (sHs S).length ≤ 3 ∧ (∀ w ∈ sOrd S, w < (sWarn S).length) ∧
  (∀ (w : Nat) (x : WaS), (sWarn S)[w]? = some x → ∃ v, x.2 = some v ∧ v < (sVers S).length) ∧ (∀ (i : Nat) (v : VeS), (sVers S)[i]? = some v → v.1 < (sWarn S).length)
theorem wId_of {S : SS} {w : Nat} {x : WaS} (h : (sWarn S)[w]? = some x) : wId S w = x.1 := by simp [wId, h]
section R2
variable {u : Ux} {d : Nat} {A : AH} {o : Nat} {t : Tx} {F : Nat → Option AC} {S : SS} {ad : Nat → Nat → Nat}
set_option maxRecDepth 100000 in
set_option maxHeartbeats 4000000 in
theorem AW_findWarning_lp {id : Int32} (I : Inv F S ad A) (Wf : Wf S) : ∀ k, k ≤ (sOrd S).length ∧ ((sOrd S).drop k).find? (fun w => decide (wId S w = id)) = fnd S id → V (gg u) d mm_AW_findWarning 2 [some (.ref (ad 0 0)), some (.int id), some (.int (nI k))] [] A (Rt (some (rfN ad 20 (fnd S id))) A) := by
  refine up_ind (sWarn S).length ?_
  intro k ih ⟨hk, hf⟩
  have h0 := I.aw
  obtain ⟨x2, h1, gb, h2, h2l⟩ := I.top (κ := 2) (by omega)
  subst h2
  have w1 := Wf.1
  have w2 := Wf.2.1
  refine v_iload_n (dk cd_AW_findWarning 2 rfl) rfl ?_
  refine v_aload_n (dk cd_AW_findWarning 3 rfl) rfl ?_
  refine v_getf (dk cd_AW_findWarning 4 rfl) fg_AW_28_AW (by assumption) (by rfl) ?_
  refine v_icmp_geN (tgt := 36) (dk cd_AW_findWarning 5 rfl) rfl (by omega) (by omega) (fun q7 => ?_) (fun q7 => ?_)
  · refine v_null (dk cd_AW_findWarning 20 rfl) ?_
    exact v_aret (dk cd_AW_findWarning 21 rfl) rfl (Or.inl ⟨_, rfl⟩) (Or.inl rfl) (rt_of (by rw [← hf, List.drop_eq_nil_of_le (by omega)]; rfl))
  · have hko : k < (sOrd S).length := by omega
    have hdr : (sOrd S).drop k = (sOrd S)[k] :: (sOrd S).drop (k + 1) := List.drop_eq_getElem_cons hko
    have hwn : (sOrd S)[k] < (sWarn S).length := Wf.2.2.2.2.2.1 _ (List.getElem_mem hko)
    have hw := I.warn (List.getElem?_eq_getElem hwn)
    have hid := wId_of (List.getElem?_eq_getElem hwn)
    refine v_aload_n (dk cd_AW_findWarning 6 rfl) rfl ?_
    refine v_getf (dk cd_AW_findWarning 7 rfl) fg_AW_24_AW (by assumption) (by rfl) ?_
    refine v_iload_n (dk cd_AW_findWarning 8 rfl) rfl ?_
    refine v_aaldN (j := 5) (dk cd_AW_findWarning 9 rfl) (by assumption) (by decide) rfl rfl (by omega) (by rw [List.getElem?_append_left (by simp; omega), List.getElem?_map, List.getElem?_eq_getElem hko]; rfl) ?_
    refine v_getf (dk cd_AW_findWarning 10 rfl) fg_AW_226_Wa (by assumption) (by rfl) ?_
    refine v_iload_n (dk cd_AW_findWarning 11 rfl) rfl ?_
    refine v_icmp_ne (tgt := 30) (dk cd_AW_findWarning 12 rfl) rfl (fun q20 => ?_) (fun q20 => ?_)
    · refine v_iincN (dk cd_AW_findWarning 18 rfl) rfl (by decide) rfl ?_
      refine v_goto (tgt := 2) (dk cd_AW_findWarning 19 rfl) rfl ?_
      exact ih q7 ⟨by omega, by rw [← hf, hdr, List.find?_cons_of_neg (by simpa [hid] using q20)]⟩
    · refine v_aload_n (dk cd_AW_findWarning 13 rfl) rfl ?_
      refine v_getf (dk cd_AW_findWarning 14 rfl) fg_AW_24_AW (by assumption) (by rfl) ?_
      refine v_iload_n (dk cd_AW_findWarning 15 rfl) rfl ?_
      refine v_aaldN (j := 5) (dk cd_AW_findWarning 16 rfl) (by assumption) (by decide) rfl rfl (by omega) (by rw [List.getElem?_append_left (by simp; omega), List.getElem?_map, List.getElem?_eq_getElem hko]; rfl) ?_
      exact v_aret (dk cd_AW_findWarning 17 rfl) rfl (Or.inl ⟨_, rfl⟩) (Or.inr ⟨_, rfl⟩) (rt_of (by rw [← hf, hdr, List.find?_cons_of_pos (by simpa [hid] using q20)]; rfl))
set_option maxRecDepth 100000 in
set_option maxHeartbeats 4000000 in
theorem AW_findWarning_ok {id : Int32} (I : Inv F S ad A) (Wf : Wf S) : V (gg u) d mm_AW_findWarning 0 [some (.ref (ad 0 0)), some (.int id), none] [] A (Rt (some (rfN ad 20 (fnd S id))) A) := by
  refine v_iconst (v := nI 0) (dk cd_AW_findWarning 0 rfl) (by decide) ?_
  refine v_istore_n (dk cd_AW_findWarning 1 rfl) (by decide) rfl ?_
  exact AW_findWarning_lp I Wf 0 ⟨by omega, by rw [List.drop_zero]; rfl⟩
def lsts (S : SS) (c : CeS) (w : Nat) : Bool := c.2.2.1.any fun v => decide (((sVers S).getD v (0, (0, 0, 0), none)).1 = w)
theorem Inv.lst (I : Inv F S ad A) {i : Nat} {c : CeS} (hc : (sCells S)[i]? = some c) : ∃ gb, A.1 (ad (if c.2.1.2 then 16 else 15) i) = some (107, (c.2.2.1.map fun v => Value.ref (ad 21 v)) ++ gb) ∧ c.2.2.1.length + gb.length = 12 := by
  cases hf : c.2.1.2 with
  | true =>
    obtain ⟨x, h1, gb, h2, h3⟩ := I.cell (κ := 16) (by omega) (by omega) hc
    rw [hf] at h2 h3
    exact ⟨gb, by simpa [h2] using h1, by simpa using h3⟩
  | false =>
    obtain ⟨x, h1, gb, h2, h3⟩ := I.cell (κ := 15) (by omega) (by omega) hc
    rw [hf] at h2 h3
    exact ⟨gb, by simpa [h2] using h1, by simpa using h3⟩
theorem Inv.cob (I : Inv F S ad A) {i : Nat} {c : CeS} (hc : (sCells S)[i]? = some c) : A.1 (ad 14 i) = some (3, [.int (nI i), .int c.1.1, .int c.1.2.1, .int c.1.2.2, .int (b2i c.2.1.1), .ref (ad (if c.2.1.2 then 16 else 15) i), .int (nI c.2.2.1.length), .ref (ad (if c.2.1.2 then 15 else 16) i), .ref (ad 17 i), .ref (ad 18 i), .ref (ad 19 i), .int (nI c.2.2.2.length)]) := by
  obtain ⟨x, h1, h2⟩ := I.cell (κ := 14) (by omega) (by omega) hc
  have h3 : x = _ := h2
  rw [h1, h3]
theorem Inv.hob (I : Inv F S ad A) {i : Nat} {h : HaS} (hh : (sHs S)[i]? = some h) : A.1 (ad 23 i) = some (4, [.int h.1.1, .ref (ad 24 i), .int (nI h.2.1.length), .int h.1.2.1, .int h.1.2.2.1, .int h.1.2.2.2, .ref (ad 25 i), .ref (ad 26 i), .ref (ad 27 i), .ref (ad 28 i), .ref (ad 29 i), .ref (ad 30 i), .int (nI h.2.2.2.length)]) := by
  obtain ⟨x, h1, h2⟩ := I.hs (κ := 23) (by omega) (by omega) hh
  have h3 : x = _ := h2
  rw [h1, h3]
theorem Inv.wne (I : Inv F S ad A) {w w' : Nat} (h1 : w < (sWarn S).length) (h2 : w' < (sWarn S).length) (h : ad 20 w = ad 20 w') : w = w' :=
  (I.1 20 w 20 w' (Or.inr (Or.inr (Or.inr (Or.inl ⟨rfl, h1⟩)))) (Or.inr (Or.inr (Or.inr (Or.inl ⟨rfl, h2⟩)))) h).2
theorem Inv.vne (I : Inv F S ad A) {w w' : Nat} (h1 : w < (sVers S).length) (h2 : w' < (sVers S).length) (h : ad 21 w = ad 21 w') : w = w' :=
  (I.1 21 w 21 w' (Or.inr (Or.inr (Or.inr (Or.inr (Or.inl ⟨rfl, h1⟩))))) (Or.inr (Or.inr (Or.inr (Or.inr (Or.inl ⟨rfl, h2⟩))))) h).2
theorem map_app {α : Type} {l : List α} {f : α → Value} {gb : List Value} {k : Nat} (h : k < l.length) : (l.map f ++ gb)[k]? = some (f l[k]) := by
  rw [List.getElem?_append_left (by simpa using h), List.getElem?_map, List.getElem?_eq_getElem h]; rfl
set_option maxRecDepth 100000 in
set_option maxHeartbeats 4000000 in
theorem Ce_listsWarning_lp {i w : Nat} {c : CeS} (I : Inv F S ad A) (Wf : Wf S) (hc : (sCells S)[i]? = some c) (hb : ∀ v ∈ c.2.2.1, v < (sVers S).length) (hw : w < (sWarn S).length) : ∀ k, k ≤ c.2.2.1.length ∧ (c.2.2.1.drop k).any (fun v => decide (((sVers S).getD v (0, (0, 0, 0), none)).1 = w)) = lsts S c w → V (gg u) d mm_Ce_listsWarning 2 [some (.ref (ad 14 i)), some (.ref (ad 20 w)), some (.int (nI k))] [] A (Rt (some (.int (b2i (lsts S c w)))) A) := by
  refine up_ind c.2.2.1.length ?_
  intro k ih ⟨hk, hf⟩
  have h0 := I.cob hc
  obtain ⟨gb, h1, h2l⟩ := I.lst hc
  refine v_iload_n (dk cd_Ce_listsWarning 2 rfl) rfl ?_
  refine v_aload_n (dk cd_Ce_listsWarning 3 rfl) rfl ?_
  refine v_getf (dk cd_Ce_listsWarning 4 rfl) fg_Ce_34_Ce (by assumption) (by rfl) ?_
  refine v_icmp_geN (tgt := 31) (dk cd_Ce_listsWarning 5 rfl) rfl (by omega) (by omega) (fun q7 => ?_) (fun q7 => ?_)
  · refine v_iconst (v := 0) (dk cd_Ce_listsWarning 17 rfl) (by decide) ?_
    exact v_zret (dk cd_Ce_listsWarning 18 rfl) rfl rfl (rt_f (by rw [← hf, List.drop_eq_nil_of_le (by omega)]; rfl))
  · have hdr : c.2.2.1.drop k = c.2.2.1[k] :: c.2.2.1.drop (k + 1) := List.drop_eq_getElem_cons q7
    have hvn := hb _ (List.getElem_mem q7)
    have hve := List.getElem?_eq_getElem hvn
    obtain ⟨vl, hv⟩ := I.verV hve
    have hvw := Wf.2.2.2.2.2.2.2 _ _ hve
    refine v_aload_n (dk cd_Ce_listsWarning 6 rfl) rfl ?_
    refine v_getf (dk cd_Ce_listsWarning 7 rfl) fg_Ce_30_Ce (by assumption) (by rfl) ?_
    refine v_iload_n (dk cd_Ce_listsWarning 8 rfl) rfl ?_
    refine v_aaldN (j := 7) (dk cd_Ce_listsWarning 9 rfl) (by assumption) (by decide) rfl rfl (by omega) (map_app q7) ?_
    refine v_getf (dk cd_Ce_listsWarning 10 rfl) (fgV fg_Ce_72_Sp fg_Ce_72_Ca _) (by assumption) (by rfl) ?_
    refine v_aload_n (dk cd_Ce_listsWarning 11 rfl) rfl ?_
    refine v_acmp_neR (tgt := 25) (dk cd_Ce_listsWarning 12 rfl) rfl (fun q20 => ?_) (fun q20 => ?_)
    · refine v_iincN (dk cd_Ce_listsWarning 15 rfl) rfl (by decide) rfl ?_
      refine v_goto (tgt := 2) (dk cd_Ce_listsWarning 16 rfl) rfl ?_
      exact ih q7 ⟨by omega, by rw [← hf, hdr, List.any_cons, decide_eq_false (by simpa [hve] using fun e => q20 (by rw [e])), Bool.false_or]⟩
    · refine v_iconst (v := 1) (dk cd_Ce_listsWarning 13 rfl) (by decide) ?_
      exact v_zret (dk cd_Ce_listsWarning 14 rfl) rfl rfl (rt_t (by rw [← hf, hdr, List.any_cons, decide_eq_true (by simpa [hve] using I.wne hvw hw q20)]; rfl))
set_option maxRecDepth 100000 in
set_option maxHeartbeats 4000000 in
theorem Ce_listsWarning_ok {i w : Nat} {c : CeS} (I : Inv F S ad A) (Wf : Wf S) (hc : (sCells S)[i]? = some c) (hb : ∀ v ∈ c.2.2.1, v < (sVers S).length) (hw : w < (sWarn S).length) : V (gg u) d mm_Ce_listsWarning 0 [some (.ref (ad 14 i)), some (.ref (ad 20 w)), none] [] A (Rt (some (.int (b2i (lsts S c w)))) A) := by
  refine v_iconst (v := nI 0) (dk cd_Ce_listsWarning 0 rfl) (by decide) ?_
  refine v_istore_n (dk cd_Ce_listsWarning 1 rfl) (by decide) rfl ?_
  exact Ce_listsWarning_lp I Wf hc hb hw 0 ⟨by omega, by rw [List.drop_zero]; rfl⟩
end R2
end
section
/-! reads: the newest version, live warnings, what belongs to a cell, pages, what is shown -/
def vD : VeS := (0, (0, 0, 0), none)
def vAt (S : SS) (v : Nat) : VeS := (sVers S).getD v vD
def nwI (S : SS) (w : Nat) : Nat := (((sWarn S).getD w (0, none)).2).getD 0
def nwV (S : SS) (w : Nat) : VeS := vAt S (nwI S w)
def verOf (S : SS) (id : Int32) : Int32 := match fnd S id with
  | none => 0
  | some w => (nwV S w).2.1.1
def live (S : SS) (id : Int32) : Option Nat := match fnd S id with
  | none => none
  | some w => if (nwV S w).2.1.2.2 ≤ sClock S then none else if (nwV S w).2.2.isSome then some w else none
theorem fnd_lt {S : SS} {id : Int32} {w : Nat} (Wf : Wf S) (h : fnd S id = some w) : w < (sWarn S).length := Wf.2.2.2.2.2.1 w (List.mem_of_find?_eq_some h)
section R3
variable {u : Ux} {d : Nat} {A : AH} {o : Nat} {t : Tx} {F : Nat → Option AC} {S : SS} {ad : Nat → Nat → Nat}
/-- a warning's cell and its newest version's cell -/
theorem Inv.wn (I : Inv F S ad A) (Wf : Wf S) {w : Nat} (h : w < (sWarn S).length) : A.1 (ad 20 w) = some (8, [.int (wId S w), .int (nI w), .ref (ad 21 (nwI S w))]) ∧ (sVers S)[nwI S w]? = some (nwV S w) := by
  have h1 := List.getElem?_eq_getElem h
  obtain ⟨v, h2, h3⟩ := Wf.2.2.2.2.2.2.1 _ _ h1
  have h4 := I.warn h1
  have e1 : nwI S w = v := by simp [nwI, h1, h2]
  refine ⟨by rw [h4, wId_of h1, h2, e1]; rfl, ?_⟩
  unfold nwV vAt
  rw [e1, List.getElem?_eq_getElem h3]
  simp [h3]
set_option maxRecDepth 100000 in
set_option maxHeartbeats 4000000 in
theorem AW_version_ok {id : Int32} (I : Inv F S ad A) (Wf : Wf S) : V (gg u) (d + 1) mm_AW_version 0 [some (.ref (ad 0 0)), some (.int id), none] [] A (Rt (some (.int (verOf S id))) A) := by
  have h0 := I.aw
  have HF := AW_findWarning_ok (u := u) (d := d) (id := id) I Wf
  cases hf : fnd S id with
  | none =>
    rw [hf] at HF
    refine v_aload_n (dk cd_AW_version 0 rfl) rfl ?_
    refine v_iload_n (dk cd_AW_version 1 rfl) rfl ?_
    refine v_rv (r := ("AreaWarnings", TT_AW, 9)) (dk cd_AW_version 2 rfl) cv_AW_128 rfl (by assumption) (as := [_]) rfl rfl (Nat.le_of_ble_eq_true rfl) (by simp [Value.category]) HF ?_
    refine v_astoreN_n (dk cd_AW_version 3 rfl) (by decide) rfl ?_
    refine v_aloadN_n (dk cd_AW_version 4 rfl) rfl ?_
    refine v_ifnonnullN (dk cd_AW_version 5 rfl) ?_
    refine v_iconst (v := 0) (dk cd_AW_version 6 rfl) (by decide) ?_
    refine v_goto (tgt := 21) (dk cd_AW_version 7 rfl) rfl ?_
    exact v_iret (dk cd_AW_version 11 rfl) rfl (rt_of (by simp [verOf, hf]))
  | some w =>
    rw [hf] at HF
    obtain ⟨h1, hv⟩ := I.wn Wf (fnd_lt Wf hf)
    obtain ⟨vl, h2⟩ := I.verV hv
    refine v_aload_n (dk cd_AW_version 0 rfl) rfl ?_
    refine v_iload_n (dk cd_AW_version 1 rfl) rfl ?_
    refine v_rv (r := ("AreaWarnings", TT_AW, 9)) (dk cd_AW_version 2 rfl) cv_AW_128 rfl (by assumption) (as := [_]) rfl rfl (Nat.le_of_ble_eq_true rfl) (by simp [Value.category]) HF ?_
    refine v_astore_n (dk cd_AW_version 3 rfl) (by decide) rfl ?_
    refine v_aload_n (dk cd_AW_version 4 rfl) rfl ?_
    refine v_ifnonnull (tgt := 14) (dk cd_AW_version 5 rfl) rfl ?_
    refine v_aload_n (dk cd_AW_version 8 rfl) rfl ?_
    refine v_getf (dk cd_AW_version 9 rfl) fg_AW_63_Wa (by assumption) (by rfl) ?_
    refine v_getf (dk cd_AW_version 10 rfl) (fgV fg_AW_162_Sp fg_AW_162_Ca _) (by assumption) (by rfl) ?_
    exact v_iret (dk cd_AW_version 11 rfl) rfl (rt_of (by simp [verOf, hf]))
set_option maxRecDepth 100000 in
set_option maxHeartbeats 4000000 in
theorem AW_findLive_ok {id : Int32} (I : Inv F S ad A) (Wf : Wf S) : V (gg u) (d + 1) mm_AW_findLive 0 [some (.ref (ad 0 0)), some (.int id), none] [] A (Rt (some (rfN ad 20 (live S id))) A) := by
  have h0 := I.aw
  have HF := AW_findWarning_ok (u := u) (d := d) (id := id) I Wf
  cases hf : fnd S id with
  | none =>
    rw [hf] at HF
    refine v_aload_n (dk cd_AW_findLive 0 rfl) rfl ?_
    refine v_iload_n (dk cd_AW_findLive 1 rfl) rfl ?_
    refine v_rv (r := ("AreaWarnings", TT_AW, 9)) (dk cd_AW_findLive 2 rfl) cv_AW_128 rfl (by assumption) (as := [_]) rfl rfl (Nat.le_of_ble_eq_true rfl) (by simp [Value.category]) HF ?_
    refine v_astoreN_n (dk cd_AW_findLive 3 rfl) (by decide) rfl ?_
    refine v_aloadN_n (dk cd_AW_findLive 4 rfl) rfl ?_
    refine v_ifnullN (tgt := 34) (dk cd_AW_findLive 5 rfl) rfl ?_
    refine v_null (dk cd_AW_findLive 16 rfl) ?_
    exact v_aret (dk cd_AW_findLive 17 rfl) rfl (Or.inl ⟨_, rfl⟩) (Or.inl rfl) (rt_of (by simp [live, hf, rfN, *]))
  | some w =>
    rw [hf] at HF
    obtain ⟨h1, hv⟩ := I.wn Wf (fnd_lt Wf hf)
    obtain ⟨vl, h2⟩ := I.verV hv
    cases hsp : (nwV S w).2.2 with
    | none =>
      have hkd : vKind (nwV S w) = 2 := by simp [vKind, hsp]
      have h2' := h2
      rw [hkd] at h2'
      refine v_aload_n (dk cd_AW_findLive 0 rfl) rfl ?_
      refine v_iload_n (dk cd_AW_findLive 1 rfl) rfl ?_
      refine v_rv (r := ("AreaWarnings", TT_AW, 9)) (dk cd_AW_findLive 2 rfl) cv_AW_128 rfl (by assumption) (as := [_]) rfl rfl (Nat.le_of_ble_eq_true rfl) (by simp [Value.category]) HF ?_
      refine v_astore_n (dk cd_AW_findLive 3 rfl) (by decide) rfl ?_
      refine v_aload_n (dk cd_AW_findLive 4 rfl) rfl ?_
      refine v_ifnull (dk cd_AW_findLive 5 rfl) ?_
      refine v_aload_n (dk cd_AW_findLive 6 rfl) rfl ?_
      refine v_getf (dk cd_AW_findLive 7 rfl) fg_AW_63_Wa (by assumption) (by rfl) ?_
      refine v_getf (dk cd_AW_findLive 8 rfl) (fgV fg_AW_156_Sp fg_AW_156_Ca _) (by assumption) (by rfl) ?_
      refine v_aload_n (dk cd_AW_findLive 9 rfl) rfl ?_
      refine v_getf (dk cd_AW_findLive 10 rfl) fg_AW_9_AW (by assumption) (by rfl) ?_
      refine v_icmp_le (tgt := 34) (dk cd_AW_findLive 11 rfl) rfl (fun q21 => ?_) (fun q21 => ?_)
      · refine v_null (dk cd_AW_findLive 16 rfl) ?_
        exact v_aret (dk cd_AW_findLive 17 rfl) rfl (Or.inl ⟨_, rfl⟩) (Or.inl rfl) (rt_of (by simp [live, hf, rfN, *]))
      · refine v_aload_n (dk cd_AW_findLive 12 rfl) rfl ?_
        refine v_getf (dk cd_AW_findLive 13 rfl) fg_AW_63_Wa (by assumption) (by rfl) ?_
        refine v_instY (dk cd_AW_findLive 14 rfl) iy_AW_149_Ca (by assumption) ?_
        refine v_if_eq (tgt := 36) (dk cd_AW_findLive 15 rfl) rfl (fun q => absurd q (by decide)) (fun _ => ?_)
        refine v_null (dk cd_AW_findLive 16 rfl) ?_
        exact v_aret (dk cd_AW_findLive 17 rfl) rfl (Or.inl ⟨_, rfl⟩) (Or.inl rfl) (rt_of (by simp [live, hf, rfN, *]))
    | some sp =>
      have hkd : vKind (nwV S w) = 6 := by simp [vKind, hsp]
      have h2' := h2
      rw [hkd] at h2'
      refine v_aload_n (dk cd_AW_findLive 0 rfl) rfl ?_
      refine v_iload_n (dk cd_AW_findLive 1 rfl) rfl ?_
      refine v_rv (r := ("AreaWarnings", TT_AW, 9)) (dk cd_AW_findLive 2 rfl) cv_AW_128 rfl (by assumption) (as := [_]) rfl rfl (Nat.le_of_ble_eq_true rfl) (by simp [Value.category]) HF ?_
      refine v_astore_n (dk cd_AW_findLive 3 rfl) (by decide) rfl ?_
      refine v_aload_n (dk cd_AW_findLive 4 rfl) rfl ?_
      refine v_ifnull (dk cd_AW_findLive 5 rfl) ?_
      refine v_aload_n (dk cd_AW_findLive 6 rfl) rfl ?_
      refine v_getf (dk cd_AW_findLive 7 rfl) fg_AW_63_Wa (by assumption) (by rfl) ?_
      refine v_getf (dk cd_AW_findLive 8 rfl) (fgV fg_AW_156_Sp fg_AW_156_Ca _) (by assumption) (by rfl) ?_
      refine v_aload_n (dk cd_AW_findLive 9 rfl) rfl ?_
      refine v_getf (dk cd_AW_findLive 10 rfl) fg_AW_9_AW (by assumption) (by rfl) ?_
      refine v_icmp_le (tgt := 34) (dk cd_AW_findLive 11 rfl) rfl (fun q21 => ?_) (fun q21 => ?_)
      · refine v_null (dk cd_AW_findLive 16 rfl) ?_
        exact v_aret (dk cd_AW_findLive 17 rfl) rfl (Or.inl ⟨_, rfl⟩) (Or.inl rfl) (rt_of (by simp [live, hf, rfN, *]))
      · refine v_aload_n (dk cd_AW_findLive 12 rfl) rfl ?_
        refine v_getf (dk cd_AW_findLive 13 rfl) fg_AW_63_Wa (by assumption) (by rfl) ?_
        refine v_instNo (dk cd_AW_findLive 14 rfl) in_AW_149_Sp (by assumption) ?_
        refine v_if_eq (tgt := 36) (dk cd_AW_findLive 15 rfl) rfl (fun _ => ?_) (fun q => absurd rfl q)
        refine v_aload_n (dk cd_AW_findLive 18 rfl) rfl ?_
        exact v_aret (dk cd_AW_findLive 19 rfl) rfl (Or.inl ⟨_, rfl⟩) (Or.inr ⟨_, rfl⟩) (rt_of (by simp [live, hf, rfN, *]))
end R3
end
section
/-! throwing a new exception: the walk's start is moved to where it stands, so that all that was there before is known to stay -/
theorem stand_rebase {p : Program} {l : Launch} {e : Env} {R : Room} {s : State} {m : MethodId} {args : Array Value} {below : List Frame} {meth : Method} {c : Code} {T : State} {locs : List Loc} {cells slots : Nat} (X : Stand p l e R s m args below meth c T locs cells slots) (hc : cells ≤ R.cells) (hs : slots ≤ R.slots) :
    Stand p l e { frames := R.frames, cells := R.cells - cells, slots := R.slots - slots, locals := R.locals } (T.setFrames (.invoking m args :: below)) m args below meth c T [] 0 0 := by
  obtain ⟨g₀, hg₀⟩ := X.frames_eq
  have hcur : T.cur < T.threads.size := State.cur_lt_of_frames hg₀
  have hfr : (T.setFrames (.invoking m args :: below)).frames = .invoking m args :: below := State.frames_setFrames _ hcur
  have hm : ∀ q, T.vm.method? q = s.vm.method? q := fun q => X.warmed.alike.method? q
  have hroom := X.room
  simp only [State.hasRoom, Bool.and_eq_true, decide_eq_true_eq] at hroom
  have hloc : (T.setFrames (.invoking m args :: below)).localsInUse = s.localsInUse := by
    rw [State.localsInUse_invoking hfr (meth := meth) (c := c) X.method' X.code, State.localsInUse_invoking X.frames X.method X.code]
  have hh := X.heapSize
  have hu := X.used
  have hlen : (T.setFrames (.invoking m args :: below)).frames.length = s.frames.length := by rw [hfr, X.frames]
  have hlim : e.platform.stackLimits (T.setFrames (.invoking m args :: below)).me = e.platform.stackLimits s.me := by rw [State.stackLimits_setFrames, X.limits]
  have hby : (T.setFrames (.invoking m args :: below)).me.stackBytes = s.me.stackBytes := by rw [State.stackBytes_setFrames, X.bytes]
  refine ⟨X.admits, X.cas, X.clock, hfr, ?_, ?_, X.method', X.code, X.here, X.tail, State.WarmedH.refl _, ?_, ?_, ?_⟩
  · simp only [State.hasRoom, Bool.and_eq_true, decide_eq_true_eq, hloc, hlen, hlim, hby]
    refine ⟨⟨⟨hroom.1.1.1, ?_⟩, ?_⟩, X.book⟩
    · show T.heap.size + (R.cells - cells) ≤ _
      have := hroom.1.1.2
      omega
    · show T.slotsUsed + (R.slots - slots) ≤ _
      have := hroom.1.2
      omega
  · have hh := X.hears
    cases below with
    | nil => simpa [State.hears, hm] using hh
    | cons f r => cases f <;> simp_all [State.hears, State.code?_eq]
  · rw [State.stackLimits_setFrames]
  · rw [State.stackBytes_setFrames]
  · obtain ⟨t, ht, -⟩ := State.frames_cons hfr
    have h := (State.sameButNew.refl (T.setFrames (.invoking m args :: below)) ht).setFrames T.frames (State.cur_lt_of_frames hfr)
    rw [State.setFrames_setFrames] at h
    obtain ⟨th, hth, -⟩ := State.frames_cons hg₀
    rw [State.setFrames_self hth] at h
    exact h
end
section
def exN : List String := ["java/lang/RuntimeException", "java/lang/Exception"]
/-- the words for 'throw new E()' -/
def TW (WS YS : List Cond) (own : String) (i1 i2 : Nat) (cls : String) : Prop := Cond.classLink own i1 cls ∈ WS ∧ Cond.instantiable cls 6 ∈ WS ∧ Cond.initialized cls ∈ WS ∧ Bundle.fit cls = true ∧ ∀ a ∈ Bundle.ownAtoms0 own i2 cls exN, a ∈ WS ∨ a ∈ YS
section VT
variable {g : Gx} {d : Nat} {y : MT} {pc : Nat} {L : Lo} {st : List Value} {A : AH} {Φ : Out → AH → Prop}
set_option maxHeartbeats 2000000 in
theorem v_throw {i1 i2 ex : Nat} {cls : String} {cX : ClassId} (hd0 : decode y.2.1 pc = .ok (.new i1, 3)) (hd3 : decode y.2.1 (pc + 3) = .ok (.dup, 1)) (hd4 : decode y.2.1 (pc + 4) = .ok (.invokespecial i2, 3)) (hd7 : decode y.2.1 (pc + 7) = .ok (.athrow, 1))
    (hex : (gE g)[ex]? = some (cls, cX)) (hw : TW (gW g) (gY g) y.1.cls i1 i2 cls) (hh : y.2.2.2.2 = []) (hd : 4 ≤ d) (hl : A.2.1 + 1 ≤ gL g) (hs : A.2.2 + 6 ≤ gS g) (hst : (st.map fun v => v.category).sum ≤ 9) (h : Φ (.inr A.2.1) (anew A (200 + ex, []) 6)) : V g d y pc L st A Φ := by
  intro p l e R s m args below meth c z C H locs cells slots ls X T hTh Y
  obtain ⟨hx, hb, hml, -, hlk, hown, -, hexc, hT, hfr, hlo, hgl, hgs, htr⟩ := C
  have hHR : HR g A T.heap := by rw [hTh]; exact X.2.1
  have hc1 := X.2.2.1
  have hz1 := X.2.2.2.1
  have hle := hHR.2.2.2.1
  have hls := hHR.2.2.2.2.1
  have hsz := hHR.1
  have Y2 := stand_rebase Y (by omega) (by omega)
  have hT2 : TF g (T.setFrames (.invoking m args :: below)) args := hT.moved (U := T.setFrames (.invoking m args :: below)) Y.warmed
  have hown2 : (T.setFrames (.invoking m args :: below)).vm.findClass y.1.cls = some m.cls := by
    show T.vm.findClass _ = _
    rw [Y.warmed.alike.findClass]; exact hown
  have hfX : (T.setFrames (.invoking m args :: below)).vm.findClass cls = some cX := hT2.2.2.2.2.1 ex _ hex
  obtain ⟨w1, w2, w3, hfit, hat⟩ := hw
  have hat2 : ∀ a ∈ Bundle.ownAtoms0 y.1.cls i2 cls exN, a.before args (T.setFrames (.invoking m args :: below)) = true := fun a ha => by
    rcases hat a ha with h1 | h1
    · exact hT2.1 a h1
    · exact (hT2.2.2.2.2.2.2.1 a h1).2 _ (gH g) args hHR.2.2.1 (hT2.2.2.2.2.2.1 a h1)
  have hout : ∀ x ∈ c.exceptionTable.toList, covers x (pc + 4 + 3) = false := by
    rw [hexc, hh]
    intro x hx
    cases hx
  have K : W p l e { frames := R.frames, cells := R.cells - cells, slots := R.slots - slots, locals := R.locals } (T.setFrames (.invoking m args :: below)) m args below meth c T.heap [] 0 0
      (fun U => U.status = .running ∧ Ended U below (.threw T.heap.size) ∧ (T.setFrames (.invoking m args :: below)).WarmedH U.vm ∧ (T.setFrames (.invoking m args :: below)).sameButNew ({ U with vm := (T.setFrames (.invoking m args :: below)).vm } : State) [] 1 6 ∧
        ∃ ce, U.heap[T.heap.size]? = some ce ∧ (T.setFrames (.invoking m args :: below)).vm.findClass cls = some ce.cls ∧ ce.vm = .none) (F0 m pc ls st) := by
    refine W.newcK hx hb hown2 (hT2.1 _ w1) (hT2.1 _ w2) (hT2.1 _ w3) rfl hd0 (by show 0 + 1 ≤ R.cells - cells; omega) (by show 0 + 6 ≤ R.slots - slots; omega) hfX rfl fun H1 kC hkC e1 z1 o1 => ?_
    refine lv_dup hx hb hd3 rfl ?_
    have hsum : ((Value.ref T.heap.size :: st).map fun v => v.category).sum = 1 + (st.map fun v => v.category).sum := by rw [List.map_cons, List.sum_cons]; rfl
    intro W1 hW1 XW
    obtain ⟨U, u1, u2, u3, u4, u5, ce, u6, u7⟩ := XW.ctorThrow0 hx htr (own := y.1.cls) (cls := cls) (names := exN) (ic := i2) hown2 hfit (by decide +kernel) hat2 (fun x hx => by cases hx) hfX hkC (by rw [hW1]; exact e1) (Nat.le_refl _)
      (g := F0 m (pc + 4) ls (.ref T.heap.size :: .ref T.heap.size :: st)) rfl (by rw [hml]; exact X.1.1) rfl rfl rfl (by rw [hb]; exact hd4) (by rw [hb]; exact hd7) hout (by show 2 + 3 < R.frames; omega)
      (by show 2 * 0 + ((Value.ref T.heap.size :: st).map fun v => v.category).sum + (13 * (2 + 1) + 41) ≤ R.locals; rw [hsum]; omega) hlk
    exact ⟨U, u1, u2, u3, u4, u5, ce, u6, u7.cls, u7.vm⟩
  obtain ⟨U, hsteps, hrun, hend, hW2, hsame, ce, hce, hcls, hvm⟩ := K T rfl Y2
  obtain ⟨q1, q2, q3, q4, q5, q6⟩ := hsame
  have q2' : T.heap.size ≤ U.heap.size := q2
  have q3' : U.heap.size ≤ T.heap.size + 1 := q3
  have hlt := (Array.getElem?_eq_some_iff.mp hce).1
  have hB : T.sameButNew ({ U with vm := T.vm } : State) [] 1 6 := by
    refine ⟨?_, q2, q3, q4, q5, q6⟩
    refine q1.trans ?_
    rw [State.setFrames_setFrames]
    rfl
  have hold : ∀ q, q < T.heap.size → U.heap[q]? = T.heap[q]? := by
    intro q hq
    obtain ⟨c', r1, r2, r3, r4⟩ := q6 q _ (Array.getElem?_eq_getElem hq)
    have r1' : U.heap[q]? = some c' := r1
    have e1 : c'.slots = (T.heap[q]).slots := Array.ext_getElem? (fun i => r4 i (by simp))
    rw [r1', Array.getElem?_eq_getElem hq, r2, e1]
  refine ⟨U, hsteps, .threw T.heap.size, locs ++ [], cells + 1, slots + 6, .inr A.2.1, anew A (200 + ex, []) 6, hrun, hend, State.WarmedH.trans Y.warmed hW2, Y.same.trans (hB.setVm s.vm), by simpa using X.2.2.2.2, h, ?_, by simp only [anew]; omega, by simp only [anew]; omega, by rw [hsz], ex, by simp [anew]⟩
  refine hHR.new (cell := ce) (by rw [← hsz]; exact hce) (Or.inr (Or.inr ⟨by simp, hvm, (cls, cX), by simpa using hex, ?_⟩)) (by omega) (fun q hq => hold q (by omega)) hl hs
  exact Option.some.inj (hcls.symm.trans hfX)
end VT
end
section
/-! the state changes: one component at a time -/
theorem tw_54 : TW WS YS "AreaWarnings" 54 56 "java/lang/IllegalArgumentException" := ⟨in_at 231 (by decide +kernel), in_at 232 (by decide +kernel), by decide +kernel, by decide +kernel, by decide +kernel⟩
theorem tw_57 : TW WS YS "AreaWarnings" 57 59 "java/lang/IllegalStateException" := ⟨in_at 295 (by decide +kernel), in_at 296 (by decide +kernel), by decide +kernel, by decide +kernel, by decide +kernel⟩
theorem tw_125 : TW WS YS "AreaWarnings" 125 127 "java/lang/UnsupportedOperationException" := ⟨in_at 467 (by decide +kernel), in_at 468 (by decide +kernel), by decide +kernel, by decide +kernel, by decide +kernel⟩
theorem tw_193 : TW WS YS "AreaWarnings" 193 195 "java/lang/IndexOutOfBoundsException" := ⟨in_at 607 (by decide +kernel), in_at 608 (by decide +kernel), by decide +kernel, by decide +kernel, by decide +kernel⟩
section UP
variable {F : Nat → Option AC} {S : SS} {ad : Nat → Nat → Nat} {A : AH}
theorem Inv.upd {S' : SS} {A' : AH} (I : Inv F S ad A) (h2 : A'.2 = A.2) (hLV : ∀ κ i, LV S' κ i ↔ LV S κ i) (D : Nat → Nat → Prop) (hag : ∀ q, (∀ κ i, LV S κ i → D κ i → q ≠ ad κ i) → A'.1 q = A.1 q)
    (hD : ∀ κ i, LV S κ i → D κ i → ∃ x, A'.1 (ad κ i) = some x ∧ CT S' ad κ i x) (hcl : ∀ κ i x, LV S κ i → ¬ D κ i → CT S ad κ i x → CT S' ad κ i x) : Inv F S' ad A' := by
  obtain ⟨i1, i2, i3, i4⟩ := I
  refine ⟨fun κ i κ' i' h h' e => i1 κ i κ' i' ((hLV κ i).mp h) ((hLV κ' i').mp h') e, fun κ i h => ?_, fun q x hq => ?_, fun q x hq => ?_⟩
  · have h := (hLV κ i).mp h
    by_cases hd : D κ i
    · exact hD κ i h hd
    · obtain ⟨x, h3, h4⟩ := i2 κ i h
      refine ⟨x, ?_, hcl κ i x h hd h4⟩
      rw [hag]
      · exact h3
      · intro κ' i' h' hd' e
        obtain ⟨rfl, rfl⟩ := i1 κ i κ' i' h h' e
        exact hd hd'
  · obtain ⟨h3, h4⟩ := i3 q x hq
    refine ⟨?_, fun κ i h => h4 κ i ((hLV κ i).mp h)⟩
    rw [hag q (fun κ i h _ e => h4 κ i h e.symm)]
    exact h3
  · rw [h2]
    by_cases hc : ∃ κ i, LV S κ i ∧ D κ i ∧ q = ad κ i
    · obtain ⟨κ, i, h, -, rfl⟩ := hc
      obtain ⟨y, h3, -⟩ := i2 κ i h
      exact i4 _ y h3
    · rw [hag q (fun κ i h hd e => hc ⟨κ, i, h, hd, e⟩)] at hq
      exact i4 q x hq
def setCe (S : SS) (i : Nat) (c : CeS) : SS := (S.1, (sCells S).set i c, S.2.2)
def setHs (S : SS) (i : Nat) (h : HaS) : SS := (S.1, S.2.1, S.2.2.1, S.2.2.2.1, S.2.2.2.2.1, (sHs S).set i h)
def setTy (S : SS) (m : Pts × Tx) : SS := (S.1, S.2.1, m, S.2.2.2)
def setCk (S : SS) (k : Int32) : SS := (k, S.2)
theorem msgOf_setCe (S : SS) (i j : Nat) (c : CeS) : msgOf (setCe S i c) j = msgOf S j := rfl
theorem LV_setCe (S : SS) (i : Nat) (c : CeS) (κ j : Nat) : LV (setCe S i c) κ j ↔ LV S κ j := by
  unfold LV
  rw [show (sCells (setCe S i c)).length = (sCells S).length from List.length_set]
  exact Iff.rfl
theorem LV_setHs (S : SS) (i : Nat) (h : HaS) (κ j : Nat) : LV (setHs S i h) κ j ↔ LV S κ j := by
  unfold LV
  rw [show (sHs (setHs S i h)).length = (sHs S).length from List.length_set]
  exact Iff.rfl
theorem LV_setTy (S : SS) (m : Pts × Tx) (κ j : Nat) : LV (setTy S m) κ j ↔ LV S κ j := by
  have h : (msgOf (setTy S m) j).isSome = (msgOf S j).isSome := by
    unfold msgOf setTy
    split <;> simp
  simp only [LV, h]
  rfl
theorem LV_setCk (S : SS) (k : Int32) (κ j : Nat) : LV (setCk S k) κ j ↔ LV S κ j := Iff.rfl
theorem CTop_len {S S' : SS} {ad : Nat → Nat → Nat} {κ : Nat} {x : AC} (h0 : sClock S' = sClock S) (h1 : (sCells S').length = (sCells S).length) (h2 : (sWarn S').length = (sWarn S).length) (h3 : (sVers S').length = (sVers S).length) (h4 : (sHs S').length = (sHs S).length) (h5 : sOrd S' = sOrd S) (h : CTop S ad κ x) : CTop S' ad κ x := by
  unfold CTop at h ⊢
  rw [h0, h1, h2, h3, h4, h5]
  exact h
/-- one cell's record -/
theorem Inv.updCell {A' : AH} {i : Nat} {c' : CeS} (I : Inv F S ad A) (hi : i < (sCells S).length) (h2 : A'.2 = A.2) (hag : ∀ q, (∀ κ, 14 ≤ κ → κ < 20 → q ≠ ad κ i) → A'.1 q = A.1 q) (hnew : ∀ κ, 14 ≤ κ → κ < 20 → ∃ x, A'.1 (ad κ i) = some x ∧ CCell c' ad i κ x) : Inv F (setCe S i c') ad A' := by
  refine I.upd h2 (LV_setCe S i c') (fun κ j => 14 ≤ κ ∧ κ < 20 ∧ j = i) (fun q hq => hag q (fun κ h3 h4 => hq κ i (Or.inr (Or.inr (Or.inl ⟨h3, h4, hi⟩))) ⟨h3, h4, rfl⟩)) ?_ ?_
  · rintro κ j - ⟨h3, h4, rfl⟩
    obtain ⟨x, h5, h6⟩ := hnew κ h3 h4
    refine ⟨x, h5, fun h => by omega, fun _ h => by omega, fun _ _ c hc => ?_, fun h => by omega, fun h _ => by omega, fun h _ => by omega⟩
    have e : ((sCells S).set j c')[j]? = some c := hc
    rw [List.getElem?_set_self hi] at e
    cases e
    exact h6
  · intro κ j x _ hd hx
    obtain ⟨x1, x2, x3, x4, x5, x6⟩ := hx
    refine ⟨fun h => CTop_len (S := S) rfl List.length_set rfl rfl rfl rfl (x1 h), x2, fun h3 h4 c hc => ?_, x4, x5, x6⟩
    have hne : i ≠ j := fun e => hd ⟨h3, h4, e.symm⟩
    have e : ((sCells S).set i c')[j]? = some c := hc
    rw [List.getElem?_set_ne hne] at e
    exact x3 h3 h4 c e
/-- one handset's record -/
theorem Inv.updHs {A' : AH} {i : Nat} {h' : HaS} (I : Inv F S ad A) (hi : i < (sHs S).length) (h2 : A'.2 = A.2) (hag : ∀ q, (∀ κ, 23 ≤ κ → κ ≤ 30 → q ≠ ad κ i) → A'.1 q = A.1 q) (hnew : ∀ κ, 23 ≤ κ → κ ≤ 30 → ∃ x, A'.1 (ad κ i) = some x ∧ CHs h' ad i κ x) : Inv F (setHs S i h') ad A' := by
  refine I.upd h2 (LV_setHs S i h') (fun κ j => 23 ≤ κ ∧ κ ≤ 30 ∧ j = i) (fun q hq => hag q (fun κ h3 h4 => hq κ i (Or.inr (Or.inr (Or.inr (Or.inr (Or.inr (Or.inr ⟨h3, h4, hi⟩)))))) ⟨h3, h4, rfl⟩)) ?_ ?_
  · rintro κ j - ⟨h3, h4, rfl⟩
    obtain ⟨x, h5, h6⟩ := hnew κ h3 h4
    refine ⟨x, h5, fun h => by omega, fun _ h => by omega, fun _ h => by omega, fun h => by omega, fun _ h => by omega, fun _ _ c hc => ?_⟩
    have e : ((sHs S).set j h')[j]? = some c := hc
    rw [List.getElem?_set_self hi] at e
    cases e
    exact h6
  · intro κ j x _ hd hx
    obtain ⟨x1, x2, x3, x4, x5, x6⟩ := hx
    refine ⟨fun h => CTop_len (S := S) rfl rfl rfl rfl List.length_set rfl (x1 h), x2, x3, x4, x5, fun h3 h4 c hc => ?_⟩
    have hne : i ≠ j := fun e => hd ⟨h3, h4, e.symm⟩
    have e : ((sHs S).set i h')[j]? = some c := hc
    rw [List.getElem?_set_ne hne] at e
    exact x6 h3 h4 c e
/-- what is typed -/
theorem Inv.updTy {A' : AH} {m' : Pts × Tx} (I : Inv F S ad A) (h2 : A'.2 = A.2) (hag : ∀ q, (∀ κ, 4 ≤ κ → κ < 14 → q ≠ ad κ 99) → A'.1 q = A.1 q) (hnew : ∀ κ, 4 ≤ κ → κ < 14 → ∃ x, A'.1 (ad κ 99) = some x ∧ CMsg m' ad 99 κ x) : Inv F (setTy S m') ad A' := by
  refine I.upd h2 (LV_setTy S m') (fun κ j => 4 ≤ κ ∧ κ < 14 ∧ j = 99) (fun q hq => hag q (fun κ h3 h4 => hq κ 99 (Or.inr (Or.inl ⟨h3, h4, fun _ => rfl, by simp [msgOf]⟩)) ⟨h3, h4, rfl⟩)) ?_ ?_
  · rintro κ j - ⟨h3, h4, rfl⟩
    obtain ⟨x, h5, h6⟩ := hnew κ h3 h4
    refine ⟨x, h5, fun h => by omega, fun _ _ m hm => ?_, fun h _ => by omega, fun h => by omega, fun h _ => by omega, fun h _ => by omega⟩
    have e : m = m' := by simpa [msgOf, setTy] using hm.symm
    rw [e]; exact h6
  · intro κ j x _ hd hx
    obtain ⟨x1, x2, x3, x4, x5, x6⟩ := hx
    refine ⟨x1, fun h3 h4 m hm => x2 h3 h4 m ?_, x3, x4, x5, x6⟩
    have hne : ¬ j = 99 := fun e => hd ⟨h3, h4, e⟩
    simpa [msgOf, setTy, hne] using hm
/-- the clock -/
theorem Inv.updCk (I : Inv F S ad A) {k : Int32} {x : AC} (hx : x = (0, [.int k, .ref (ad 1 0), .int (nI (sCells S).length), .ref (ad 2 0), .int (nI (sWarn S).length), .int (nI (sVers S).length), .ref (ad 3 0), .int (nI (sHs S).length), .ref (ad 4 99)])) : Inv F (setCk S k) ad (aset A (ad 0 0) x) := by
  refine I.upd (aset_two A _ x) (LV_setCk S k) (fun κ j => κ = 0) (fun q hq => aset_ne A x (hq 0 0 (Or.inl ⟨by omega, rfl⟩) rfl)) ?_ ?_
  · rintro κ j hl rfl
    have hj : j = 0 := by rcases hl with h | h | h | h | h | h | h <;> omega
    subst hj
    exact ⟨x, aset_same A _ x, fun _ => hx, fun h => by omega, fun h => by omega, fun h => by omega, fun h => by omega, fun h => by omega⟩
  · intro κ j x' _ hd hx'
    obtain ⟨x1, x2, x3, x4, x5, x6⟩ := hx'
    refine ⟨fun h => ?_, x2, x3, x4, x5, x6⟩
    have h1 := x1 h
    unfold CTop at h1 ⊢
    match κ, hd, h1 with
    | 1, _, h1 => exact h1
    | 2, _, h1 => exact h1
    | (k + 3), _, h1 => exact h1
end UP
end
section
/-! writers of what is typed -/
/-- an end that gives a value and a state, no cell made -/
def Ps (v : Option Value) (F : Nat → Option AC) (S' : SS) (ad : Nat → Nat → Nat) (A : AH) : Out → AH → Prop := fun r A' => r = .inl v ∧ Inv F S' ad A' ∧ A'.2 = A.2
theorem ps_no {v : Option Value} {F : Nat → Option AC} {S' : SS} {ad : Nat → Nat → Nat} {A : AH} : ∀ a A', ¬ Ps v F S' ad A (.inr a) A' := fun a A' h => by cases h.1
theorem ps_of {v v' : Option Value} {F : Nat → Option AC} {S' : SS} {ad : Nat → Nat → Nat} {A A' : AH} (I : Inv F S' ad A') (h2 : A'.2 = A.2) (h : v' = v) : Ps v F S' ad A (.inl v') A' := ⟨by rw [h], I, h2⟩
/-- a public method's end: the state, the answer or the number of the exception, and how much was made -/
def PubR (F : Nat → Option AC) (ad : Nat → Nat → Nat) (A : AH) (q : SS × (Value ⊕ Nat)) : Out → AH → Prop := fun r A' => ∃ ad', ad' 0 0 = ad 0 0 ∧ Inv F q.1 ad' A' ∧ A'.2.1 ≤ A.2.1 + 16 ∧ A'.2.2 ≤ A.2.2 + 400 ∧
  (match q.2 with | .inl v => r = .inl (some v) | .inr k => ∃ a, r = .inr a ∧ A'.1 a = some (200 + k, []))
section W1
variable {u : Ux} {d : Nat} {A : AH} {F : Nat → Option AC} {S : SS} {ad : Nat → Nat → Nat}
theorem Inv.ne (I : Inv F S ad A) {κ i κ' i' : Nat} (h : LV S κ i) (h' : LV S κ' i') (hne : κ ≠ κ' ∨ i ≠ i') : ad κ i ≠ ad κ' i' := fun e => by
  obtain ⟨e1, e2⟩ := I.1 κ i κ' i' h h' e
  rcases hne with q | q
  · exact q e1
  · exact q e2
theorem Inv.exc (I : Inv F S ad A) (x : AC) (n : Nat) : Inv F S ad (anew A x n) := by
  obtain ⟨i1, i2, i3, i4⟩ := I
  have hk : ∀ q y, A.1 q = some y → (anew A x n).1 q = some y := fun q y h => by
    have := i4 q y h
    simp only [anew]
    rw [if_neg (by omega)]
    exact h
  refine ⟨i1, fun κ i h => ?_, fun q y h => ⟨hk q y (i3 q y h).1, (i3 q y h).2⟩, fun q y h => ?_⟩
  · obtain ⟨y, h1, h2⟩ := i2 κ i h
    exact ⟨y, hk _ y h1, h2⟩
  · simp only [anew] at h ⊢
    split at h
    · omega
    · have := i4 q y h; omega
theorem pub_thr {q : SS × (Value ⊕ Nat)} {k : Nat} (I : Inv F S ad A) (hq : q = (S, .inr k)) : PubR F ad A q (.inr A.2.1) (anew A (200 + k, []) 6) := by
  subst hq
  exact ⟨ad, rfl, I.exc _ _, by simp only [anew]; omega, by simp only [anew]; omega, _, rfl, by simp [anew]⟩
theorem pub_ret {q : SS × (Value ⊕ Nat)} {A' : AH} {S' : SS} {v : Value} (I : Inv F S' ad A') (h2 : A'.2 = A.2) (hq : q = (S', .inl v)) : PubR F ad A q (.inl (some v)) A' := by
  subst hq
  exact ⟨ad, rfl, I, by rw [h2]; omega, by rw [h2]; omega, rfl⟩
theorem LV_msg {S : SS} {κ : Nat} (h1 : 4 ≤ κ) (h2 : κ < 14) : LV S κ 99 := Or.inr (Or.inl ⟨h1, h2, fun _ => rfl, by simp [msgOf]⟩)
theorem msg_ty : msgOf S 99 = some (sTyped S) := by simp [msgOf]
theorem CMsg_tx {a a' : Pts} {t : Tx} {i κ : Nat} {x : AC} (h : CMsg (a, t) ad i κ x) (h5 : κ ≠ 5) (h6 : κ ≠ 6) (h7 : κ ≠ 7) : CMsg (a', t) ad i κ x := by
  unfold CMsg at h ⊢
  split <;> simp_all
theorem k4 {κ : Nat} (h1 : 4 ≤ κ) (h2 : κ < 14) : κ = 4 ∨ κ = 5 ∨ κ = 6 ∨ κ = 7 ∨ κ = 8 ∨ κ = 9 ∨ κ = 10 ∨ κ = 11 ∨ κ = 12 ∨ κ = 13 := by omega
/-- the array's next value is written: one more is known -/
theorem ArG.app {k n : Nat} {l gb : List Value} {v : Value} (h : l.length + gb.length = n) (hl : l.length < n) : ArG k n (l ++ [v]) (k, (l ++ gb).set l.length v) := by
  cases gb with
  | nil => simp at h; omega
  | cons b r =>
    refine ⟨r, ?_, by simp at h ⊢; omega⟩
    rw [List.set_append_right _ _ (Nat.le_refl _)]
    simp
set_option maxRecDepth 100000 in
set_option maxHeartbeats 4000000 in
theorem Ar_addCorner_ok {x y : Int32} {a : Pts} {t : Tx} (I : Inv F S ad A) (hm : sTyped S = (a, t)) (ha : a.length < 8) : V (gg u) d mm_Ar_addCorner 0 [some (.ref (ad 5 99)), some (.int x), some (.int y)] [] A (Ps (some (.int (nI (a.length + 1)))) F (setTy S (a ++ [(x, y)], t)) ad A) := by
  have hty := msg_ty (S := S)
  rw [hm] at hty
  obtain ⟨x5, h5, e5⟩ := I.msg (κ := 5) (by omega) (by omega) (by omega) hty
  obtain ⟨x6, h6, g6, e6, l6⟩ := I.msg (κ := 6) (by omega) (by omega) (by omega) hty
  obtain ⟨x7, h7, g7, e7, l7⟩ := I.msg (κ := 7) (by omega) (by omega) (by omega) hty
  have e5 : x5 = _ := e5
  subst e5 e6 e7
  simp only at h5 h6 h7 l6 l7
  have n1 := I.ne (LV_msg (S := S) (κ := 5) (by omega) (by omega)) (LV_msg (κ := 6) (by omega) (by omega)) (Or.inl (by omega))
  have n2 := I.ne (LV_msg (S := S) (κ := 5) (by omega) (by omega)) (LV_msg (κ := 7) (by omega) (by omega)) (Or.inl (by omega))
  have n3 := I.ne (LV_msg (S := S) (κ := 6) (by omega) (by omega)) (LV_msg (κ := 7) (by omega) (by omega)) (Or.inl (by omega))
  simp only [List.length_map] at l6 l7
  refine v_aload_n (dk cd_Ar_addCorner 0 rfl) rfl ?_
  refine v_getf (dk cd_Ar_addCorner 1 rfl) fg_Ar_9_Ar (by repeat first | assumption | exact aset_same _ _ _ | refine (aset_ne _ _ (by first | assumption | exact Ne.symm (by assumption))).trans ?_) (by rfl) ?_
  refine v_aload_n (dk cd_Ar_addCorner 2 rfl) rfl ?_
  refine v_getf (dk cd_Ar_addCorner 3 rfl) fg_Ar_18_Ar (by repeat first | assumption | exact aset_same _ _ _ | refine (aset_ne _ _ (by first | assumption | exact Ne.symm (by assumption))).trans ?_) (by rfl) ?_
  refine v_iload_n (dk cd_Ar_addCorner 4 rfl) rfl ?_
  refine v_iastN (j := 0) (dk cd_Ar_addCorner 5 rfl) (by repeat first | assumption | exact aset_same _ _ _ | refine (aset_ne _ _ (by first | assumption | exact Ne.symm (by assumption))).trans ?_) (by decide) rfl (by omega) (by simp; omega) ?_
  refine v_aload_n (dk cd_Ar_addCorner 6 rfl) rfl ?_
  refine v_getf (dk cd_Ar_addCorner 7 rfl) fg_Ar_15_Ar (by repeat first | assumption | exact aset_same _ _ _ | refine (aset_ne _ _ (by first | assumption | exact Ne.symm (by assumption))).trans ?_) (by rfl) ?_
  refine v_aload_n (dk cd_Ar_addCorner 8 rfl) rfl ?_
  refine v_getf (dk cd_Ar_addCorner 9 rfl) fg_Ar_18_Ar (by repeat first | assumption | exact aset_same _ _ _ | refine (aset_ne _ _ (by first | assumption | exact Ne.symm (by assumption))).trans ?_) (by rfl) ?_
  refine v_iload_n (dk cd_Ar_addCorner 10 rfl) rfl ?_
  refine v_iastN (j := 0) (dk cd_Ar_addCorner 11 rfl) (by repeat first | assumption | exact aset_same _ _ _ | refine (aset_ne _ _ (by first | assumption | exact Ne.symm (by assumption))).trans ?_) (by decide) rfl (by omega) (by simp; omega) ?_
  refine v_aload_n (dk cd_Ar_addCorner 12 rfl) rfl ?_
  refine v_dup (dk cd_Ar_addCorner 13 rfl) rfl ?_
  refine v_getf (dk cd_Ar_addCorner 14 rfl) fg_Ar_18_Ar (by repeat first | assumption | exact aset_same _ _ _ | refine (aset_ne _ _ (by first | assumption | exact Ne.symm (by assumption))).trans ?_) (by rfl) ?_
  refine v_iconst (v := nI 1) (dk cd_Ar_addCorner 15 rfl) (by decide) ?_
  refine v_iaddN (dk cd_Ar_addCorner 16 rfl) ?_
  refine v_putf (dk cd_Ar_addCorner 17 rfl) fp_Ar_18_Ar (fun h => by cases h) (by repeat first | assumption | exact aset_same _ _ _ | refine (aset_ne _ _ (by first | assumption | exact Ne.symm (by assumption))).trans ?_) rfl rfl ?_
  refine v_aload_n (dk cd_Ar_addCorner 18 rfl) rfl ?_
  refine v_getf (dk cd_Ar_addCorner 19 rfl) fg_Ar_18_Ar (by repeat first | assumption | exact aset_same _ _ _ | refine (aset_ne _ _ (by first | assumption | exact Ne.symm (by assumption))).trans ?_) (by rfl) ?_
  refine v_iret (dk cd_Ar_addCorner 20 rfl) rfl (ps_of (I.updTy rfl (fun q hq => ?_) (fun κ h1 h2 => ?_)) rfl rfl)
  · rw [aset_ne _ _ (hq 5 (by omega) (by omega)), aset_ne _ _ (hq 7 (by omega) (by omega)), aset_ne _ _ (hq 6 (by omega) (by omega))]
  · by_cases k5 : κ = 5
    · subst k5
      exact ⟨_, aset_same _ _ _, by simp [CMsg]⟩
    by_cases k6 : κ = 6
    · subst k6
      refine ⟨_, (aset_ne _ _ (Ne.symm n1)).trans ((aset_ne _ _ n3).trans (aset_same _ _ _)), ?_⟩
      have h9 := ArG.app (k := 100) (v := .int x) (show (a.map fun p => Value.int p.1).length + g6.length = 8 by simpa using l6) (by simpa using ha)
      simpa [CMsg] using h9
    by_cases k7 : κ = 7
    · subst k7
      refine ⟨_, (aset_ne _ _ (Ne.symm n2)).trans (aset_same _ _ _), ?_⟩
      have h9 := ArG.app (k := 100) (v := .int y) (show (a.map fun p => Value.int p.2).length + g7.length = 8 by simpa using l7) (by simpa using ha)
      simpa [CMsg] using h9
    · obtain ⟨xx, hh1, hh2⟩ := I.msg (κ := κ) h1 h2 (fun _ => rfl) hty
      refine ⟨xx, ?_, CMsg_tx hh2 k5 k6 k7⟩
      rw [aset_ne _ _ (I.ne (LV_msg h1 h2) (LV_msg (κ := 5) (by omega) (by omega)) (Or.inl k5)), aset_ne _ _ (I.ne (LV_msg h1 h2) (LV_msg (κ := 7) (by omega) (by omega)) (Or.inl k7)), aset_ne _ _ (I.ne (LV_msg h1 h2) (LV_msg (κ := 6) (by omega) (by omega)) (Or.inl k6))]
      exact hh1
end W1
end
section
/-! the rest of what is typed; corner, text, clear -/
section W2
variable {u : Ux} {d : Nat} {A : AH} {F : Nat → Option AC} {S : SS} {ad : Nat → Nat → Nat}
theorem ArG.less {k n : Nat} {l : List Value} {x : AC} (h : ArG k n l x) : ArG k n [] x := by
  obtain ⟨gb, h1, h2⟩ := h
  exact ⟨l ++ gb, by simpa using h1, by simpa using h2⟩
theorem CMsg_row {m : Pts × Tx} {i l : Nat} {x : AC} (hl : l < 3) : CMsg m ad i (10 + l) x ↔ ArG 100 30 ((m.2.getD l []).map fun b => .int b) x := by
  have h3 : l = 0 ∨ l = 1 ∨ l = 2 := by omega
  rcases h3 with rfl | rfl | rfl <;> exact Iff.rfl
theorem row3 {i l : Nat} (hl : l < 3) : ([.ref (ad 10 i), .ref (ad 11 i), .ref (ad 12 i)] : List Value)[l]? = some (.ref (ad (10 + l) i)) := by
  have h3 : l = 0 ∨ l = 1 ∨ l = 2 := by omega
  rcases h3 with rfl | rfl | rfl <;> rfl
theorem CMsg_ar {a : Pts} {t t' : Tx} {i κ : Nat} {x : AC} (h : CMsg (a, t) ad i κ x) (h4 : 4 ≤ κ) (h5 : κ < 10) : CMsg (a, t') ad i κ x := by
  unfold CMsg at h ⊢
  split <;> simp_all
  omega
set_option maxRecDepth 100000 in
set_option maxHeartbeats 4000000 in
theorem Ar_dropCorners_ok {a : Pts} {t : Tx} (I : Inv F S ad A) (hm : sTyped S = (a, t)) : V (gg u) d mm_Ar_dropCorners 0 [some (.ref (ad 5 99))] [] A (Ps none F (setTy S ([], t)) ad A) := by
  have hty := msg_ty (S := S)
  rw [hm] at hty
  obtain ⟨x5, h5, e5⟩ := I.msg (κ := 5) (by omega) (by omega) (by omega) hty
  have e5 : x5 = _ := e5
  subst e5
  refine v_aload_n (dk cd_Ar_dropCorners 0 rfl) rfl ?_
  refine v_iconst (v := nI 0) (dk cd_Ar_dropCorners 1 rfl) (by decide) ?_
  refine v_putf (dk cd_Ar_dropCorners 2 rfl) fp_Ar_18_Ar (fun h => by cases h) (by repeat first | assumption | exact aset_same _ _ _ | refine (aset_ne _ _ (by first | assumption | exact Ne.symm (by assumption))).trans ?_) rfl rfl ?_
  refine v_vret (dk cd_Ar_dropCorners 3 rfl) rfl (ps_of (I.updTy rfl (fun q hq => ?_) (fun κ h1 h2 => ?_)) rfl rfl)
  · rw [aset_ne _ _ (hq 5 (by omega) (by omega))]
  · by_cases k5 : κ = 5
    · subst k5
      exact ⟨_, aset_same _ _ _, by simp [CMsg]⟩
    obtain ⟨xx, hh1, hh2⟩ := I.msg (κ := κ) h1 h2 (fun _ => rfl) hty
    refine ⟨xx, ?_, ?_⟩
    · rw [aset_ne _ _ (I.ne (LV_msg h1 h2) (LV_msg (κ := 5) (by omega) (by omega)) (Or.inl k5))]
      exact hh1
    · by_cases k6 : κ = 6
      · subst k6
        exact ArG.less hh2
      by_cases k7 : κ = 7
      · subst k7
        exact ArG.less hh2
      exact CMsg_tx hh2 k5 k6 k7
set_option maxRecDepth 100000 in
set_option maxHeartbeats 4000000 in
theorem Te_addByte_ok {l : Nat} {v : Int32} {a : Pts} {t : Tx} (I : Inv F S ad A) (hm : sTyped S = (a, t)) (h3 : t.length = 3) (hl : l < 3) (h30 : tl t l < 30) : V (gg u) d mm_Te_addByte 0 [some (.ref (ad 8 99)), some (.int (nI l)), some (.int v)] [] A (Ps (some (.int (nI (tl t l + 1)))) F (setTy S (a, t.set l (t.getD l [] ++ [v]))) ad A) := by
  have hty := msg_ty (S := S)
  rw [hm] at hty
  obtain ⟨x8, h8, e8⟩ := I.msg (κ := 8) (by omega) (by omega) (by omega) hty
  obtain ⟨x9, h9, e9⟩ := I.msg (κ := 9) (by omega) (by omega) (by omega) hty
  obtain ⟨x13, h13, e13⟩ := I.msg (κ := 13) (by omega) (by omega) (by omega) hty
  obtain ⟨xr, hr, er⟩ := I.msg (κ := 10 + l) (by omega) (by omega) (by omega) hty
  obtain ⟨gr, er, lr⟩ := (CMsg_row hl).mp er
  have e8 : x8 = _ := e8
  have e9 : x9 = _ := e9
  have e13 : x13 = _ := e13
  subst e8 e9 e13 er
  simp only at h8 h9 h13 hr lr
  have n1 := I.ne (LV_msg (S := S) (κ := 8) (by omega) (by omega)) (LV_msg (κ := 10 + l) (by omega) (by omega)) (Or.inl (by omega))
  have n2 := I.ne (LV_msg (S := S) (κ := 8) (by omega) (by omega)) (LV_msg (κ := 13) (by omega) (by omega)) (Or.inl (by omega))
  have n3 := I.ne (LV_msg (S := S) (κ := 13) (by omega) (by omega)) (LV_msg (κ := 10 + l) (by omega) (by omega)) (Or.inl (by omega))
  have ht := tl_at h3 hl
  have hlen : tl t l = (t.getD l []).length := rfl
  have hgr : (t.getD l []).length + gr.length = 30 := by simpa using lr
  refine v_aload_n (dk cd_Te_addByte 0 rfl) rfl ?_
  refine v_getf (dk cd_Te_addByte 1 rfl) fg_Te_11_Te (by repeat first | assumption | exact aset_same _ _ _ | refine (aset_ne _ _ (by first | assumption | exact Ne.symm (by assumption))).trans ?_) (by rfl) ?_
  refine v_iload_n (dk cd_Te_addByte 2 rfl) rfl ?_
  refine v_aaldN (j := 3) (dk cd_Te_addByte 3 rfl) (by repeat first | assumption | exact aset_same _ _ _ | refine (aset_ne _ _ (by first | assumption | exact Ne.symm (by assumption))).trans ?_) (by decide) rfl rfl (by omega) (by first | exact ht | exact row3 hl | (rw [List.length_append, List.length_map]; omega) | (rw [List.length_map]; omega) | (simp; omega) | (rw [List.getElem?_set_self (by simp; omega)])) ?_
  refine v_aload_n (dk cd_Te_addByte 4 rfl) rfl ?_
  refine v_getf (dk cd_Te_addByte 5 rfl) fg_Te_16_Te (by repeat first | assumption | exact aset_same _ _ _ | refine (aset_ne _ _ (by first | assumption | exact Ne.symm (by assumption))).trans ?_) (by rfl) ?_
  refine v_iload_n (dk cd_Te_addByte 6 rfl) rfl ?_
  refine v_ialdN (j := 0) (dk cd_Te_addByte 7 rfl) (by repeat first | assumption | exact aset_same _ _ _ | refine (aset_ne _ _ (by first | assumption | exact Ne.symm (by assumption))).trans ?_) (by decide) rfl (by omega) (by first | exact ht | exact row3 hl | (rw [List.length_append, List.length_map]; omega) | (rw [List.length_map]; omega) | (simp; omega) | (rw [List.getElem?_set_self (by simp; omega)])) ?_
  refine v_iload_n (dk cd_Te_addByte 8 rfl) rfl ?_
  refine v_iastN (j := 0) (dk cd_Te_addByte 9 rfl) (by repeat first | assumption | exact aset_same _ _ _ | refine (aset_ne _ _ (by first | assumption | exact Ne.symm (by assumption))).trans ?_) (by decide) rfl (by omega) (by first | exact ht | exact row3 hl | (rw [List.length_append, List.length_map]; omega) | (rw [List.length_map]; omega) | (simp; omega) | (rw [List.getElem?_set_self (by simp; omega)])) ?_
  refine v_aload_n (dk cd_Te_addByte 10 rfl) rfl ?_
  refine v_getf (dk cd_Te_addByte 11 rfl) fg_Te_16_Te (by repeat first | assumption | exact aset_same _ _ _ | refine (aset_ne _ _ (by first | assumption | exact Ne.symm (by assumption))).trans ?_) (by rfl) ?_
  refine v_iload_n (dk cd_Te_addByte 12 rfl) rfl ?_
  refine v_dup2 (dk cd_Te_addByte 13 rfl) rfl rfl ?_
  refine v_ialdN (j := 0) (dk cd_Te_addByte 14 rfl) (by repeat first | assumption | exact aset_same _ _ _ | refine (aset_ne _ _ (by first | assumption | exact Ne.symm (by assumption))).trans ?_) (by decide) rfl (by omega) (by first | exact ht | exact row3 hl | (rw [List.length_append, List.length_map]; omega) | (rw [List.length_map]; omega) | (simp; omega) | (rw [List.getElem?_set_self (by simp; omega)])) ?_
  refine v_iconst (v := nI 1) (dk cd_Te_addByte 15 rfl) (by decide) ?_
  refine v_iaddN (dk cd_Te_addByte 16 rfl) ?_
  refine v_iastN (j := 0) (dk cd_Te_addByte 17 rfl) (by repeat first | assumption | exact aset_same _ _ _ | refine (aset_ne _ _ (by first | assumption | exact Ne.symm (by assumption))).trans ?_) (by decide) rfl (by omega) (by first | exact ht | exact row3 hl | (rw [List.length_append, List.length_map]; omega) | (rw [List.length_map]; omega) | (simp; omega) | (rw [List.getElem?_set_self (by simp; omega)])) ?_
  refine v_aload_n (dk cd_Te_addByte 18 rfl) rfl ?_
  refine v_getf (dk cd_Te_addByte 19 rfl) fg_Te_16_Te (by repeat first | assumption | exact aset_same _ _ _ | refine (aset_ne _ _ (by first | assumption | exact Ne.symm (by assumption))).trans ?_) (by rfl) ?_
  refine v_iload_n (dk cd_Te_addByte 20 rfl) rfl ?_
  refine v_ialdN (j := 0) (dk cd_Te_addByte 21 rfl) (by repeat first | assumption | exact aset_same _ _ _ | refine (aset_ne _ _ (by first | assumption | exact Ne.symm (by assumption))).trans ?_) (by decide) rfl (by omega) (by first | exact ht | exact row3 hl | (rw [List.length_append, List.length_map]; omega) | (rw [List.length_map]; omega) | (simp; omega) | (rw [List.getElem?_set_self (by simp; omega)])) ?_
  refine v_iret (dk cd_Te_addByte 22 rfl) rfl (ps_of (I.updTy rfl (fun q hq => ?_) (fun κ h1 h2 => ?_)) rfl rfl)
  · rw [aset_ne _ _ (hq 13 (by omega) (by omega)), aset_ne _ _ (hq (10 + l) (by omega) (by omega))]
  · by_cases k13 : κ = 13
    · subst k13
      refine ⟨_, aset_same _ _ _, ?_⟩
      show _ = (100, (t.set l (t.getD l [] ++ [v])).map fun t => Value.int (nI t.length))
      rw [List.map_set]
      simp [hlen]
    by_cases kr : κ = 10 + l
    · subst kr
      refine ⟨_, (aset_ne _ _ (Ne.symm n3)).trans (aset_same _ _ _), (CMsg_row hl).mpr ?_⟩
      have h9 := ArG.app (k := 100) (v := .int v) (show ((t.getD l []).map fun b => Value.int b).length + gr.length = 30 by simpa using hgr) (by simpa [hlen] using h30)
      have e9 : (t.set l (t.getD l [] ++ [v])).getD l [] = t.getD l [] ++ [v] := by simp [List.getD, h3, hl]
      simp only [e9, List.map_append, List.map_cons, List.map_nil]
      simpa [hlen] using h9
    · obtain ⟨xx, hh1, hh2⟩ := I.msg (κ := κ) h1 h2 (fun _ => rfl) hty
      refine ⟨xx, ?_, ?_⟩
      · rw [aset_ne _ _ (I.ne (LV_msg h1 h2) (LV_msg (κ := 13) (by omega) (by omega)) (Or.inl k13)), aset_ne _ _ (I.ne (LV_msg h1 h2) (LV_msg (κ := 10 + l) (by omega) (by omega)) (Or.inl kr))]
        exact hh1
      · by_cases k10 : κ < 10
        · exact CMsg_ar hh2 h1 k10
        · obtain ⟨j, rfl⟩ : ∃ j, κ = 10 + j := ⟨κ - 10, by omega⟩
          have hj : j < 3 := by omega
          have hne : l ≠ j := by omega
          have e9 : (t.set l (t.getD l [] ++ [v])).getD j [] = t.getD j [] := by simp [List.getD, hne]
          refine (CMsg_row hj).mpr ?_
          simp only [e9]
          exact (CMsg_row hj).mp hh2
def dropK (t : Tx) (k : Nat) : Tx := List.replicate k [] ++ t.drop k
theorem dropK_set {t : Tx} {k : Nat} (h : k < t.length) : (dropK t k).set k [] = dropK t (k + 1) := by
  unfold dropK
  rw [List.set_append_right _ _ (by simp)]
  simp only [List.length_replicate, Nat.sub_self]
  rw [List.drop_eq_getElem_cons h, List.set_cons_zero, List.replicate_succ', List.append_assoc]
  rfl
theorem dropK_len {t : Tx} {k : Nat} (h : k ≤ t.length) : (dropK t k).length = t.length := by simp [dropK]; omega
theorem setTy_setTy (S : SS) (m m' : Pts × Tx) : setTy (setTy S m) m' = setTy S m' := rfl
set_option maxRecDepth 100000 in
set_option maxHeartbeats 4000000 in
theorem Te_dropBytes_lp {a : Pts} {t : Tx} {A0 : AH} (h3 : t.length = 3) : ∀ k, ∀ A : AH, k ≤ 3 ∧ Inv F (setTy S (a, dropK t k)) ad A ∧ A.2 = A0.2 → V (gg u) d mm_Te_dropBytes 2 [some (.ref (ad 8 99)), some (.int (nI k))] [] A (Ps none F (setTy S (a, dropK t 3)) ad A0) := by
  refine up_ind 3 ?_
  intro k ih A ⟨hk, I, h2⟩
  have hty := msg_ty (S := setTy S (a, dropK t k))
  obtain ⟨x8, h8, e8⟩ := I.msg (κ := 8) (by omega) (by omega) (by omega) hty
  obtain ⟨x13, h13, e13⟩ := I.msg (κ := 13) (by omega) (by omega) (by omega) hty
  have e8 : x8 = _ := e8
  have e13 : x13 = _ := e13
  subst e8 e13
  have hdl := dropK_len (t := t) (k := k) (by omega)
  refine v_iload_n (dk cd_Te_dropBytes 2 rfl) rfl ?_
  refine v_iconst (v := nI 3) (dk cd_Te_dropBytes 3 rfl) (by decide) ?_
  refine v_icmp_geN (tgt := 20) (dk cd_Te_dropBytes 4 rfl) rfl (by omega) (by omega) (fun q4 => ?_) (fun q4 => ?_)
  · exact v_vret (dk cd_Te_dropBytes 12 rfl) rfl (ps_of (by rw [show (3 : Nat) = k by omega]; exact I) h2 rfl)
  · refine v_aload_n (dk cd_Te_dropBytes 5 rfl) rfl ?_
    refine v_getf (dk cd_Te_dropBytes 6 rfl) fg_Te_16_Te (by repeat first | assumption | exact aset_same _ _ _ | refine (aset_ne _ _ (by first | assumption | exact Ne.symm (by assumption))).trans ?_) (by rfl) ?_
    refine v_iload_n (dk cd_Te_dropBytes 7 rfl) rfl ?_
    refine v_iconst (v := nI 0) (dk cd_Te_dropBytes 8 rfl) (by decide) ?_
    refine v_iastN (j := 0) (dk cd_Te_dropBytes 9 rfl) (by repeat first | assumption | exact aset_same _ _ _ | refine (aset_ne _ _ (by first | assumption | exact Ne.symm (by assumption))).trans ?_) (by decide) rfl (by omega) (by simp [setTy, hdl]; omega) ?_
    refine v_iincN (dk cd_Te_dropBytes 10 rfl) rfl (by decide) rfl ?_
    refine v_goto (tgt := 2) (dk cd_Te_dropBytes 11 rfl) rfl ?_
    refine ih q4 _ ⟨by omega, ?_, h2⟩
    rw [← dropK_set (by omega), ← setTy_setTy S (a, dropK t k)]
    refine I.updTy rfl (fun q hq => aset_ne _ _ (hq 13 (by omega) (by omega))) (fun κ h1 h2 => ?_)
    by_cases k13 : κ = 13
    · subst k13
      refine ⟨_, aset_same _ _ _, ?_⟩
      show _ = (100, ((dropK t k).set k []).map fun t => Value.int (nI t.length))
      rw [List.map_set]
      rfl
    obtain ⟨xx, hh1, hh2⟩ := I.msg (κ := κ) h1 h2 (fun _ => rfl) hty
    refine ⟨xx, ?_, ?_⟩
    · rw [aset_ne _ _ (I.ne (LV_msg h1 h2) (LV_msg (κ := 13) (by omega) (by omega)) (Or.inl k13))]
      exact hh1
    · by_cases k10 : κ < 10
      · exact CMsg_ar hh2 h1 k10
      · obtain ⟨j, rfl⟩ : ∃ j, κ = 10 + j := ⟨κ - 10, by omega⟩
        have hj : j < 3 := by omega
        refine (CMsg_row hj).mpr ?_
        by_cases hjk : k = j
        · subst hjk
          have e9 : ((dropK t k).set k []).getD k [] = [] := by simp [List.getD, hdl, h3, hj]
          simp only [e9]
          exact ArG.less ((CMsg_row hj).mp hh2)
        · have e9 : ((dropK t k).set k []).getD j [] = (dropK t k).getD j [] := by simp [List.getD, hjk]
          simp only [e9]
          exact (CMsg_row hj).mp hh2
set_option maxRecDepth 100000 in
set_option maxHeartbeats 4000000 in
theorem Te_dropBytes_ok {a : Pts} {t : Tx} (I : Inv F S ad A) (hm : sTyped S = (a, t)) (h3 : t.length = 3) : V (gg u) d mm_Te_dropBytes 0 [some (.ref (ad 8 99)), none] [] A (Ps none F (setTy S (a, [[], [], []])) ad A) := by
  have e : dropK t 3 = [[], [], []] := by simp [dropK, h3]
  rw [← e]
  refine v_iconst (v := nI 0) (dk cd_Te_dropBytes 0 rfl) (by decide) ?_
  refine v_istore_n (dk cd_Te_dropBytes 1 rfl) (by decide) rfl ?_
  exact Te_dropBytes_lp h3 0 A ⟨by omega, by rw [show setTy S (a, dropK t 0) = S by rw [show dropK t 0 = t by simp [dropK], ← hm]; rfl]; exact I, rfl⟩
def spCorner (S : SS) (x y : Int32) : SS × (Value ⊕ Nat) := if pCo x = true ∧ pCo y = true then (if (sTyped S).1.length = 8 then (S, .inr 1) else (setTy S ((sTyped S).1 ++ [(x, y)], (sTyped S).2), .inl (.int (nI ((sTyped S).1.length + 1))))) else (S, .inr 0)
def spText (S : SS) (x v : Int32) : SS × (Value ⊕ Nat) := if pLa x = true ∧ ¬ v < 0 ∧ v ≤ 255 then (if tl (sTyped S).2 x.toNatClampNeg = 30 then (S, .inr 1) else (setTy S ((sTyped S).1, (sTyped S).2.set x.toNatClampNeg ((sTyped S).2.getD x.toNatClampNeg [] ++ [v])), .inl (.int (nI (tl (sTyped S).2 x.toNatClampNeg + 1))))) else (S, .inr 0)
def spClear (S : SS) : SS × (Value ⊕ Nat) := (setTy S ([], [[], [], []]), .inl (.int (nI ((sTyped S).1.length + tsum (sTyped S).2 3))))
/-- what is typed is in its bounds -/
def WfT (S : SS) : Prop := (sTyped S).1.length ≤ 8 ∧ (sTyped S).2.length = 3 ∧ ∀ l, tl (sTyped S).2 l ≤ 30
theorem pLa_nat {x : Int32} (h : pLa x = true) : ∃ l, l < 3 ∧ x = nI l := by
  simp only [pLa, Bool.and_eq_true, Bool.not_eq_true', decide_eq_false_iff_not] at h
  obtain ⟨j, hj, e⟩ := nI_of h.1
  refine ⟨j, ?_, e⟩
  have h2 := h.2
  rw [e, show (3 : Int32) = nI 3 by decide, nI_leI (by omega) hj] at h2
  omega
set_option maxRecDepth 100000 in
set_option maxHeartbeats 4000000 in
theorem AW_corner_ok {x y : Int32} (I : Inv F S ad A) (Wt : WfT S) (hgl : A.2.1 + 16 ≤ gL (gg u)) (hgs : A.2.2 + 400 ≤ gS (gg u)) : V (gg u) (d + 6) mm_AW_corner 0 [some (.ref (ad 0 0)), some (.int x), some (.int y)] [] A (PubR F ad A (spCorner S x y)) := by
  have h0 := I.aw
  have hty := msg_ty (S := S)
  obtain ⟨x4, h4, e4⟩ := I.msg (κ := 4) (by omega) (by omega) (fun _ => rfl) hty
  obtain ⟨x5, h5, e5⟩ := I.msg (κ := 5) (by omega) (by omega) (by omega) hty
  obtain ⟨x8, h8, e8⟩ := I.msg (κ := 8) (by omega) (by omega) (by omega) hty
  obtain ⟨x13, h13, e13⟩ := I.msg (κ := 13) (by omega) (by omega) (by omega) hty
  have e4 : x4 = _ := e4
  have e5 : x5 = _ := e5
  have e8 : x8 = _ := e8
  have e13 : x13 = _ := e13
  subst e4 e5 e8 e13
  obtain ⟨wt1, wt2, wt3⟩ := Wt
  refine v_iload_n (dk cd_AW_corner 0 rfl) rfl ?_
  refine v_rs (dk cd_AW_corner 1 rfl) cs_AW_50 (as := [_]) rfl rfl (Nat.le_of_ble_eq_true rfl) (by simp [Value.category]) AW_isCoordinate_ok ?_
  refine v_ifeqB (tgt := 14) (dk cd_AW_corner 2 rfl) rfl (fun q4 => ?_) (fun q4 => ?_)
  · exact v_throw (ex := 0) (dk cd_AW_corner 6 rfl) (dk cd_AW_corner 7 rfl) (dk cd_AW_corner 8 rfl) (dk cd_AW_corner 9 rfl) rfl tw_54 rfl (by omega) (by omega) (by omega) (by simp) (pub_thr I (by simp [spCorner, *]))
  · refine v_iload_n (dk cd_AW_corner 3 rfl) rfl ?_
    refine v_rs (dk cd_AW_corner 4 rfl) cs_AW_50 (as := [_]) rfl rfl (Nat.le_of_ble_eq_true rfl) (by simp [Value.category]) AW_isCoordinate_ok ?_
    refine v_ifneB (tgt := 22) (dk cd_AW_corner 5 rfl) rfl (fun q11 => ?_) (fun q11 => ?_)
    · refine v_aload_n (dk cd_AW_corner 10 rfl) rfl ?_
      refine v_getf (dk cd_AW_corner 11 rfl) fg_AW_46_AW (by assumption) (by rfl) ?_
      refine v_getf (dk cd_AW_corner 12 rfl) fg_AW_76_Me (by assumption) (by rfl) ?_
      refine v_getf (dk cd_AW_corner 13 rfl) fg_AW_80_Ar (by assumption) (by rfl) ?_
      refine v_bipush (v := nI 8) (dk cd_AW_corner 14 rfl) (by decide) ?_
      refine v_icmp_neN (tgt := 45) (dk cd_AW_corner 15 rfl) rfl (by omega) (by omega) (fun q34 => ?_) (fun q34 => ?_)
      · refine v_aload_n (dk cd_AW_corner 20 rfl) rfl ?_
        refine v_getf (dk cd_AW_corner 21 rfl) fg_AW_46_AW (by assumption) (by rfl) ?_
        refine v_getf (dk cd_AW_corner 22 rfl) fg_AW_76_Me (by assumption) (by rfl) ?_
        refine v_iload_n (dk cd_AW_corner 23 rfl) rfl ?_
        refine v_iload_n (dk cd_AW_corner 24 rfl) rfl ?_
        refine v_callv (r := ("AreaWarnings$Area", TT_Ar, 3)) (dk cd_AW_corner 25 rfl) cv_AW_85 rfl (by assumption) (as := [_, _]) rfl rfl (Nat.le_of_ble_eq_true rfl) (by simp [Value.category]) (Ar_addCorner_ok (a := (sTyped S).1) (t := (sTyped S).2) I rfl (by omega)) ps_no (fun v9 A9 hq => ?_)
        obtain ⟨e9, I, hA2⟩ := hq
        cases e9
        clear h0
        have h0 := I.aw
        exact v_iret (dk cd_AW_corner 26 rfl) rfl (pub_ret I hA2 (by simp [spCorner, *]))
      · exact v_throw (ex := 1) (dk cd_AW_corner 16 rfl) (dk cd_AW_corner 17 rfl) (dk cd_AW_corner 18 rfl) (dk cd_AW_corner 19 rfl) rfl tw_57 rfl (by omega) (by omega) (by omega) (by simp) (pub_thr I (by simp [spCorner, *]))
    · exact v_throw (ex := 0) (dk cd_AW_corner 6 rfl) (dk cd_AW_corner 7 rfl) (dk cd_AW_corner 8 rfl) (dk cd_AW_corner 9 rfl) rfl tw_54 rfl (by omega) (by omega) (by omega) (by simp) (pub_thr I (by simp [spCorner, *]))
set_option maxRecDepth 100000 in
set_option maxHeartbeats 4000000 in
theorem AW_text_ok {x v : Int32} (I : Inv F S ad A) (Wt : WfT S) (hgl : A.2.1 + 16 ≤ gL (gg u)) (hgs : A.2.2 + 400 ≤ gS (gg u)) : V (gg u) (d + 6) mm_AW_text 0 [some (.ref (ad 0 0)), some (.int x), some (.int v)] [] A (PubR F ad A (spText S x v)) := by
  have h0 := I.aw
  have hty := msg_ty (S := S)
  obtain ⟨x4, h4, e4⟩ := I.msg (κ := 4) (by omega) (by omega) (fun _ => rfl) hty
  obtain ⟨x5, h5, e5⟩ := I.msg (κ := 5) (by omega) (by omega) (by omega) hty
  obtain ⟨x8, h8, e8⟩ := I.msg (κ := 8) (by omega) (by omega) (by omega) hty
  obtain ⟨x13, h13, e13⟩ := I.msg (κ := 13) (by omega) (by omega) (by omega) hty
  have e4 : x4 = _ := e4
  have e5 : x5 = _ := e5
  have e8 : x8 = _ := e8
  have e13 : x13 = _ := e13
  subst e4 e5 e8 e13
  obtain ⟨wt1, wt2, wt3⟩ := Wt
  refine v_iload_n (dk cd_AW_text 0 rfl) rfl ?_
  refine v_rs (dk cd_AW_text 1 rfl) cs_AW_89 (as := [_]) rfl rfl (Nat.le_of_ble_eq_true rfl) (by simp [Value.category]) AW_isLanguage_ok ?_
  refine v_ifeqB (tgt := 18) (dk cd_AW_text 2 rfl) rfl (fun q4 => ?_) (fun q4 => ?_)
  · exact v_throw (ex := 0) (dk cd_AW_text 8 rfl) (dk cd_AW_text 9 rfl) (dk cd_AW_text 10 rfl) (dk cd_AW_text 11 rfl) rfl tw_54 rfl (by omega) (by omega) (by omega) (by simp) (pub_thr I (by simp [spText, *]))
  · refine v_iload_n (dk cd_AW_text 3 rfl) rfl ?_
    refine v_if_lt (tgt := 18) (dk cd_AW_text 4 rfl) rfl (fun q8 => ?_) (fun q8 => ?_)
    · exact v_throw (ex := 0) (dk cd_AW_text 8 rfl) (dk cd_AW_text 9 rfl) (dk cd_AW_text 10 rfl) (dk cd_AW_text 11 rfl) rfl tw_54 rfl (by omega) (by omega) (by omega) (by simp) (pub_thr I (by simp [spText, *]))
    · refine v_iload_n (dk cd_AW_text 5 rfl) rfl ?_
      refine v_sipush (v := 255) (dk cd_AW_text 6 rfl) (by decide) ?_
      refine v_icmp_le (tgt := 26) (dk cd_AW_text 7 rfl) rfl (fun q15 => ?_) (fun q15 => ?_)
      · obtain ⟨l, hl3, rfl⟩ := pLa_nat q4
        have hlc : (nI l).toNatClampNeg = l := nI_clamp (by omega)
        have w30 := wt3 l
        refine v_aload_n (dk cd_AW_text 12 rfl) rfl ?_
        refine v_getf (dk cd_AW_text 13 rfl) fg_AW_46_AW (by assumption) (by rfl) ?_
        refine v_getf (dk cd_AW_text 14 rfl) fg_AW_92_Me (by assumption) (by rfl) ?_
        refine v_getf (dk cd_AW_text 15 rfl) fg_AW_96_Te (by assumption) (by rfl) ?_
        refine v_iload_n (dk cd_AW_text 16 rfl) rfl ?_
        refine v_ialdN (j := 0) (dk cd_AW_text 17 rfl) (by assumption) (by decide) rfl (by omega) (tl_at wt2 hl3) ?_
        refine v_bipush (v := nI 30) (dk cd_AW_text 18 rfl) (by decide) ?_
        refine v_icmp_neN (tgt := 51) (dk cd_AW_text 19 rfl) rfl (by omega) (by omega) (fun q40 => ?_) (fun q40 => ?_)
        · refine v_aload_n (dk cd_AW_text 24 rfl) rfl ?_
          refine v_getf (dk cd_AW_text 25 rfl) fg_AW_46_AW (by assumption) (by rfl) ?_
          refine v_getf (dk cd_AW_text 26 rfl) fg_AW_92_Me (by assumption) (by rfl) ?_
          refine v_iload_n (dk cd_AW_text 27 rfl) rfl ?_
          refine v_iload_n (dk cd_AW_text 28 rfl) rfl ?_
          refine v_callv (r := ("AreaWarnings$Texts", TT_Te, 2)) (dk cd_AW_text 29 rfl) cv_AW_102 rfl (by assumption) (as := [_, _]) rfl rfl (Nat.le_of_ble_eq_true rfl) (by simp [Value.category]) (Te_addByte_ok (a := (sTyped S).1) (t := (sTyped S).2) I rfl wt2 hl3 (by omega)) ps_no (fun v9 A9 hq => ?_)
          obtain ⟨e9, I, hA2⟩ := hq
          cases e9
          clear h0
          have h0 := I.aw
          exact v_iret (dk cd_AW_text 30 rfl) rfl (pub_ret I hA2 (by simp [spText, *]))
        · exact v_throw (ex := 1) (dk cd_AW_text 20 rfl) (dk cd_AW_text 21 rfl) (dk cd_AW_text 22 rfl) (dk cd_AW_text 23 rfl) rfl tw_57 rfl (by omega) (by omega) (by omega) (by simp) (pub_thr I (by simp [spText, *]))
      · exact v_throw (ex := 0) (dk cd_AW_text 8 rfl) (dk cd_AW_text 9 rfl) (dk cd_AW_text 10 rfl) (dk cd_AW_text 11 rfl) rfl tw_54 rfl (by omega) (by omega) (by omega) (by simp) (pub_thr I (by simp [spText, *]))
set_option maxRecDepth 100000 in
set_option maxHeartbeats 4000000 in
theorem AW_clear_ok (I : Inv F S ad A) (Wt : WfT S) (hgl : A.2.1 + 16 ≤ gL (gg u)) (hgs : A.2.2 + 400 ≤ gS (gg u)) : V (gg u) (d + 6) mm_AW_clear 0 [some (.ref (ad 0 0)), none] [] A (PubR F ad A (spClear S)) := by
  have h0 := I.aw
  have hty := msg_ty (S := S)
  obtain ⟨x4, h4, e4⟩ := I.msg (κ := 4) (by omega) (by omega) (fun _ => rfl) hty
  obtain ⟨x5, h5, e5⟩ := I.msg (κ := 5) (by omega) (by omega) (by omega) hty
  obtain ⟨x8, h8, e8⟩ := I.msg (κ := 8) (by omega) (by omega) (by omega) hty
  obtain ⟨x13, h13, e13⟩ := I.msg (κ := 13) (by omega) (by omega) (by omega) hty
  have e4 : x4 = _ := e4
  have e5 : x5 = _ := e5
  have e8 : x8 = _ := e8
  have e13 : x13 = _ := e13
  subst e4 e5 e8 e13
  obtain ⟨wt1, wt2, wt3⟩ := Wt
  have HT : TeAt A (ad 8 99) (sTyped S).2 := ⟨wt2, wt3, _, _, h8, h13⟩
  have hA0 : A.2 = A.2 := rfl
  refine v_aload_n (dk cd_AW_clear 0 rfl) rfl ?_
  refine v_getf (dk cd_AW_clear 1 rfl) fg_AW_46_AW (by assumption) (by rfl) ?_
  refine v_getf (dk cd_AW_clear 2 rfl) fg_AW_76_Me (by assumption) (by rfl) ?_
  refine v_getf (dk cd_AW_clear 3 rfl) fg_AW_80_Ar (by assumption) (by rfl) ?_
  refine v_aload_n (dk cd_AW_clear 4 rfl) rfl ?_
  refine v_getf (dk cd_AW_clear 5 rfl) fg_AW_46_AW (by assumption) (by rfl) ?_
  refine v_getf (dk cd_AW_clear 6 rfl) fg_AW_92_Me (by assumption) (by rfl) ?_
  refine v_rv (r := ("AreaWarnings$Texts", TT_Te, 2)) (dk cd_AW_clear 7 rfl) cv_AW_105 rfl (by assumption) (as := []) rfl rfl (Nat.le_of_ble_eq_true rfl) (by simp [Value.category]) (Te_byteCount_ok HT) ?_
  refine v_iaddN (dk cd_AW_clear 8 rfl) ?_
  refine v_istore_n (dk cd_AW_clear 9 rfl) (by decide) rfl ?_
  refine v_aload_n (dk cd_AW_clear 10 rfl) rfl ?_
  refine v_getf (dk cd_AW_clear 11 rfl) fg_AW_46_AW (by assumption) (by rfl) ?_
  refine v_getf (dk cd_AW_clear 12 rfl) fg_AW_76_Me (by assumption) (by rfl) ?_
  refine v_callv (r := ("AreaWarnings$Area", TT_Ar, 3)) (dk cd_AW_clear 13 rfl) cv_AW_109 rfl (by assumption) (as := []) rfl rfl (Nat.le_of_ble_eq_true rfl) (by simp [Value.category]) (Ar_dropCorners_ok I rfl) ps_no (fun v9 A9 hq => ?_)
  obtain ⟨e9, I, hA1⟩ := hq
  cases e9
  have h0 := I.aw
  obtain ⟨y4, k4, f4⟩ := I.msg (κ := 4) (by omega) (by omega) (fun _ => rfl) (msg_ty (S := setTy S ([], (sTyped S).2)))
  obtain ⟨y8, k8, f8⟩ := I.msg (κ := 8) (by omega) (by omega) (by omega) (msg_ty (S := setTy S ([], (sTyped S).2)))
  have f4 : y4 = _ := f4
  have f8 : y8 = _ := f8
  subst f4 f8
  refine v_aload_n (dk cd_AW_clear 14 rfl) rfl ?_
  refine v_getf (dk cd_AW_clear 15 rfl) fg_AW_46_AW (by assumption) (by rfl) ?_
  refine v_getf (dk cd_AW_clear 16 rfl) fg_AW_92_Me (by assumption) (by rfl) ?_
  refine v_callv (r := ("AreaWarnings$Texts", TT_Te, 2)) (dk cd_AW_clear 17 rfl) cv_AW_112 rfl (by assumption) (as := []) rfl rfl (Nat.le_of_ble_eq_true rfl) (by simp [Value.category]) (Te_dropBytes_ok I rfl wt2) ps_no (fun v9 A9 hq => ?_)
  obtain ⟨e9, I, hA2⟩ := hq
  cases e9
  refine v_iload_n (dk cd_AW_clear 18 rfl) rfl ?_
  exact v_iret (dk cd_AW_clear 19 rfl) rfl (pub_ret I (hA2.trans hA1) rfl)
end W2
end
section
/-! line, camp, miss, likes -/
def cD : CeS := ((0, 0, 0), (false, false), [], [])
def hD : HaS := ((0, 0, 0, 0), [], ([], [], []), [])
def cAt (S : SS) (x : Int32) : CeS := (sCells S).getD x.toNatClampNeg cD
def hAt (S : SS) (x : Int32) : HaS := (sHs S).getD x.toNatClampNeg hD
theorem pIx_nat {x : Int32} {n : Nat} (h : pIx x n = true) (hn : n < 2 ^ 31) : ∃ k, k < n ∧ x = nI k := by
  simp only [pIx, Bool.and_eq_true, Bool.not_eq_true', decide_eq_false_iff_not] at h
  obtain ⟨j, hj, e⟩ := nI_of h.1
  refine ⟨j, ?_, e⟩
  have h2 := h.2
  rw [e, nI_leI hn hj] at h2
  omega
theorem rng_at {n k : Nat} {f : Nat → Value} {gb : List Value} (h : k < n) : ((List.range n).map f ++ gb)[k]? = some (f k) := by
  rw [map_app (by simpa using h)]; simp
section W3
variable {u : Ux} {d : Nat} {A : AH} {F : Nat → Option AC} {S : SS} {ad : Nat → Nat → Nat}
theorem cAt_nI {i : Nat} {c : CeS} (hc : (sCells S)[i]? = some c) (hi : i < 2 ^ 31) : cAt S (nI i) = c := by
  unfold cAt; rw [nI_clamp hi]; simp [hc]
theorem hAt_nI {i : Nat} {c : HaS} (hc : (sHs S)[i]? = some c) (hi : i < 2 ^ 31) : hAt S (nI i) = c := by
  unfold hAt; rw [nI_clamp hi]; simp [hc]
theorem LV_cell {κ i : Nat} (h1 : 14 ≤ κ) (h2 : κ < 20) (hi : i < (sCells S).length) : LV S κ i := Or.inr (Or.inr (Or.inl ⟨h1, h2, hi⟩))
theorem LV_hs {κ i : Nat} (h1 : 23 ≤ κ) (h2 : κ ≤ 30) (hi : i < (sHs S).length) : LV S κ i := Or.inr (Or.inr (Or.inr (Or.inr (Or.inr (Or.inr ⟨h1, h2, hi⟩)))))
theorem LV_ver {i : Nat} (hi : i < (sVers S).length) : LV S 21 i := Or.inr (Or.inr (Or.inr (Or.inr (Or.inl ⟨rfl, hi⟩))))
theorem LV_warn {i : Nat} (hi : i < (sWarn S).length) : LV S 20 i := Or.inr (Or.inr (Or.inr (Or.inl ⟨rfl, hi⟩)))
theorem LV_top {κ : Nat} (h : κ < 4) : LV S κ 0 := Or.inl ⟨h, rfl⟩
/-- a cell's object alone changes -/
theorem Inv.updCob {i : Nat} {c c' : CeS} {x : AC} (I : Inv F S ad A) (hc : (sCells S)[i]? = some c) (h1 : c'.2.1.2 = c.2.1.2) (h2 : c'.2.2 = c.2.2) (hx : CCell c' ad i 14 x) : Inv F (setCe S i c') ad (aset A (ad 14 i) x) := by
  have hi := (List.getElem?_eq_some_iff.mp hc).1
  refine I.updCell hi rfl (fun q hq => aset_ne _ _ (hq 14 (by omega) (by omega))) (fun κ h3 h4 => ?_)
  by_cases k : κ = 14
  · subst k
    exact ⟨x, aset_same _ _ _, hx⟩
  obtain ⟨y, h5, h6⟩ := I.cell h3 h4 hc
  refine ⟨y, ?_, ?_⟩
  · rw [aset_ne _ _ (I.ne (LV_cell h3 h4 hi) (LV_cell (by omega) (by omega) hi) (Or.inl k))]
    exact h5
  · unfold CCell at h6 ⊢
    rw [h1, h2]
    have hk : κ = 15 ∨ κ = 16 ∨ κ = 17 ∨ κ = 18 ∨ κ = 19 := by omega
    rcases hk with rfl | rfl | rfl | rfl | rfl <;> exact h6
/-- a handset's object alone changes -/
theorem Inv.updHob {i : Nat} {c c' : HaS} {x : AC} (I : Inv F S ad A) (hc : (sHs S)[i]? = some c) (h2 : c'.2 = c.2) (hx : CHs c' ad i 23 x) : Inv F (setHs S i c') ad (aset A (ad 23 i) x) := by
  have hi := (List.getElem?_eq_some_iff.mp hc).1
  refine I.updHs hi rfl (fun q hq => aset_ne _ _ (hq 23 (by omega) (by omega))) (fun κ h3 h4 => ?_)
  by_cases k : κ = 23
  · subst k
    exact ⟨x, aset_same _ _ _, hx⟩
  obtain ⟨y, h5, h6⟩ := I.hs h3 h4 hc
  refine ⟨y, ?_, ?_⟩
  · rw [aset_ne _ _ (I.ne (LV_hs h3 h4 hi) (LV_hs (by omega) (by omega) hi) (Or.inl k))]
    exact h5
  · unfold CHs at h6 ⊢
    rw [h2]
    have hk : κ = 24 ∨ κ = 25 ∨ κ = 26 ∨ κ = 27 ∨ κ = 28 ∨ κ = 29 ∨ κ = 30 := by omega
    rcases hk with rfl | rfl | rfl | rfl | rfl | rfl | rfl <;> exact h6
def spLine (S : SS) (x : Int32) (w : Bool) : SS × (Value ⊕ Nat) := if pIx x (sCells S).length = true then (setCe S x.toNatClampNeg ((cAt S x).1, (w, (cAt S x).2.1.2), (cAt S x).2.2), .inl (.int (b2i (cAt S x).2.1.1))) else (S, .inr 3)
def spCamp (S : SS) (x c : Int32) : SS × (Value ⊕ Nat) := if pIx x (sHs S).length = true ∧ (c = -1 ∨ pIx c (sCells S).length = true) then (setHs S x.toNatClampNeg (((hAt S x).1.1, c, (hAt S x).1.2.2), (hAt S x).2), .inl (.int (hAt S x).1.2.1)) else (S, .inr 3)
def spMiss (S : SS) (x n : Int32) : SS × (Value ⊕ Nat) := if pIx x (sHs S).length = true then (if ¬ n < 0 ∧ n ≤ 1000 then (setHs S x.toNatClampNeg (((hAt S x).1.1, (hAt S x).1.2.1, (hAt S x).1.2.2.1 + n, (hAt S x).1.2.2.2), (hAt S x).2), .inl (.int ((hAt S x).1.2.2.1 + n))) else (S, .inr 0)) else (S, .inr 3)
def spLikes (S : SS) (x l : Int32) : SS × (Value ⊕ Nat) := if pIx x (sHs S).length = true then (if pLa l = true then (if (hAt S x).2.1.length = 3 then (S, .inr 1) else (setHs S x.toNatClampNeg ((hAt S x).1, (hAt S x).2.1 ++ [l], (hAt S x).2.2), .inl (.int (nI ((hAt S x).2.1.length + 1))))) else (S, .inr 0)) else (S, .inr 3)
set_option maxRecDepth 100000 in
set_option maxHeartbeats 4000000 in
theorem AW_line_ok {x : Int32} {w : Bool} (I : Inv F S ad A) (Wf : Wf S) (hgl : A.2.1 + 16 ≤ gL (gg u)) (hgs : A.2.2 + 400 ≤ gS (gg u)) : V (gg u) (d + 6) mm_AW_line 0 [some (.ref (ad 0 0)), some (.int x), some (.int (b2i w)), none] [] A (PubR F ad A (spLine S x w)) := by
  have h0 := I.aw
  obtain ⟨x1, h1, g1, e1, l1⟩ := I.top (κ := 1) (by omega)
  obtain ⟨x3, h3, g3, e3, l3⟩ := I.top (κ := 3) (by omega)
  subst e1 e3
  have w8 := Wf.2.2.1
  have w3 := Wf.2.2.2.2.1
  refine v_aload_n (dk cd_AW_line 0 rfl) rfl ?_
  refine v_iload_n (dk cd_AW_line 1 rfl) rfl ?_
  refine v_rv (r := ("AreaWarnings", TT_AW, 9)) (dk cd_AW_line 2 rfl) cv_AW_186 rfl (by repeat first | assumption | exact aset_same _ _ _ | refine (aset_ne _ _ (by first | assumption | exact Ne.symm (by assumption))).trans ?_) (as := [_]) rfl rfl (Nat.le_of_ble_eq_true rfl) (by simp [Value.category]) (AW_isCell_ok I) ?_
  refine v_ifneB (tgt := 16) (dk cd_AW_line 3 rfl) rfl (fun q5 => ?_) (fun q5 => ?_)
  · obtain ⟨i, hi, rfl⟩ := pIx_nat q5 (by omega)
    have hix : (nI i).toNatClampNeg = i := nI_clamp (by omega)
    obtain ⟨c, hc⟩ : ∃ c, (sCells S)[i]? = some c := ⟨_, List.getElem?_eq_getElem hi⟩
    have hca := cAt_nI hc (by omega)
    have h14 := I.cob hc
    have nn := I.ne (LV_top (S := S) (κ := 0) (by omega)) (LV_cell (κ := 14) (by omega) (by omega) hi) (Or.inl (by omega))
    have nn3 := I.ne (LV_top (S := S) (κ := 1) (by omega)) (LV_cell (κ := 14) (by omega) (by omega) hi) (Or.inl (by omega))
    refine v_aload_n (dk cd_AW_line 8 rfl) rfl ?_
    refine v_getf (dk cd_AW_line 9 rfl) fg_AW_15_AW (by repeat first | assumption | exact aset_same _ _ _ | refine (aset_ne _ _ (by first | assumption | exact Ne.symm (by assumption))).trans ?_) (by rfl) ?_
    refine v_iload_n (dk cd_AW_line 10 rfl) rfl ?_
    refine v_aaldN (j := 4) (dk cd_AW_line 11 rfl) (by repeat first | assumption | exact aset_same _ _ _ | refine (aset_ne _ _ (by first | assumption | exact Ne.symm (by assumption))).trans ?_) (by decide) rfl rfl (by omega) (rng_at hi) ?_
    refine v_getf (dk cd_AW_line 12 rfl) fg_AW_165_Ce (by repeat first | assumption | exact aset_same _ _ _ | refine (aset_ne _ _ (by first | assumption | exact Ne.symm (by assumption))).trans ?_) (by rfl) ?_
    refine v_istore_n (dk cd_AW_line 13 rfl) (by decide) rfl ?_
    refine v_aload_n (dk cd_AW_line 14 rfl) rfl ?_
    refine v_getf (dk cd_AW_line 15 rfl) fg_AW_15_AW (by repeat first | assumption | exact aset_same _ _ _ | refine (aset_ne _ _ (by first | assumption | exact Ne.symm (by assumption))).trans ?_) (by rfl) ?_
    refine v_iload_n (dk cd_AW_line 16 rfl) rfl ?_
    refine v_aaldN (j := 4) (dk cd_AW_line 17 rfl) (by repeat first | assumption | exact aset_same _ _ _ | refine (aset_ne _ _ (by first | assumption | exact Ne.symm (by assumption))).trans ?_) (by decide) rfl rfl (by omega) (rng_at hi) ?_
    refine v_iload_n (dk cd_AW_line 18 rfl) rfl ?_
    refine v_putf (dk cd_AW_line 19 rfl) fp_AW_165_Ce (fun h => by cases h) (by repeat first | assumption | exact aset_same _ _ _ | refine (aset_ne _ _ (by first | assumption | exact Ne.symm (by assumption))).trans ?_) (b2i_narrow _) (b2i_fits _) ?_
    refine v_iload_n (dk cd_AW_line 20 rfl) rfl ?_
    exact v_zretB (dk cd_AW_line 21 rfl) rfl (pub_ret (I.updCob (c' := (c.1, (w, c.2.1.2), c.2.2)) hc rfl rfl rfl) rfl (by simp [spLine, *]))
  · exact v_throw (ex := 3) (dk cd_AW_line 4 rfl) (dk cd_AW_line 5 rfl) (dk cd_AW_line 6 rfl) (dk cd_AW_line 7 rfl) rfl tw_193 rfl (by omega) (by omega) (by omega) (by simp) (pub_thr I (by simp [spLine, *]))
set_option maxRecDepth 100000 in
set_option maxHeartbeats 4000000 in
theorem AW_camp_ok {x c9 : Int32} (I : Inv F S ad A) (Wf : Wf S) (hgl : A.2.1 + 16 ≤ gL (gg u)) (hgs : A.2.2 + 400 ≤ gS (gg u)) : V (gg u) (d + 6) mm_AW_camp 0 [some (.ref (ad 0 0)), some (.int x), some (.int c9), none] [] A (PubR F ad A (spCamp S x c9)) := by
  have h0 := I.aw
  obtain ⟨x1, h1, g1, e1, l1⟩ := I.top (κ := 1) (by omega)
  obtain ⟨x3, h3, g3, e3, l3⟩ := I.top (κ := 3) (by omega)
  subst e1 e3
  have w8 := Wf.2.2.1
  have w3 := Wf.2.2.2.2.1
  refine v_aload_n (dk cd_AW_camp 0 rfl) rfl ?_
  refine v_iload_n (dk cd_AW_camp 1 rfl) rfl ?_
  refine v_rv (r := ("AreaWarnings", TT_AW, 9)) (dk cd_AW_camp 2 rfl) cv_AW_198 rfl (by repeat first | assumption | exact aset_same _ _ _ | refine (aset_ne _ _ (by first | assumption | exact Ne.symm (by assumption))).trans ?_) (as := [_]) rfl rfl (Nat.le_of_ble_eq_true rfl) (by simp [Value.category]) (AW_isHandset_ok I) ?_
  refine v_ifeqB (tgt := 21) (dk cd_AW_camp 3 rfl) rfl (fun q5 => ?_) (fun q5 => ?_)
  · exact v_throw (ex := 3) (dk cd_AW_camp 11 rfl) (dk cd_AW_camp 12 rfl) (dk cd_AW_camp 13 rfl) (dk cd_AW_camp 14 rfl) rfl tw_193 rfl (by omega) (by omega) (by omega) (by simp) (pub_thr I (by simp [spCamp, *]))
  · refine v_iload_n (dk cd_AW_camp 4 rfl) rfl ?_
    refine v_iconst (v := -1) (dk cd_AW_camp 5 rfl) (by decide) ?_
    refine v_icmp_eq (tgt := 29) (dk cd_AW_camp 6 rfl) rfl (fun q10 => ?_) (fun q10 => ?_)
    · obtain ⟨i, hi, rfl⟩ := pIx_nat q5 (by omega)
      have hix : (nI i).toNatClampNeg = i := nI_clamp (by omega)
      obtain ⟨c, hc⟩ : ∃ c, (sHs S)[i]? = some c := ⟨_, List.getElem?_eq_getElem hi⟩
      have hha := hAt_nI hc (by omega)
      have h23 := I.hob hc
      have nn := I.ne (LV_top (S := S) (κ := 0) (by omega)) (LV_hs (κ := 23) (by omega) (by omega) hi) (Or.inl (by omega))
      have nn3 := I.ne (LV_top (S := S) (κ := 3) (by omega)) (LV_hs (κ := 23) (by omega) (by omega) hi) (Or.inl (by omega))
      refine v_aload_n (dk cd_AW_camp 15 rfl) rfl ?_
      refine v_getf (dk cd_AW_camp 16 rfl) fg_AW_36_AW (by repeat first | assumption | exact aset_same _ _ _ | refine (aset_ne _ _ (by first | assumption | exact Ne.symm (by assumption))).trans ?_) (by rfl) ?_
      refine v_iload_n (dk cd_AW_camp 17 rfl) rfl ?_
      refine v_aaldN (j := 6) (dk cd_AW_camp 18 rfl) (by repeat first | assumption | exact aset_same _ _ _ | refine (aset_ne _ _ (by first | assumption | exact Ne.symm (by assumption))).trans ?_) (by decide) rfl rfl (by omega) (rng_at hi) ?_
      refine v_getf (dk cd_AW_camp 19 rfl) fg_AW_183_Ha (by repeat first | assumption | exact aset_same _ _ _ | refine (aset_ne _ _ (by first | assumption | exact Ne.symm (by assumption))).trans ?_) (by rfl) ?_
      refine v_istore_n (dk cd_AW_camp 20 rfl) (by decide) rfl ?_
      refine v_aload_n (dk cd_AW_camp 21 rfl) rfl ?_
      refine v_getf (dk cd_AW_camp 22 rfl) fg_AW_36_AW (by repeat first | assumption | exact aset_same _ _ _ | refine (aset_ne _ _ (by first | assumption | exact Ne.symm (by assumption))).trans ?_) (by rfl) ?_
      refine v_iload_n (dk cd_AW_camp 23 rfl) rfl ?_
      refine v_aaldN (j := 6) (dk cd_AW_camp 24 rfl) (by repeat first | assumption | exact aset_same _ _ _ | refine (aset_ne _ _ (by first | assumption | exact Ne.symm (by assumption))).trans ?_) (by decide) rfl rfl (by omega) (rng_at hi) ?_
      refine v_iload_n (dk cd_AW_camp 25 rfl) rfl ?_
      refine v_putf (dk cd_AW_camp 26 rfl) fp_AW_183_Ha (fun h => by cases h) (by repeat first | assumption | exact aset_same _ _ _ | refine (aset_ne _ _ (by first | assumption | exact Ne.symm (by assumption))).trans ?_) rfl rfl ?_
      refine v_iload_n (dk cd_AW_camp 27 rfl) rfl ?_
      exact v_iret (dk cd_AW_camp 28 rfl) rfl (pub_ret (I.updHob (c' := ((c.1.1, c9, c.1.2.2), c.2)) hc rfl rfl) rfl (by simp [spCamp, *]))
    · refine v_aload_n (dk cd_AW_camp 7 rfl) rfl ?_
      refine v_iload_n (dk cd_AW_camp 8 rfl) rfl ?_
      refine v_rv (r := ("AreaWarnings", TT_AW, 9)) (dk cd_AW_camp 9 rfl) cv_AW_186 rfl (by repeat first | assumption | exact aset_same _ _ _ | refine (aset_ne _ _ (by first | assumption | exact Ne.symm (by assumption))).trans ?_) (as := [_]) rfl rfl (Nat.le_of_ble_eq_true rfl) (by simp [Value.category]) (AW_isCell_ok I) ?_
      refine v_ifneB (tgt := 29) (dk cd_AW_camp 10 rfl) rfl (fun q18 => ?_) (fun q18 => ?_)
      · obtain ⟨i, hi, rfl⟩ := pIx_nat q5 (by omega)
        have hix : (nI i).toNatClampNeg = i := nI_clamp (by omega)
        obtain ⟨c, hc⟩ : ∃ c, (sHs S)[i]? = some c := ⟨_, List.getElem?_eq_getElem hi⟩
        have hha := hAt_nI hc (by omega)
        have h23 := I.hob hc
        have nn := I.ne (LV_top (S := S) (κ := 0) (by omega)) (LV_hs (κ := 23) (by omega) (by omega) hi) (Or.inl (by omega))
        have nn3 := I.ne (LV_top (S := S) (κ := 3) (by omega)) (LV_hs (κ := 23) (by omega) (by omega) hi) (Or.inl (by omega))
        refine v_aload_n (dk cd_AW_camp 15 rfl) rfl ?_
        refine v_getf (dk cd_AW_camp 16 rfl) fg_AW_36_AW (by repeat first | assumption | exact aset_same _ _ _ | refine (aset_ne _ _ (by first | assumption | exact Ne.symm (by assumption))).trans ?_) (by rfl) ?_
        refine v_iload_n (dk cd_AW_camp 17 rfl) rfl ?_
        refine v_aaldN (j := 6) (dk cd_AW_camp 18 rfl) (by repeat first | assumption | exact aset_same _ _ _ | refine (aset_ne _ _ (by first | assumption | exact Ne.symm (by assumption))).trans ?_) (by decide) rfl rfl (by omega) (rng_at hi) ?_
        refine v_getf (dk cd_AW_camp 19 rfl) fg_AW_183_Ha (by repeat first | assumption | exact aset_same _ _ _ | refine (aset_ne _ _ (by first | assumption | exact Ne.symm (by assumption))).trans ?_) (by rfl) ?_
        refine v_istore_n (dk cd_AW_camp 20 rfl) (by decide) rfl ?_
        refine v_aload_n (dk cd_AW_camp 21 rfl) rfl ?_
        refine v_getf (dk cd_AW_camp 22 rfl) fg_AW_36_AW (by repeat first | assumption | exact aset_same _ _ _ | refine (aset_ne _ _ (by first | assumption | exact Ne.symm (by assumption))).trans ?_) (by rfl) ?_
        refine v_iload_n (dk cd_AW_camp 23 rfl) rfl ?_
        refine v_aaldN (j := 6) (dk cd_AW_camp 24 rfl) (by repeat first | assumption | exact aset_same _ _ _ | refine (aset_ne _ _ (by first | assumption | exact Ne.symm (by assumption))).trans ?_) (by decide) rfl rfl (by omega) (rng_at hi) ?_
        refine v_iload_n (dk cd_AW_camp 25 rfl) rfl ?_
        refine v_putf (dk cd_AW_camp 26 rfl) fp_AW_183_Ha (fun h => by cases h) (by repeat first | assumption | exact aset_same _ _ _ | refine (aset_ne _ _ (by first | assumption | exact Ne.symm (by assumption))).trans ?_) rfl rfl ?_
        refine v_iload_n (dk cd_AW_camp 27 rfl) rfl ?_
        exact v_iret (dk cd_AW_camp 28 rfl) rfl (pub_ret (I.updHob (c' := ((c.1.1, c9, c.1.2.2), c.2)) hc rfl rfl) rfl (by simp [spCamp, *]))
      · exact v_throw (ex := 3) (dk cd_AW_camp 11 rfl) (dk cd_AW_camp 12 rfl) (dk cd_AW_camp 13 rfl) (dk cd_AW_camp 14 rfl) rfl tw_193 rfl (by omega) (by omega) (by omega) (by simp) (pub_thr I (by simp [spCamp, *]))
set_option maxRecDepth 100000 in
set_option maxHeartbeats 4000000 in
theorem AW_miss_ok {x n : Int32} (I : Inv F S ad A) (Wf : Wf S) (hgl : A.2.1 + 16 ≤ gL (gg u)) (hgs : A.2.2 + 400 ≤ gS (gg u)) : V (gg u) (d + 6) mm_AW_miss 0 [some (.ref (ad 0 0)), some (.int x), some (.int n)] [] A (PubR F ad A (spMiss S x n)) := by
  have h0 := I.aw
  obtain ⟨x1, h1, g1, e1, l1⟩ := I.top (κ := 1) (by omega)
  obtain ⟨x3, h3, g3, e3, l3⟩ := I.top (κ := 3) (by omega)
  subst e1 e3
  have w8 := Wf.2.2.1
  have w3 := Wf.2.2.2.2.1
  refine v_aload_n (dk cd_AW_miss 0 rfl) rfl ?_
  refine v_iload_n (dk cd_AW_miss 1 rfl) rfl ?_
  refine v_rv (r := ("AreaWarnings", TT_AW, 9)) (dk cd_AW_miss 2 rfl) cv_AW_198 rfl (by repeat first | assumption | exact aset_same _ _ _ | refine (aset_ne _ _ (by first | assumption | exact Ne.symm (by assumption))).trans ?_) (as := [_]) rfl rfl (Nat.le_of_ble_eq_true rfl) (by simp [Value.category]) (AW_isHandset_ok I) ?_
  refine v_ifneB (tgt := 16) (dk cd_AW_miss 3 rfl) rfl (fun q5 => ?_) (fun q5 => ?_)
  · refine v_iload_n (dk cd_AW_miss 8 rfl) rfl ?_
    refine v_if_lt (tgt := 27) (dk cd_AW_miss 9 rfl) rfl (fun q17 => ?_) (fun q17 => ?_)
    · exact v_throw (ex := 0) (dk cd_AW_miss 13 rfl) (dk cd_AW_miss 14 rfl) (dk cd_AW_miss 15 rfl) (dk cd_AW_miss 16 rfl) rfl tw_54 rfl (by omega) (by omega) (by omega) (by simp) (pub_thr I (by simp [spMiss, *]))
    · refine v_iload_n (dk cd_AW_miss 10 rfl) rfl ?_
      refine v_sipush (v := 1000) (dk cd_AW_miss 11 rfl) (by decide) ?_
      refine v_icmp_le (tgt := 35) (dk cd_AW_miss 12 rfl) rfl (fun q24 => ?_) (fun q24 => ?_)
      · obtain ⟨i, hi, rfl⟩ := pIx_nat q5 (by omega)
        have hix : (nI i).toNatClampNeg = i := nI_clamp (by omega)
        obtain ⟨c, hc⟩ : ∃ c, (sHs S)[i]? = some c := ⟨_, List.getElem?_eq_getElem hi⟩
        have hha := hAt_nI hc (by omega)
        have h23 := I.hob hc
        have nn := I.ne (LV_top (S := S) (κ := 0) (by omega)) (LV_hs (κ := 23) (by omega) (by omega) hi) (Or.inl (by omega))
        have nn3 := I.ne (LV_top (S := S) (κ := 3) (by omega)) (LV_hs (κ := 23) (by omega) (by omega) hi) (Or.inl (by omega))
        refine v_aload_n (dk cd_AW_miss 17 rfl) rfl ?_
        refine v_getf (dk cd_AW_miss 18 rfl) fg_AW_36_AW (by repeat first | assumption | exact aset_same _ _ _ | refine (aset_ne _ _ (by first | assumption | exact Ne.symm (by assumption))).trans ?_) (by rfl) ?_
        refine v_iload_n (dk cd_AW_miss 19 rfl) rfl ?_
        refine v_aaldN (j := 6) (dk cd_AW_miss 20 rfl) (by repeat first | assumption | exact aset_same _ _ _ | refine (aset_ne _ _ (by first | assumption | exact Ne.symm (by assumption))).trans ?_) (by decide) rfl rfl (by omega) (rng_at hi) ?_
        refine v_dup (dk cd_AW_miss 21 rfl) rfl ?_
        refine v_getf (dk cd_AW_miss 22 rfl) fg_AW_208_Ha (by repeat first | assumption | exact aset_same _ _ _ | refine (aset_ne _ _ (by first | assumption | exact Ne.symm (by assumption))).trans ?_) (by rfl) ?_
        refine v_iload_n (dk cd_AW_miss 23 rfl) rfl ?_
        refine v_iadd (dk cd_AW_miss 24 rfl) ?_
        refine v_putf (dk cd_AW_miss 25 rfl) fp_AW_208_Ha (fun h => by cases h) (by repeat first | assumption | exact aset_same _ _ _ | refine (aset_ne _ _ (by first | assumption | exact Ne.symm (by assumption))).trans ?_) rfl rfl ?_
        refine v_aload_n (dk cd_AW_miss 26 rfl) rfl ?_
        refine v_getf (dk cd_AW_miss 27 rfl) fg_AW_36_AW (by repeat first | assumption | exact aset_same _ _ _ | refine (aset_ne _ _ (by first | assumption | exact Ne.symm (by assumption))).trans ?_) (by rfl) ?_
        refine v_iload_n (dk cd_AW_miss 28 rfl) rfl ?_
        refine v_aaldN (j := 6) (dk cd_AW_miss 29 rfl) (by repeat first | assumption | exact aset_same _ _ _ | refine (aset_ne _ _ (by first | assumption | exact Ne.symm (by assumption))).trans ?_) (by decide) rfl rfl (by omega) (rng_at hi) ?_
        refine v_getf (dk cd_AW_miss 30 rfl) fg_AW_208_Ha (by repeat first | assumption | exact aset_same _ _ _ | refine (aset_ne _ _ (by first | assumption | exact Ne.symm (by assumption))).trans ?_) (by rfl) ?_
        exact v_iret (dk cd_AW_miss 31 rfl) rfl (pub_ret (I.updHob (c' := ((c.1.1, c.1.2.1, c.1.2.2.1 + n, c.1.2.2.2), c.2)) hc rfl rfl) rfl (by simp [spMiss, *]))
      · exact v_throw (ex := 0) (dk cd_AW_miss 13 rfl) (dk cd_AW_miss 14 rfl) (dk cd_AW_miss 15 rfl) (dk cd_AW_miss 16 rfl) rfl tw_54 rfl (by omega) (by omega) (by omega) (by simp) (pub_thr I (by simp [spMiss, *]))
  · exact v_throw (ex := 3) (dk cd_AW_miss 4 rfl) (dk cd_AW_miss 5 rfl) (dk cd_AW_miss 6 rfl) (dk cd_AW_miss 7 rfl) rfl tw_193 rfl (by omega) (by omega) (by omega) (by simp) (pub_thr I (by simp [spMiss, *]))
set_option maxRecDepth 100000 in
set_option maxHeartbeats 4000000 in
theorem Ha_addLiked_ok {i : Nat} {c : HaS} {l : Int32} (I : Inv F S ad A) (hc : (sHs S)[i]? = some c) (h3 : c.2.1.length < 3) : V (gg u) d mm_Ha_addLiked 0 [some (.ref (ad 23 i)), some (.int l)] [] A (Ps (some (.int (nI (c.2.1.length + 1)))) F (setHs S i (c.1, c.2.1 ++ [l], c.2.2)) ad A) := by
  have hi := (List.getElem?_eq_some_iff.mp hc).1
  have h23 := I.hob hc
  obtain ⟨x24, h24, g24, e24, l24⟩ := I.hs (κ := 24) (by omega) (by omega) hc
  subst e24
  have nn := I.ne (LV_hs (S := S) (κ := 23) (by omega) (by omega) hi) (LV_hs (κ := 24) (by omega) (by omega) hi) (Or.inl (by omega))
  simp only [List.length_map] at l24
  refine v_aload_n (dk cd_Ha_addLiked 0 rfl) rfl ?_
  refine v_getf (dk cd_Ha_addLiked 1 rfl) fg_Ha_15_Ha (by repeat first | assumption | exact aset_same _ _ _ | refine (aset_ne _ _ (by first | assumption | exact Ne.symm (by assumption))).trans ?_) (by rfl) ?_
  refine v_aload_n (dk cd_Ha_addLiked 2 rfl) rfl ?_
  refine v_getf (dk cd_Ha_addLiked 3 rfl) fg_Ha_19_Ha (by repeat first | assumption | exact aset_same _ _ _ | refine (aset_ne _ _ (by first | assumption | exact Ne.symm (by assumption))).trans ?_) (by rfl) ?_
  refine v_iload_n (dk cd_Ha_addLiked 4 rfl) rfl ?_
  refine v_iastN (j := 0) (dk cd_Ha_addLiked 5 rfl) (by repeat first | assumption | exact aset_same _ _ _ | refine (aset_ne _ _ (by first | assumption | exact Ne.symm (by assumption))).trans ?_) (by decide) rfl (by omega) (by rw [List.length_append, List.length_map]; omega) ?_
  refine v_aload_n (dk cd_Ha_addLiked 6 rfl) rfl ?_
  refine v_dup (dk cd_Ha_addLiked 7 rfl) rfl ?_
  refine v_getf (dk cd_Ha_addLiked 8 rfl) fg_Ha_19_Ha (by repeat first | assumption | exact aset_same _ _ _ | refine (aset_ne _ _ (by first | assumption | exact Ne.symm (by assumption))).trans ?_) (by rfl) ?_
  refine v_iconst (v := nI 1) (dk cd_Ha_addLiked 9 rfl) (by decide) ?_
  refine v_iaddN (dk cd_Ha_addLiked 10 rfl) ?_
  refine v_putf (dk cd_Ha_addLiked 11 rfl) fp_Ha_19_Ha (fun h => by cases h) (by repeat first | assumption | exact aset_same _ _ _ | refine (aset_ne _ _ (by first | assumption | exact Ne.symm (by assumption))).trans ?_) rfl rfl ?_
  refine v_aload_n (dk cd_Ha_addLiked 12 rfl) rfl ?_
  refine v_getf (dk cd_Ha_addLiked 13 rfl) fg_Ha_19_Ha (by repeat first | assumption | exact aset_same _ _ _ | refine (aset_ne _ _ (by first | assumption | exact Ne.symm (by assumption))).trans ?_) (by rfl) ?_
  refine v_iret (dk cd_Ha_addLiked 14 rfl) rfl (ps_of (I.updHs hi rfl (fun q hq => ?_) (fun κ h1 h2 => ?_)) rfl rfl)
  · rw [aset_ne _ _ (hq 23 (by omega) (by omega)), aset_ne _ _ (hq 24 (by omega) (by omega))]
  · by_cases k3 : κ = 23
    · subst k3
      exact ⟨_, aset_same _ _ _, by simp [CHs]⟩
    by_cases k4 : κ = 24
    · subst k4
      refine ⟨_, (aset_ne _ _ (Ne.symm nn)).trans (aset_same _ _ _), ?_⟩
      have h9 := ArG.app (k := 100) (v := .int l) (show (c.2.1.map fun b => Value.int b).length + g24.length = 3 by simpa using l24) (by simpa using h3)
      simpa [CHs] using h9
    · obtain ⟨xx, hh1, hh2⟩ := I.hs (κ := κ) h1 h2 hc
      refine ⟨xx, ?_, ?_⟩
      · rw [aset_ne _ _ (I.ne (LV_hs h1 h2 hi) (LV_hs (κ := 23) (by omega) (by omega) hi) (Or.inl k3)), aset_ne _ _ (I.ne (LV_hs h1 h2 hi) (LV_hs (κ := 24) (by omega) (by omega) hi) (Or.inl k4))]
        exact hh1
      · unfold CHs at hh2 ⊢
        have hk : κ = 25 ∨ κ = 26 ∨ κ = 27 ∨ κ = 28 ∨ κ = 29 ∨ κ = 30 := by omega
        rcases hk with rfl | rfl | rfl | rfl | rfl | rfl <;> exact hh2
set_option maxRecDepth 100000 in
set_option maxHeartbeats 4000000 in
theorem AW_likes_ok {x l : Int32} (I : Inv F S ad A) (Wf : Wf S) (hgl : A.2.1 + 16 ≤ gL (gg u)) (hgs : A.2.2 + 400 ≤ gS (gg u)) (hl3 : ∀ (i : Nat) (h : HaS), (sHs S)[i]? = some h → h.2.1.length ≤ 3) : V (gg u) (d + 6) mm_AW_likes 0 [some (.ref (ad 0 0)), some (.int x), some (.int l)] [] A (PubR F ad A (spLikes S x l)) := by
  have h0 := I.aw
  obtain ⟨x1, h1, g1, e1, l1⟩ := I.top (κ := 1) (by omega)
  obtain ⟨x3, h3, g3, e3, l3⟩ := I.top (κ := 3) (by omega)
  subst e1 e3
  have w8 := Wf.2.2.1
  have w3 := Wf.2.2.2.2.1
  refine v_aload_n (dk cd_AW_likes 0 rfl) rfl ?_
  refine v_iload_n (dk cd_AW_likes 1 rfl) rfl ?_
  refine v_rv (r := ("AreaWarnings", TT_AW, 9)) (dk cd_AW_likes 2 rfl) cv_AW_198 rfl (by repeat first | assumption | exact aset_same _ _ _ | refine (aset_ne _ _ (by first | assumption | exact Ne.symm (by assumption))).trans ?_) (as := [_]) rfl rfl (Nat.le_of_ble_eq_true rfl) (by simp [Value.category]) (AW_isHandset_ok I) ?_
  refine v_ifneB (tgt := 16) (dk cd_AW_likes 3 rfl) rfl (fun q5 => ?_) (fun q5 => ?_)
  · refine v_iload_n (dk cd_AW_likes 8 rfl) rfl ?_
    refine v_rs (dk cd_AW_likes 9 rfl) cs_AW_89 (as := [_]) rfl rfl (Nat.le_of_ble_eq_true rfl) (by simp [Value.category]) AW_isLanguage_ok ?_
    refine v_ifneB (tgt := 31) (dk cd_AW_likes 10 rfl) rfl (fun q20 => ?_) (fun q20 => ?_)
    · obtain ⟨i, hi, rfl⟩ := pIx_nat q5 (by omega)
      have hix : (nI i).toNatClampNeg = i := nI_clamp (by omega)
      obtain ⟨c, hc⟩ : ∃ c, (sHs S)[i]? = some c := ⟨_, List.getElem?_eq_getElem hi⟩
      have hha := hAt_nI hc (by omega)
      have h23 := I.hob hc
      have hl9 := hl3 _ _ hc
      refine v_aload_n (dk cd_AW_likes 15 rfl) rfl ?_
      refine v_getf (dk cd_AW_likes 16 rfl) fg_AW_36_AW (by repeat first | assumption | exact aset_same _ _ _ | refine (aset_ne _ _ (by first | assumption | exact Ne.symm (by assumption))).trans ?_) (by rfl) ?_
      refine v_iload_n (dk cd_AW_likes 17 rfl) rfl ?_
      refine v_aaldN (j := 6) (dk cd_AW_likes 18 rfl) (by repeat first | assumption | exact aset_same _ _ _ | refine (aset_ne _ _ (by first | assumption | exact Ne.symm (by assumption))).trans ?_) (by decide) rfl rfl (by omega) (rng_at hi) ?_
      refine v_getf (dk cd_AW_likes 19 rfl) fg_AW_201_Ha (by repeat first | assumption | exact aset_same _ _ _ | refine (aset_ne _ _ (by first | assumption | exact Ne.symm (by assumption))).trans ?_) (by rfl) ?_
      refine v_iconst (v := nI 3) (dk cd_AW_likes 20 rfl) (by decide) ?_
      refine v_icmp_neN (tgt := 52) (dk cd_AW_likes 21 rfl) rfl (by omega) (by omega) (fun q41 => ?_) (fun q41 => ?_)
      · refine v_aload_n (dk cd_AW_likes 26 rfl) rfl ?_
        refine v_getf (dk cd_AW_likes 27 rfl) fg_AW_36_AW (by repeat first | assumption | exact aset_same _ _ _ | refine (aset_ne _ _ (by first | assumption | exact Ne.symm (by assumption))).trans ?_) (by rfl) ?_
        refine v_iload_n (dk cd_AW_likes 28 rfl) rfl ?_
        refine v_aaldN (j := 6) (dk cd_AW_likes 29 rfl) (by repeat first | assumption | exact aset_same _ _ _ | refine (aset_ne _ _ (by first | assumption | exact Ne.symm (by assumption))).trans ?_) (by decide) rfl rfl (by omega) (rng_at hi) ?_
        refine v_iload_n (dk cd_AW_likes 30 rfl) rfl ?_
        refine v_callv (r := ("AreaWarnings$Handset", TT_Ha, 13)) (dk cd_AW_likes 31 rfl) cv_AW_204 rfl (by repeat first | assumption | exact aset_same _ _ _ | refine (aset_ne _ _ (by first | assumption | exact Ne.symm (by assumption))).trans ?_) (as := [_]) rfl rfl (Nat.le_of_ble_eq_true rfl) (by simp [Value.category]) (Ha_addLiked_ok I hc (by omega)) ps_no (fun v9 A9 hq => ?_)
        obtain ⟨e9, I, hA2⟩ := hq
        cases e9
        exact v_iret (dk cd_AW_likes 32 rfl) rfl (pub_ret I hA2 (by simp [spLikes, *]))
      · exact v_throw (ex := 1) (dk cd_AW_likes 22 rfl) (dk cd_AW_likes 23 rfl) (dk cd_AW_likes 24 rfl) (dk cd_AW_likes 25 rfl) rfl tw_57 rfl (by omega) (by omega) (by omega) (by simp) (pub_thr I (by simp [spLikes, *]))
    · exact v_throw (ex := 0) (dk cd_AW_likes 11 rfl) (dk cd_AW_likes 12 rfl) (dk cd_AW_likes 13 rfl) (dk cd_AW_likes 14 rfl) rfl tw_54 rfl (by omega) (by omega) (by omega) (by simp) (pub_thr I (by simp [spLikes, *]))
  · exact v_throw (ex := 3) (dk cd_AW_likes 4 rfl) (dk cd_AW_likes 5 rfl) (dk cd_AW_likes 6 rfl) (dk cd_AW_likes 7 rfl) rfl tw_193 rfl (by omega) (by omega) (by omega) (by simp) (pub_thr I (by simp [spLikes, *]))
end W3
end
section
/-! the public reads: listed, sent, shown, shownByte, covers, version, total -/
theorem sw5 (x : Int32) : x = 0 ∨ x = 1 ∨ x = 2 ∨ x = 3 ∨ x = 4 ∨ (x.toInt < 0 ∨ 4 < x.toInt) := by
  by_cases h : x.toInt < 0 ∨ 4 < x.toInt
  · exact Or.inr (Or.inr (Or.inr (Or.inr (Or.inr h))))
  · have h1 : x.toInt = 0 ∨ x.toInt = 1 ∨ x.toInt = 2 ∨ x.toInt = 3 ∨ x.toInt = 4 := by omega
    rcases h1 with h1 | h1 | h1 | h1 | h1
    · exact Or.inl (Int32.toInt_inj.mp h1)
    · exact Or.inr (Or.inl (Int32.toInt_inj.mp h1))
    · exact Or.inr (Or.inr (Or.inl (Int32.toInt_inj.mp h1)))
    · exact Or.inr (Or.inr (Or.inr (Or.inl (Int32.toInt_inj.mp h1))))
    · exact Or.inr (Or.inr (Or.inr (Or.inr (Or.inl (Int32.toInt_inj.mp h1)))))
theorem sw6 (x : Int32) : x = 0 ∨ x = 1 ∨ x = 2 ∨ x = 3 ∨ x = 4 ∨ x = 5 ∨ (x.toInt < 0 ∨ 5 < x.toInt) := by
  rcases sw5 x with h | h | h | h | h | h
  · exact Or.inl h
  · exact Or.inr (Or.inl h)
  · exact Or.inr (Or.inr (Or.inl h))
  · exact Or.inr (Or.inr (Or.inr (Or.inl h)))
  · exact Or.inr (Or.inr (Or.inr (Or.inr (Or.inl h))))
  · by_cases h5 : x.toInt = 5
    · exact Or.inr (Or.inr (Or.inr (Or.inr (Or.inr (Or.inl (Int32.toInt_inj.mp h5))))))
    · exact Or.inr (Or.inr (Or.inr (Or.inr (Or.inr (Or.inr (by omega))))))
theorem sw_out {x : Int32} {n : Int} (h : x.toInt < 0 ∨ n < x.toInt) {k : Int32} (hk : 0 ≤ k.toInt ∧ k.toInt ≤ n) : ¬ x = k := fun e => by subst e; omega
/-- versions, lists and what is shown, in their bounds -/
def WfV (S : SS) : Prop := ∀ (i : Nat) (v : VeS) (s : SpS), (sVers S)[i]? = some v → v.2.2 = some s → s.2.1.1.length ≤ 8 ∧ s.2.1.2.length = 3 ∧ (∀ l, tl s.2.1.2 l ≤ 30) ∧ s.2.2.length = 8 ∧ ¬ s.1.2 = 0
def WfC (S : SS) : Prop := ∀ (i : Nat) (c : CeS), (sCells S)[i]? = some c → c.2.2.1.length ≤ 12 ∧ (∀ v ∈ c.2.2.1, v < (sVers S).length) ∧ c.2.2.2.length ≤ 108 ∧ ∀ p ∈ c.2.2.2, p.1 < (sVers S).length ∧ ((vAt S p.1).2.2.isSome = true → ∃ l, l < 3 ∧ p.2.1 = nI l)
def WfH (S : SS) : Prop := ∀ (i : Nat) (h : HaS), (sHs S)[i]? = some h → h.2.1.length ≤ 3 ∧ (∀ l ∈ h.2.1, ∃ n, n < 3 ∧ l = nI n) ∧ h.2.2.1.1.length = 12 ∧ h.2.2.1.2.1.length = 12 ∧ h.2.2.1.2.2.length = 12 ∧ (∀ v, some v ∈ h.2.2.1.1 → v < (sVers S).length) ∧ h.2.2.2.length ≤ 40 ∧
  ∀ p ∈ h.2.2.2, p.1 < (sVers S).length ∧ (vAt S p.1).2.2.isSome = true ∧ ∃ l, l < 3 ∧ p.2.1 = nI l
def lsVal (S : SS) (v : VeS) (q : Int32) : Value ⊕ Nat := if q = 0 then .inl (.int (wId S v.1)) else if q = 1 then .inl (.int v.2.1.1) else if q = 2 then .inl (.int v.2.1.2.1) else if q = 3 then .inl (.int v.2.1.2.2) else if q = 4 then .inl (.int (b2i v.2.2.isSome)) else .inr 0
def spListed (S : SS) (x k q : Int32) : SS × (Value ⊕ Nat) := if pIx x (sCells S).length = true ∧ pIx k (cAt S x).2.2.1.length = true then (S, lsVal S (vAt S ((cAt S x).2.2.1.getD k.toNatClampNeg 0)) q) else (S, .inr 3)
section R4
variable {u : Ux} {d : Nat} {A : AH} {F : Nat → Option AC} {S : SS} {ad : Nat → Nat → Nat}
theorem vAt_of {i : Nat} {v : VeS} (h : (sVers S)[i]? = some v) : vAt S i = v := by simp [vAt, h]
set_option maxRecDepth 100000 in
set_option maxHeartbeats 4000000 in
theorem AW_listed_ok {x k q : Int32} (I : Inv F S ad A) (Wf : Wf S) (hgl : A.2.1 + 16 ≤ gL (gg u)) (hgs : A.2.2 + 400 ≤ gS (gg u)) (WC : WfC S) : V (gg u) (d + 6) mm_AW_listed 0 [some (.ref (ad 0 0)), some (.int x), some (.int k), some (.int q), none] [] A (PubR F ad A (spListed S x k q)) := by
  have h0 := I.aw
  obtain ⟨x1, h1, g1, e1, l1⟩ := I.top (κ := 1) (by omega)
  obtain ⟨x3, h3, g3, e3, l3⟩ := I.top (κ := 3) (by omega)
  subst e1 e3
  have w8 := Wf.2.2.1
  have w3 := Wf.2.2.2.2.1
  refine v_aload_n (dk cd_AW_listed 0 rfl) rfl ?_
  refine v_iload_n (dk cd_AW_listed 1 rfl) rfl ?_
  refine v_rv (r := ("AreaWarnings", TT_AW, 9)) (dk cd_AW_listed 2 rfl) cv_AW_186 rfl (by repeat first | assumption | exact aset_same _ _ _ | refine (aset_ne _ _ (by first | assumption | exact Ne.symm (by assumption))).trans ?_) (as := [_]) rfl rfl (Nat.le_of_ble_eq_true rfl) (by simp [Value.category]) (AW_isCell_ok I) ?_
  refine v_ifeqB (tgt := 25) (dk cd_AW_listed 3 rfl) rfl (fun q5 => ?_) (fun q5 => ?_)
  · exact v_throw (ex := 3) (dk cd_AW_listed 13 rfl) (dk cd_AW_listed 14 rfl) (dk cd_AW_listed 15 rfl) (dk cd_AW_listed 16 rfl) rfl tw_193 rfl (by omega) (by omega) (by omega) (by simp) (pub_thr I (by first | (simp [spListed, q5]; done) | (have hk0 : pIx k c.2.2.1.length = false := (by first | (simp [pIx, q9]; done) | (simp [pIx, Int32.not_lt.mp q22]; done)); simp [spListed, hca, hk0]; done)))
  · obtain ⟨i, hi, rfl⟩ := pIx_nat q5 (by omega)
    have hix : (nI i).toNatClampNeg = i := nI_clamp (by omega)
    obtain ⟨c, hc⟩ : ∃ c, (sCells S)[i]? = some c := ⟨_, List.getElem?_eq_getElem hi⟩
    have hca := cAt_nI hc (by omega)
    have h14 := I.cob hc
    obtain ⟨hlc, hlv, -⟩ := WC _ _ hc
    refine v_iload_n (dk cd_AW_listed 4 rfl) rfl ?_
    refine v_if_lt (tgt := 25) (dk cd_AW_listed 5 rfl) rfl (fun q9 => ?_) (fun q9 => ?_)
    · exact v_throw (ex := 3) (dk cd_AW_listed 13 rfl) (dk cd_AW_listed 14 rfl) (dk cd_AW_listed 15 rfl) (dk cd_AW_listed 16 rfl) rfl tw_193 rfl (by omega) (by omega) (by omega) (by simp) (pub_thr I (by first | (simp [spListed, q5]; done) | (have hk0 : pIx k c.2.2.1.length = false := (by first | (simp [pIx, q9]; done) | (simp [pIx, Int32.not_lt.mp q22]; done)); simp [spListed, hca, hk0]; done)))
    · refine v_iload_n (dk cd_AW_listed 6 rfl) rfl ?_
      refine v_aload_n (dk cd_AW_listed 7 rfl) rfl ?_
      refine v_getf (dk cd_AW_listed 8 rfl) fg_AW_15_AW (by repeat first | assumption | exact aset_same _ _ _ | refine (aset_ne _ _ (by first | assumption | exact Ne.symm (by assumption))).trans ?_) (by rfl) ?_
      refine v_iload_n (dk cd_AW_listed 9 rfl) rfl ?_
      refine v_aaldN (j := 4) (dk cd_AW_listed 10 rfl) (by repeat first | assumption | exact aset_same _ _ _ | refine (aset_ne _ _ (by first | assumption | exact Ne.symm (by assumption))).trans ?_) (by decide) rfl rfl (by omega) (rng_at hi) ?_
      refine v_getf (dk cd_AW_listed 11 rfl) fg_AW_215_Ce (by repeat first | assumption | exact aset_same _ _ _ | refine (aset_ne _ _ (by first | assumption | exact Ne.symm (by assumption))).trans ?_) (by rfl) ?_
      refine v_icmp_lt (tgt := 33) (dk cd_AW_listed 12 rfl) rfl (fun q22 => ?_) (fun q22 => ?_)
      · have hkp : pIx k c.2.2.1.length = true := by simp [pIx, Int32.not_le, *]
        obtain ⟨j, hj, rfl⟩ := pIx_nat hkp (by omega)
        have hjx : (nI j).toNatClampNeg = j := nI_clamp (by omega)
        obtain ⟨gl, hgl2, hll⟩ := I.lst hc
        have hvn : c.2.2.1[j] < (sVers S).length := hlv _ (List.getElem_mem hj)
        have hve := List.getElem?_eq_getElem hvn
        have hva := vAt_of hve
        generalize (sVers S)[c.2.2.1[j]] = v at hve hva
        obtain ⟨vl, hv⟩ := I.verV hve
        have hwn := Wf.2.2.2.2.2.2.2 _ _ hve
        have hwe := List.getElem?_eq_getElem hwn
        have hwo := I.warn hwe
        have hwi := wId_of hwe
        refine v_aload_n (dk cd_AW_listed 17 rfl) rfl ?_
        refine v_getf (dk cd_AW_listed 18 rfl) fg_AW_15_AW (by repeat first | assumption | exact aset_same _ _ _ | refine (aset_ne _ _ (by first | assumption | exact Ne.symm (by assumption))).trans ?_) (by rfl) ?_
        refine v_iload_n (dk cd_AW_listed 19 rfl) rfl ?_
        refine v_aaldN (j := 4) (dk cd_AW_listed 20 rfl) (by repeat first | assumption | exact aset_same _ _ _ | refine (aset_ne _ _ (by first | assumption | exact Ne.symm (by assumption))).trans ?_) (by decide) rfl rfl (by omega) (rng_at hi) ?_
        refine v_getf (dk cd_AW_listed 21 rfl) fg_AW_218_Ce (by repeat first | assumption | exact aset_same _ _ _ | refine (aset_ne _ _ (by first | assumption | exact Ne.symm (by assumption))).trans ?_) (by rfl) ?_
        refine v_iload_n (dk cd_AW_listed 22 rfl) rfl ?_
        refine v_aaldN (j := 7) (dk cd_AW_listed 23 rfl) (by repeat first | assumption | exact aset_same _ _ _ | refine (aset_ne _ _ (by first | assumption | exact Ne.symm (by assumption))).trans ?_) (by decide) rfl rfl (by omega) (map_app hj) ?_
        refine v_astore (dk cd_AW_listed 24 rfl) (by decide) rfl ?_
        refine v_iload_n (dk cd_AW_listed 25 rfl) rfl ?_
        rcases sw5 q with rfl | rfl | rfl | rfl | rfl | hx
        · refine v_tableIn (tgt := 80) (dk cd_AW_listed 26 rfl) (by decide) (by decide) (by rfl) rfl ?_
          refine v_aload (dk cd_AW_listed 27 rfl) rfl ?_
          refine v_getf (dk cd_AW_listed 28 rfl) (fgV fg_AW_222_Sp fg_AW_222_Ca _) (by repeat first | assumption | exact aset_same _ _ _ | refine (aset_ne _ _ (by first | assumption | exact Ne.symm (by assumption))).trans ?_) (by rfl) ?_
          refine v_getf (dk cd_AW_listed 29 rfl) fg_AW_226_Wa (by repeat first | assumption | exact aset_same _ _ _ | refine (aset_ne _ _ (by first | assumption | exact Ne.symm (by assumption))).trans ?_) (by rfl) ?_
          exact v_iret (dk cd_AW_listed 30 rfl) rfl (pub_ret I rfl (by simp [spListed, lsVal, b2i, *]))
        · refine v_tableIn (tgt := 89) (dk cd_AW_listed 26 rfl) (by decide) (by decide) (by rfl) rfl ?_
          refine v_aload (dk cd_AW_listed 31 rfl) rfl ?_
          refine v_getf (dk cd_AW_listed 32 rfl) (fgV fg_AW_162_Sp fg_AW_162_Ca _) (by repeat first | assumption | exact aset_same _ _ _ | refine (aset_ne _ _ (by first | assumption | exact Ne.symm (by assumption))).trans ?_) (by rfl) ?_
          exact v_iret (dk cd_AW_listed 33 rfl) rfl (pub_ret I rfl (by simp [spListed, lsVal, b2i, *]))
        · refine v_tableIn (tgt := 95) (dk cd_AW_listed 26 rfl) (by decide) (by decide) (by rfl) rfl ?_
          refine v_aload (dk cd_AW_listed 34 rfl) rfl ?_
          refine v_getf (dk cd_AW_listed 35 rfl) (fgV fg_AW_151_Sp fg_AW_151_Ca _) (by repeat first | assumption | exact aset_same _ _ _ | refine (aset_ne _ _ (by first | assumption | exact Ne.symm (by assumption))).trans ?_) (by rfl) ?_
          exact v_iret (dk cd_AW_listed 36 rfl) rfl (pub_ret I rfl (by simp [spListed, lsVal, b2i, *]))
        · refine v_tableIn (tgt := 101) (dk cd_AW_listed 26 rfl) (by decide) (by decide) (by rfl) rfl ?_
          refine v_aload (dk cd_AW_listed 37 rfl) rfl ?_
          refine v_getf (dk cd_AW_listed 38 rfl) (fgV fg_AW_156_Sp fg_AW_156_Ca _) (by repeat first | assumption | exact aset_same _ _ _ | refine (aset_ne _ _ (by first | assumption | exact Ne.symm (by assumption))).trans ?_) (by rfl) ?_
          exact v_iret (dk cd_AW_listed 39 rfl) rfl (pub_ret I rfl (by simp [spListed, lsVal, b2i, *]))
        · refine v_tableIn (tgt := 107) (dk cd_AW_listed 26 rfl) (by decide) (by decide) (by rfl) rfl ?_
          refine v_aload (dk cd_AW_listed 40 rfl) rfl ?_
          rcases hsp : v.2.2 with _ | sp
          · have hk9 : vKind v = 2 := by simp [vKind, hsp]
            have hv9 := hv
            rw [hk9] at hv9
            refine v_instNo (dk cd_AW_listed 41 rfl) in_AW_67_Ca (by assumption) ?_
            refine v_if_eq (tgt := 119) (dk cd_AW_listed 42 rfl) rfl (fun _ => ?_) (fun q => absurd rfl q)
            refine v_iconst (v := 0) (dk cd_AW_listed 45 rfl) (by decide) ?_
            exact v_iret (dk cd_AW_listed 46 rfl) rfl (pub_ret I rfl (by simp [spListed, lsVal, b2i, *]))
          · have hk9 : vKind v = 6 := by simp [vKind, hsp]
            have hv9 := hv
            rw [hk9] at hv9
            refine v_instY (dk cd_AW_listed 41 rfl) iy_AW_67_Sp (by assumption) ?_
            refine v_if_eq (tgt := 119) (dk cd_AW_listed 42 rfl) rfl (fun q => absurd q (by decide)) (fun _ => ?_)
            refine v_iconst (v := 1) (dk cd_AW_listed 43 rfl) (by decide) ?_
            refine v_goto (tgt := 120) (dk cd_AW_listed 44 rfl) rfl ?_
            exact v_iret (dk cd_AW_listed 46 rfl) rfl (pub_ret I rfl (by simp [spListed, lsVal, b2i, *]))
        · refine v_tableOut (tgt := 121) (dk cd_AW_listed 26 rfl) hx rfl ?_
          exact v_throw (ex := 0) (dk cd_AW_listed 47 rfl) (dk cd_AW_listed 48 rfl) (dk cd_AW_listed 49 rfl) (dk cd_AW_listed 50 rfl) rfl tw_54 rfl (by omega) (by omega) (by omega) (by simp) (pub_thr I (by have o0 := sw_out hx (k := 0) (by decide); have o1 := sw_out hx (k := 1) (by decide); have o2 := sw_out hx (k := 2) (by decide); have o3 := sw_out hx (k := 3) (by decide); have o4 := sw_out hx (k := 4) (by decide); simp [spListed, lsVal, *]))
      · exact v_throw (ex := 3) (dk cd_AW_listed 13 rfl) (dk cd_AW_listed 14 rfl) (dk cd_AW_listed 15 rfl) (dk cd_AW_listed 16 rfl) rfl tw_193 rfl (by omega) (by omega) (by omega) (by simp) (pub_thr I (by first | (simp [spListed, q5]; done) | (have hk0 : pIx k c.2.2.1.length = false := (by first | (simp [pIx, q9]; done) | (simp [pIx, Int32.not_lt.mp q22]; done)); simp [spListed, hca, hk0]; done)))
def stVal (S : SS) (pg : Nat × Int32 × Int32) (q : Int32) : Value ⊕ Nat := if q = 0 then .inl (.int (wId S (vAt S pg.1).1)) else if q = 1 then .inl (.int (vAt S pg.1).2.1.1) else if q = 2 then .inl (.int pg.2.1) else if q = 3 then .inl (.int pg.2.2) else if q = 4 then .inl (.int (match (vAt S pg.1).2.2 with | none => 0 | some s => mn 10 (nI (tl s.2.1.2 pg.2.1.toNatClampNeg) - pg.2.2 * 10))) else .inr 0
def spSent (S : SS) (x k q : Int32) : SS × (Value ⊕ Nat) := if pIx x (sCells S).length = true ∧ pIx k (cAt S x).2.2.2.length = true then (S, stVal S ((cAt S x).2.2.2.getD k.toNatClampNeg (0, 0, 0)) q) else (S, .inr 3)
theorem msg_ver {i : Nat} {v : VeS} {s : SpS} (hl : (sVers S).length ≤ 40) (hve : (sVers S)[i]? = some v) (hs : v.2.2 = some s) : msgOf S i = some s.2.1 := by
  have hi := (List.getElem?_eq_some_iff.mp hve).1
  unfold msgOf
  rw [if_neg (by omega), hve]
  simp [hs]
set_option maxRecDepth 100000 in
set_option maxHeartbeats 4000000 in
theorem Ce_bytesOfPage_ok {i j : Nat} {c : CeS} (I : Inv F S ad A) (Wf : Wf S) (WC : WfC S) (WV : WfV S) (hc : (sCells S)[i]? = some c) (hj : j < c.2.2.2.length) : V (gg u) (d + 1) mm_Ce_bytesOfPage 0 [some (.ref (ad 14 i)), some (.int (nI j)), none, none] [] A (Rt (some (.int (match (vAt S c.2.2.2[j].1).2.2 with | none => 0 | some s => mn 10 (nI (tl s.2.1.2 c.2.2.2[j].2.1.toNatClampNeg) - c.2.2.2[j].2.2 * 10)))) A) := by
  obtain ⟨-, -, hpc, hpg⟩ := WC _ _ hc
  obtain ⟨hvn, hpl⟩ := hpg _ (List.getElem_mem hj)
  have h14 := I.cob hc
  obtain ⟨x17, h17, g17, e17, l17⟩ := I.cell (κ := 17) (by omega) (by omega) hc
  obtain ⟨x18, h18, g18, e18, l18⟩ := I.cell (κ := 18) (by omega) (by omega) hc
  obtain ⟨x19, h19, g19, e19, l19⟩ := I.cell (κ := 19) (by omega) (by omega) hc
  subst e17 e18 e19
  have hve := List.getElem?_eq_getElem hvn
  have hva := vAt_of hve
  generalize (sVers S)[c.2.2.2[j].1] = v at hve hva
  rw [hva] at hpl ⊢
  cases hsp : v.2.2 with
  | none =>
    have hv := I.verC hve hsp
    refine v_aload_n (dk cd_Ce_bytesOfPage 0 rfl) rfl ?_
    refine v_getf (dk cd_Ce_bytesOfPage 1 rfl) fg_Ce_40_Ce (by assumption) (by rfl) ?_
    refine v_iload_n (dk cd_Ce_bytesOfPage 2 rfl) rfl ?_
    refine v_aaldN (j := 7) (dk cd_Ce_bytesOfPage 3 rfl) (by assumption) (by decide) rfl rfl (by omega) (map_app hj) ?_
    refine v_astore_n (dk cd_Ce_bytesOfPage 4 rfl) (by decide) rfl ?_
    refine v_aload_n (dk cd_Ce_bytesOfPage 5 rfl) rfl ?_
    refine v_instNo (dk cd_Ce_bytesOfPage 6 rfl) in_Ce_66_Ca (by assumption) ?_
    refine v_if_eq (tgt := 39) (dk cd_Ce_bytesOfPage 7 rfl) rfl (fun _ => ?_) (fun q => absurd rfl q)
    refine v_iconst (v := 0) (dk cd_Ce_bytesOfPage 23 rfl) (by decide) ?_
    exact v_iret (dk cd_Ce_bytesOfPage 24 rfl) rfl rt_ret
  | some s =>
    have hv := I.verS hve hsp
    obtain ⟨l, hl, hle⟩ := hpl (by rw [hsp]; rfl)
    have hlx : (c.2.2.2[j].2.1).toNatClampNeg = l := by rw [hle]; exact nI_clamp (by omega)
    rw [hlx]
    obtain ⟨-, w3, w30, -, -⟩ := WV _ _ _ hve hsp
    have HT := I.teAt (msg_ver Wf.2.2.2.1 hve hsp) w3 w30
    have HT0 := HT
    obtain ⟨-, -, ba, la, k8, -⟩ := HT
    refine v_aload_n (dk cd_Ce_bytesOfPage 0 rfl) rfl ?_
    refine v_getf (dk cd_Ce_bytesOfPage 1 rfl) fg_Ce_40_Ce (by assumption) (by rfl) ?_
    refine v_iload_n (dk cd_Ce_bytesOfPage 2 rfl) rfl ?_
    refine v_aaldN (j := 7) (dk cd_Ce_bytesOfPage 3 rfl) (by assumption) (by decide) rfl rfl (by omega) (map_app hj) ?_
    refine v_astore_n (dk cd_Ce_bytesOfPage 4 rfl) (by decide) rfl ?_
    refine v_aload_n (dk cd_Ce_bytesOfPage 5 rfl) rfl ?_
    refine v_instY (dk cd_Ce_bytesOfPage 6 rfl) iy_Ce_66_Sp (by assumption) ?_
    refine v_if_eq (tgt := 39) (dk cd_Ce_bytesOfPage 7 rfl) rfl (fun q => absurd q (by decide)) (fun _ => ?_)
    refine v_aload_n (dk cd_Ce_bytesOfPage 8 rfl) rfl ?_
    refine v_castY (dk cd_Ce_bytesOfPage 9 rfl) iy_Ce_66_Sp (by assumption) ?_
    refine v_astore_n (dk cd_Ce_bytesOfPage 10 rfl) (by decide) rfl ?_
    refine v_aload_n (dk cd_Ce_bytesOfPage 11 rfl) rfl ?_
    refine v_getf (dk cd_Ce_bytesOfPage 12 rfl) fg_Ce_99_Sp (by assumption) (by rfl) ?_
    refine v_aload_n (dk cd_Ce_bytesOfPage 13 rfl) rfl ?_
    refine v_getf (dk cd_Ce_bytesOfPage 14 rfl) fg_Ce_43_Ce (by assumption) (by rfl) ?_
    refine v_iload_n (dk cd_Ce_bytesOfPage 15 rfl) rfl ?_
    refine v_ialdN (j := 0) (dk cd_Ce_bytesOfPage 16 rfl) (by assumption) (by decide) rfl (by omega) (map_app hj) ?_
    rw [hle]
    refine v_aload_n (dk cd_Ce_bytesOfPage 17 rfl) rfl ?_
    refine v_getf (dk cd_Ce_bytesOfPage 18 rfl) fg_Ce_47_Ce (by assumption) (by rfl) ?_
    refine v_iload_n (dk cd_Ce_bytesOfPage 19 rfl) rfl ?_
    refine v_ialdN (j := 0) (dk cd_Ce_bytesOfPage 20 rfl) (by assumption) (by decide) rfl (by omega) (map_app hj) ?_
    refine v_rv (r := ("AreaWarnings$Texts", TT_Te, 2)) (dk cd_Ce_bytesOfPage 21 rfl) cv_Ce_109 rfl (by assumption) (as := [_, _]) rfl rfl (Nat.le_of_ble_eq_true rfl) (by simp [Value.category]) (Te_bytesOfPage_ok HT0 hl) ?_
    exact v_iret (dk cd_Ce_bytesOfPage 22 rfl) rfl rt_ret
set_option maxRecDepth 100000 in
set_option maxHeartbeats 4000000 in
theorem AW_sent_ok {x k q : Int32} (I : Inv F S ad A) (Wf : Wf S) (hgl : A.2.1 + 16 ≤ gL (gg u)) (hgs : A.2.2 + 400 ≤ gS (gg u)) (WC : WfC S) (WV : WfV S) : V (gg u) (d + 6) mm_AW_sent 0 [some (.ref (ad 0 0)), some (.int x), some (.int k), some (.int q), none] [] A (PubR F ad A (spSent S x k q)) := by
  have h0 := I.aw
  obtain ⟨x1, h1, g1, e1, l1⟩ := I.top (κ := 1) (by omega)
  obtain ⟨x3, h3, g3, e3, l3⟩ := I.top (κ := 3) (by omega)
  subst e1 e3
  have w8 := Wf.2.2.1
  have w3 := Wf.2.2.2.2.1
  refine v_aload_n (dk cd_AW_sent 0 rfl) rfl ?_
  refine v_iload_n (dk cd_AW_sent 1 rfl) rfl ?_
  refine v_rv (r := ("AreaWarnings", TT_AW, 9)) (dk cd_AW_sent 2 rfl) cv_AW_186 rfl (by repeat first | assumption | exact aset_same _ _ _ | refine (aset_ne _ _ (by first | assumption | exact Ne.symm (by assumption))).trans ?_) (as := [_]) rfl rfl (Nat.le_of_ble_eq_true rfl) (by simp [Value.category]) (AW_isCell_ok I) ?_
  refine v_ifeqB (tgt := 25) (dk cd_AW_sent 3 rfl) rfl (fun q5 => ?_) (fun q5 => ?_)
  · exact v_throw (ex := 3) (dk cd_AW_sent 13 rfl) (dk cd_AW_sent 14 rfl) (dk cd_AW_sent 15 rfl) (dk cd_AW_sent 16 rfl) rfl tw_193 rfl (by omega) (by omega) (by omega) (by simp) (pub_thr I (by first | (simp [spSent, q5]; done) | (have hk0 : pIx k c.2.2.2.length = false := (by first | (simp [pIx, q9]; done) | (simp [pIx, Int32.not_lt.mp q22]; done)); simp [spSent, hca, hk0]; done)))
  · obtain ⟨i, hi, rfl⟩ := pIx_nat q5 (by omega)
    have hix : (nI i).toNatClampNeg = i := nI_clamp (by omega)
    obtain ⟨c, hc⟩ : ∃ c, (sCells S)[i]? = some c := ⟨_, List.getElem?_eq_getElem hi⟩
    have hca := cAt_nI hc (by omega)
    have h14 := I.cob hc
    obtain ⟨-, -, hpc, hpg⟩ := WC _ _ hc
    refine v_iload_n (dk cd_AW_sent 4 rfl) rfl ?_
    refine v_if_lt (tgt := 25) (dk cd_AW_sent 5 rfl) rfl (fun q9 => ?_) (fun q9 => ?_)
    · exact v_throw (ex := 3) (dk cd_AW_sent 13 rfl) (dk cd_AW_sent 14 rfl) (dk cd_AW_sent 15 rfl) (dk cd_AW_sent 16 rfl) rfl tw_193 rfl (by omega) (by omega) (by omega) (by simp) (pub_thr I (by first | (simp [spSent, q5]; done) | (have hk0 : pIx k c.2.2.2.length = false := (by first | (simp [pIx, q9]; done) | (simp [pIx, Int32.not_lt.mp q22]; done)); simp [spSent, hca, hk0]; done)))
    · refine v_iload_n (dk cd_AW_sent 6 rfl) rfl ?_
      refine v_aload_n (dk cd_AW_sent 7 rfl) rfl ?_
      refine v_getf (dk cd_AW_sent 8 rfl) fg_AW_15_AW (by repeat first | assumption | exact aset_same _ _ _ | refine (aset_ne _ _ (by first | assumption | exact Ne.symm (by assumption))).trans ?_) (by rfl) ?_
      refine v_iload_n (dk cd_AW_sent 9 rfl) rfl ?_
      refine v_aaldN (j := 4) (dk cd_AW_sent 10 rfl) (by repeat first | assumption | exact aset_same _ _ _ | refine (aset_ne _ _ (by first | assumption | exact Ne.symm (by assumption))).trans ?_) (by decide) rfl rfl (by omega) (rng_at hi) ?_
      refine v_getf (dk cd_AW_sent 11 rfl) fg_AW_180_Ce (by repeat first | assumption | exact aset_same _ _ _ | refine (aset_ne _ _ (by first | assumption | exact Ne.symm (by assumption))).trans ?_) (by rfl) ?_
      refine v_icmp_lt (tgt := 33) (dk cd_AW_sent 12 rfl) rfl (fun q22 => ?_) (fun q22 => ?_)
      · have hkp : pIx k c.2.2.2.length = true := by simp [pIx, Int32.not_le, *]
        obtain ⟨j, hj, rfl⟩ := pIx_nat hkp (by omega)
        have hjx : (nI j).toNatClampNeg = j := nI_clamp (by omega)
        obtain ⟨x17, h17, g17, e17, l17⟩ := I.cell (κ := 17) (by omega) (by omega) hc
        obtain ⟨x18, h18, g18, e18, l18⟩ := I.cell (κ := 18) (by omega) (by omega) hc
        obtain ⟨x19, h19, g19, e19, l19⟩ := I.cell (κ := 19) (by omega) (by omega) hc
        subst e17 e18 e19
        have hvn : c.2.2.2[j].1 < (sVers S).length := (hpg _ (List.getElem_mem hj)).1
        have hve := List.getElem?_eq_getElem hvn
        have hva := vAt_of hve
        generalize (sVers S)[c.2.2.2[j].1] = v at hve hva
        obtain ⟨vl, hv⟩ := I.verV hve
        have hwn := Wf.2.2.2.2.2.2.2 _ _ hve
        have hwe := List.getElem?_eq_getElem hwn
        have hwo := I.warn hwe
        have hwi := wId_of hwe
        refine v_aload_n (dk cd_AW_sent 17 rfl) rfl ?_
        refine v_getf (dk cd_AW_sent 18 rfl) fg_AW_15_AW (by repeat first | assumption | exact aset_same _ _ _ | refine (aset_ne _ _ (by first | assumption | exact Ne.symm (by assumption))).trans ?_) (by rfl) ?_
        refine v_iload_n (dk cd_AW_sent 19 rfl) rfl ?_
        refine v_aaldN (j := 4) (dk cd_AW_sent 20 rfl) (by repeat first | assumption | exact aset_same _ _ _ | refine (aset_ne _ _ (by first | assumption | exact Ne.symm (by assumption))).trans ?_) (by decide) rfl rfl (by omega) (rng_at hi) ?_
        refine v_astore (dk cd_AW_sent 21 rfl) (by decide) rfl ?_
        refine v_iload_n (dk cd_AW_sent 22 rfl) rfl ?_
        rcases sw5 q with rfl | rfl | rfl | rfl | rfl | hx
        · refine v_tableIn (tgt := 76) (dk cd_AW_sent 23 rfl) (by decide) (by decide) (by rfl) rfl ?_
          refine v_aload (dk cd_AW_sent 24 rfl) rfl ?_
          refine v_getf (dk cd_AW_sent 25 rfl) fg_AW_229_Ce (by repeat first | assumption | exact aset_same _ _ _ | refine (aset_ne _ _ (by first | assumption | exact Ne.symm (by assumption))).trans ?_) (by rfl) ?_
          refine v_iload_n (dk cd_AW_sent 26 rfl) rfl ?_
          refine v_aaldN (j := 7) (dk cd_AW_sent 27 rfl) (by repeat first | assumption | exact aset_same _ _ _ | refine (aset_ne _ _ (by first | assumption | exact Ne.symm (by assumption))).trans ?_) (by decide) rfl rfl (by omega) (map_app hj) ?_
          refine v_getf (dk cd_AW_sent 28 rfl) (fgV fg_AW_222_Sp fg_AW_222_Ca _) (by repeat first | assumption | exact aset_same _ _ _ | refine (aset_ne _ _ (by first | assumption | exact Ne.symm (by assumption))).trans ?_) (by rfl) ?_
          refine v_getf (dk cd_AW_sent 29 rfl) fg_AW_226_Wa (by repeat first | assumption | exact aset_same _ _ _ | refine (aset_ne _ _ (by first | assumption | exact Ne.symm (by assumption))).trans ?_) (by rfl) ?_
          exact v_iret (dk cd_AW_sent 30 rfl) rfl (pub_ret I rfl (by simp [spSent, stVal, *]))
        · refine v_tableIn (tgt := 90) (dk cd_AW_sent 23 rfl) (by decide) (by decide) (by rfl) rfl ?_
          refine v_aload (dk cd_AW_sent 31 rfl) rfl ?_
          refine v_getf (dk cd_AW_sent 32 rfl) fg_AW_229_Ce (by repeat first | assumption | exact aset_same _ _ _ | refine (aset_ne _ _ (by first | assumption | exact Ne.symm (by assumption))).trans ?_) (by rfl) ?_
          refine v_iload_n (dk cd_AW_sent 33 rfl) rfl ?_
          refine v_aaldN (j := 7) (dk cd_AW_sent 34 rfl) (by repeat first | assumption | exact aset_same _ _ _ | refine (aset_ne _ _ (by first | assumption | exact Ne.symm (by assumption))).trans ?_) (by decide) rfl rfl (by omega) (map_app hj) ?_
          refine v_getf (dk cd_AW_sent 35 rfl) (fgV fg_AW_162_Sp fg_AW_162_Ca _) (by repeat first | assumption | exact aset_same _ _ _ | refine (aset_ne _ _ (by first | assumption | exact Ne.symm (by assumption))).trans ?_) (by rfl) ?_
          exact v_iret (dk cd_AW_sent 36 rfl) rfl (pub_ret I rfl (by simp [spSent, stVal, *]))
        · refine v_tableIn (tgt := 101) (dk cd_AW_sent 23 rfl) (by decide) (by decide) (by rfl) rfl ?_
          refine v_aload (dk cd_AW_sent 37 rfl) rfl ?_
          refine v_getf (dk cd_AW_sent 38 rfl) fg_AW_232_Ce (by repeat first | assumption | exact aset_same _ _ _ | refine (aset_ne _ _ (by first | assumption | exact Ne.symm (by assumption))).trans ?_) (by rfl) ?_
          refine v_iload_n (dk cd_AW_sent 39 rfl) rfl ?_
          refine v_ialdN (j := 0) (dk cd_AW_sent 40 rfl) (by repeat first | assumption | exact aset_same _ _ _ | refine (aset_ne _ _ (by first | assumption | exact Ne.symm (by assumption))).trans ?_) (by decide) rfl (by omega) (map_app hj) ?_
          exact v_iret (dk cd_AW_sent 41 rfl) rfl (pub_ret I rfl (by simp [spSent, stVal, *]))
        · refine v_tableIn (tgt := 109) (dk cd_AW_sent 23 rfl) (by decide) (by decide) (by rfl) rfl ?_
          refine v_aload (dk cd_AW_sent 42 rfl) rfl ?_
          refine v_getf (dk cd_AW_sent 43 rfl) fg_AW_235_Ce (by repeat first | assumption | exact aset_same _ _ _ | refine (aset_ne _ _ (by first | assumption | exact Ne.symm (by assumption))).trans ?_) (by rfl) ?_
          refine v_iload_n (dk cd_AW_sent 44 rfl) rfl ?_
          refine v_ialdN (j := 0) (dk cd_AW_sent 45 rfl) (by repeat first | assumption | exact aset_same _ _ _ | refine (aset_ne _ _ (by first | assumption | exact Ne.symm (by assumption))).trans ?_) (by decide) rfl (by omega) (map_app hj) ?_
          exact v_iret (dk cd_AW_sent 46 rfl) rfl (pub_ret I rfl (by simp [spSent, stVal, *]))
        · refine v_tableIn (tgt := 117) (dk cd_AW_sent 23 rfl) (by decide) (by decide) (by rfl) rfl ?_
          refine v_aload (dk cd_AW_sent 47 rfl) rfl ?_
          refine v_iload_n (dk cd_AW_sent 48 rfl) rfl ?_
          refine v_rv (r := ("AreaWarnings$Cell", TT_Ce, 12)) (dk cd_AW_sent 49 rfl) cv_AW_238 rfl (by repeat first | assumption | exact aset_same _ _ _ | refine (aset_ne _ _ (by first | assumption | exact Ne.symm (by assumption))).trans ?_) (as := [_]) rfl rfl (Nat.le_of_ble_eq_true rfl) (by simp [Value.category]) (Ce_bytesOfPage_ok I Wf WC WV hc hj) ?_
          exact v_iret (dk cd_AW_sent 50 rfl) rfl (pub_ret I rfl (by simp [spSent, stVal, *]))
        · refine v_tableOut (tgt := 124) (dk cd_AW_sent 23 rfl) hx rfl ?_
          exact v_throw (ex := 0) (dk cd_AW_sent 51 rfl) (dk cd_AW_sent 52 rfl) (dk cd_AW_sent 53 rfl) (dk cd_AW_sent 54 rfl) rfl tw_54 rfl (by omega) (by omega) (by omega) (by simp) (pub_thr I (by have o0 := sw_out hx (k := 0) (by decide); have o1 := sw_out hx (k := 1) (by decide); have o2 := sw_out hx (k := 2) (by decide); have o3 := sw_out hx (k := 3) (by decide); have o4 := sw_out hx (k := 4) (by decide); simp [spSent, stVal, *]))
      · exact v_throw (ex := 3) (dk cd_AW_sent 13 rfl) (dk cd_AW_sent 14 rfl) (dk cd_AW_sent 15 rfl) (dk cd_AW_sent 16 rfl) rfl tw_193 rfl (by omega) (by omega) (by omega) (by simp) (pub_thr I (by first | (simp [spSent, q5]; done) | (have hk0 : pIx k c.2.2.2.length = false := (by first | (simp [pIx, q9]; done) | (simp [pIx, Int32.not_lt.mp q22]; done)); simp [spSent, hca, hk0]; done)))
end R4
end
section
/-! shown, shownByte, covers, version, total -/
def isCur (S : SS) (h : HaS) (pg : Nat × Int32 × Int32) (clk : Int32) : Bool := !decide ((vAt S pg.1).2.1.2.2 ≤ clk) && decide (h.2.2.1.1.getD (vAt S pg.1).1 none = some pg.1)
def shLen (S : SS) (pg : Nat × Int32 × Int32) : Nat := match (vAt S pg.1).2.2 with
  | none => 0
  | some s => tl s.2.1.2 pg.2.1.toNatClampNeg
def shVal (S : SS) (h : HaS) (pg : Nat × Int32 × Int32) (q : Int32) : Value ⊕ Nat := if q = 0 then .inl (.int (wId S (vAt S pg.1).1)) else if q = 1 then .inl (.int (vAt S pg.1).2.1.1) else if q = 2 then .inl (.int pg.2.1) else if q = 3 then .inl (.int pg.2.2) else if q = 4 then .inl (.int (b2i (isCur S h pg (sClock S)))) else if q = 5 then .inl (.int (nI (shLen S pg))) else .inr 0
def spShown (S : SS) (x k q : Int32) : SS × (Value ⊕ Nat) := if pIx x (sHs S).length = true ∧ pIx k (hAt S x).2.2.2.length = true then (S, shVal S (hAt S x) ((hAt S x).2.2.2.getD k.toNatClampNeg (0, 0, 0)) q) else (S, .inr 3)
section R5
variable {u : Ux} {d : Nat} {A : AH} {F : Nat → Option AC} {S : SS} {ad : Nat → Nat → Nat}
set_option maxRecDepth 100000 in
set_option maxHeartbeats 4000000 in
theorem Ha_bytesOfShown_ok {i j : Nat} {c : HaS} (I : Inv F S ad A) (Wf : Wf S) (WH : WfH S) (WV : WfV S) (hc : (sHs S)[i]? = some c) (hj : j < c.2.2.2.length) : V (gg u) d mm_Ha_bytesOfShown 0 [some (.ref (ad 23 i)), some (.int (nI j))] [] A (Rt (some (.int (nI (shLen S c.2.2.2[j])))) A) := by
  obtain ⟨-, -, hh1, -, -, hhv, hsc, hsg⟩ := WH _ _ hc
  obtain ⟨hvn, hpsp, l, hl, hle⟩ := hsg _ (List.getElem_mem hj)
  have h23 := I.hob hc
  obtain ⟨x28, h28, g28, e28, l28⟩ := I.hs (κ := 28) (by omega) (by omega) hc
  obtain ⟨x29, h29, g29, e29, l29⟩ := I.hs (κ := 29) (by omega) (by omega) hc
  obtain ⟨x30, h30, g30, e30, l30⟩ := I.hs (κ := 30) (by omega) (by omega) hc
  subst e28 e29 e30
  have hve := List.getElem?_eq_getElem hvn
  have hva := vAt_of hve
  generalize (sVers S)[c.2.2.2[j].1] = v at hve hva
  rw [hva] at hpsp
  obtain ⟨s, hsp⟩ := Option.isSome_iff_exists.mp hpsp
  have hv := I.verS hve hsp
  have hwn := Wf.2.2.2.2.2.2.2 _ _ hve
  have hwe := List.getElem?_eq_getElem hwn
  have hwo := I.warn hwe
  have hwi := wId_of hwe
  obtain ⟨-, w3, w30, -, -⟩ := WV _ _ _ hve hsp
  have hms := msg_ver Wf.2.2.2.1 hve hsp
  have HT := I.teAt hms w3 w30
  have HT0 := HT
  obtain ⟨-, -, ba, la, k8, k13⟩ := HT
  have hlx : (c.2.2.2[j].2.1).toNatClampNeg = l := by rw [hle]; exact nI_clamp (by omega)
  have w12 := Wf.2.1
  refine v_aload_n (dk cd_Ha_bytesOfShown 0 rfl) rfl ?_
  refine v_getf (dk cd_Ha_bytesOfShown 1 rfl) fg_Ha_46_Ha (by assumption) (by rfl) ?_
  refine v_iload_n (dk cd_Ha_bytesOfShown 2 rfl) rfl ?_
  refine v_aaldN (j := 8) (dk cd_Ha_bytesOfShown 3 rfl) (by assumption) (by decide) rfl rfl (by omega) (map_app hj) ?_
  refine v_getf (dk cd_Ha_bytesOfShown 4 rfl) fg_Ha_98_Sp (by assumption) (by rfl) ?_
  refine v_getf (dk cd_Ha_bytesOfShown 5 rfl) fg_Ha_122_Te (by assumption) (by rfl) ?_
  refine v_aload_n (dk cd_Ha_bytesOfShown 6 rfl) rfl ?_
  refine v_getf (dk cd_Ha_bytesOfShown 7 rfl) fg_Ha_50_Ha (by assumption) (by rfl) ?_
  refine v_iload_n (dk cd_Ha_bytesOfShown 8 rfl) rfl ?_
  refine v_ialdN (j := 0) (dk cd_Ha_bytesOfShown 9 rfl) (by assumption) (by decide) rfl (by omega) (map_app hj) ?_
  rw [hle]
  refine v_ialdN (j := 0) (dk cd_Ha_bytesOfShown 10 rfl) (by assumption) (by decide) rfl (by omega) (tl_at w3 hl) ?_
  exact v_iret (dk cd_Ha_bytesOfShown 11 rfl) rfl (rt_of (by simp [shLen, hva, hsp, hlx]))
set_option maxRecDepth 100000 in
set_option maxHeartbeats 4000000 in
theorem Ha_isCurrent_ok {i j : Nat} {c : HaS} (I : Inv F S ad A) (Wf : Wf S) (WH : WfH S) (WV : WfV S) (hc : (sHs S)[i]? = some c) (hj : j < c.2.2.2.length) {clk : Int32} : V (gg u) d mm_Ha_isCurrent 0 [some (.ref (ad 23 i)), some (.int (nI j)), some (.int clk), none] [] A (Rt (some (.int (b2i (isCur S c c.2.2.2[j] clk)))) A) := by
  obtain ⟨-, -, hh1, -, -, hhv, hsc, hsg⟩ := WH _ _ hc
  obtain ⟨hvn, hpsp, l, hl, hle⟩ := hsg _ (List.getElem_mem hj)
  have h23 := I.hob hc
  obtain ⟨x28, h28, g28, e28, l28⟩ := I.hs (κ := 28) (by omega) (by omega) hc
  obtain ⟨x29, h29, g29, e29, l29⟩ := I.hs (κ := 29) (by omega) (by omega) hc
  obtain ⟨x30, h30, g30, e30, l30⟩ := I.hs (κ := 30) (by omega) (by omega) hc
  subst e28 e29 e30
  have hve := List.getElem?_eq_getElem hvn
  have hva := vAt_of hve
  generalize (sVers S)[c.2.2.2[j].1] = v at hve hva
  rw [hva] at hpsp
  obtain ⟨s, hsp⟩ := Option.isSome_iff_exists.mp hpsp
  have hv := I.verS hve hsp
  have hwn := Wf.2.2.2.2.2.2.2 _ _ hve
  have hwe := List.getElem?_eq_getElem hwn
  have hwo := I.warn hwe
  have hwi := wId_of hwe
  obtain ⟨-, w3, w30, -, -⟩ := WV _ _ _ hve hsp
  have hms := msg_ver Wf.2.2.2.1 hve hsp
  have HT := I.teAt hms w3 w30
  have HT0 := HT
  obtain ⟨-, -, ba, la, k8, k13⟩ := HT
  have hlx : (c.2.2.2[j].2.1).toNatClampNeg = l := by rw [hle]; exact nI_clamp (by omega)
  have w12 := Wf.2.1
  obtain ⟨x25, h25, e25⟩ := I.hs (κ := 25) (by omega) (by omega) hc
  have e25 : x25 = _ := e25
  subst e25
  have hwl : v.1 < c.2.2.1.1.length := by omega
  have hrd : (c.2.2.1.1.map (rfN ad 21))[v.1]? = some (rfN ad 21 (c.2.2.1.1[v.1])) := by rw [List.getElem?_map, List.getElem?_eq_getElem hwl]; rfl
  have hgd : c.2.2.1.1.getD v.1 none = c.2.2.1.1[v.1] := by simp [hwl]
  cases ho : c.2.2.1.1[v.1] with
  | none =>
    rw [ho] at hrd
    have hrd : _ = some Value.null := hrd
    refine v_aload_n (dk cd_Ha_isCurrent 0 rfl) rfl ?_
    refine v_getf (dk cd_Ha_isCurrent 1 rfl) fg_Ha_46_Ha (by assumption) (by rfl) ?_
    refine v_iload_n (dk cd_Ha_isCurrent 2 rfl) rfl ?_
    refine v_aaldN (j := 8) (dk cd_Ha_isCurrent 3 rfl) (by assumption) (by decide) rfl rfl (by omega) (map_app hj) ?_
    refine v_astore_n (dk cd_Ha_isCurrent 4 rfl) (by decide) rfl ?_
    refine v_aload_n (dk cd_Ha_isCurrent 5 rfl) rfl ?_
    refine v_getf (dk cd_Ha_isCurrent 6 rfl) fg_Ha_119_Sp (by assumption) (by rfl) ?_
    refine v_iload_n (dk cd_Ha_isCurrent 7 rfl) rfl ?_
    refine v_icmp_le (tgt := 35) (dk cd_Ha_isCurrent 8 rfl) rfl (fun q12 => ?_) (fun q12 => ?_)
    · refine v_iconst (v := 0) (dk cd_Ha_isCurrent 19 rfl) (by decide) ?_
      exact v_zret (dk cd_Ha_isCurrent 20 rfl) rfl rfl (rt_f (by simp [isCur, hva, q12]))
    · refine v_aload_n (dk cd_Ha_isCurrent 9 rfl) rfl ?_
      refine v_getf (dk cd_Ha_isCurrent 10 rfl) fg_Ha_33_Ha (by assumption) (by rfl) ?_
      refine v_aload_n (dk cd_Ha_isCurrent 11 rfl) rfl ?_
      refine v_getf (dk cd_Ha_isCurrent 12 rfl) fg_Ha_97_Sp (by assumption) (by rfl) ?_
      refine v_getf (dk cd_Ha_isCurrent 13 rfl) fg_Ha_81_Wa (by assumption) (by rfl) ?_
      refine v_aaldN (j := 7) (dk cd_Ha_isCurrent 14 rfl) (by assumption) (by decide) rfl rfl (by omega) hrd ?_
      refine v_aload_n (dk cd_Ha_isCurrent 15 rfl) rfl ?_
      exact v_acmp_neNull (tgt := 35) (dk cd_Ha_isCurrent 16 rfl) rfl (v_iconst (v := 0) (dk cd_Ha_isCurrent 19 rfl) (by decide) (v_zret (dk cd_Ha_isCurrent 20 rfl) rfl rfl (rt_f (by simp [isCur, hva, hwl, ho]))))
  | some v9 =>
    rw [ho] at hrd
    have hrd : _ = some (Value.ref (ad 21 v9)) := hrd
    have hv9 : v9 < (sVers S).length := hhv v9 (by rw [← ho]; exact List.getElem_mem hwl)
    refine v_aload_n (dk cd_Ha_isCurrent 0 rfl) rfl ?_
    refine v_getf (dk cd_Ha_isCurrent 1 rfl) fg_Ha_46_Ha (by assumption) (by rfl) ?_
    refine v_iload_n (dk cd_Ha_isCurrent 2 rfl) rfl ?_
    refine v_aaldN (j := 8) (dk cd_Ha_isCurrent 3 rfl) (by assumption) (by decide) rfl rfl (by omega) (map_app hj) ?_
    refine v_astore_n (dk cd_Ha_isCurrent 4 rfl) (by decide) rfl ?_
    refine v_aload_n (dk cd_Ha_isCurrent 5 rfl) rfl ?_
    refine v_getf (dk cd_Ha_isCurrent 6 rfl) fg_Ha_119_Sp (by assumption) (by rfl) ?_
    refine v_iload_n (dk cd_Ha_isCurrent 7 rfl) rfl ?_
    refine v_icmp_le (tgt := 35) (dk cd_Ha_isCurrent 8 rfl) rfl (fun q12 => ?_) (fun q12 => ?_)
    · refine v_iconst (v := 0) (dk cd_Ha_isCurrent 19 rfl) (by decide) ?_
      exact v_zret (dk cd_Ha_isCurrent 20 rfl) rfl rfl (rt_f (by first | (simp [isCur, hva, q12]; done) | (have hne : ¬ v9 = c.2.2.2[j].1 := fun e => q28 (by rw [e]); simp [isCur, hva, hwl, ho, hne]; done)))
    · refine v_aload_n (dk cd_Ha_isCurrent 9 rfl) rfl ?_
      refine v_getf (dk cd_Ha_isCurrent 10 rfl) fg_Ha_33_Ha (by assumption) (by rfl) ?_
      refine v_aload_n (dk cd_Ha_isCurrent 11 rfl) rfl ?_
      refine v_getf (dk cd_Ha_isCurrent 12 rfl) fg_Ha_97_Sp (by assumption) (by rfl) ?_
      refine v_getf (dk cd_Ha_isCurrent 13 rfl) fg_Ha_81_Wa (by assumption) (by rfl) ?_
      refine v_aaldN (j := 7) (dk cd_Ha_isCurrent 14 rfl) (by assumption) (by decide) rfl rfl (by omega) hrd ?_
      refine v_aload_n (dk cd_Ha_isCurrent 15 rfl) rfl ?_
      refine v_acmp_neR (tgt := 35) (dk cd_Ha_isCurrent 16 rfl) rfl (fun q28 => ?_) (fun q28 => ?_)
      · refine v_iconst (v := 0) (dk cd_Ha_isCurrent 19 rfl) (by decide) ?_
        exact v_zret (dk cd_Ha_isCurrent 20 rfl) rfl rfl (rt_f (by first | (simp [isCur, hva, q12]; done) | (have hne : ¬ v9 = c.2.2.2[j].1 := fun e => q28 (by rw [e]); simp [isCur, hva, hwl, ho, hne]; done)))
      · refine v_iconst (v := 1) (dk cd_Ha_isCurrent 17 rfl) (by decide) ?_
        refine v_goto (tgt := 36) (dk cd_Ha_isCurrent 18 rfl) rfl ?_
        exact v_zret (dk cd_Ha_isCurrent 20 rfl) rfl rfl (rt_t (by have he := I.vne hv9 hvn q28; have hnle := Int32.not_le.mp q12; simp [isCur, hva, hwl, ho, he, q12, hnle]))
set_option maxRecDepth 100000 in
set_option maxHeartbeats 4000000 in
theorem AW_shown_ok {x k q : Int32} (I : Inv F S ad A) (Wf : Wf S) (hgl : A.2.1 + 16 ≤ gL (gg u)) (hgs : A.2.2 + 400 ≤ gS (gg u)) (WH : WfH S) (WV : WfV S) : V (gg u) (d + 6) mm_AW_shown 0 [some (.ref (ad 0 0)), some (.int x), some (.int k), some (.int q), none] [] A (PubR F ad A (spShown S x k q)) := by
  have h0 := I.aw
  obtain ⟨x1, h1, g1, e1, l1⟩ := I.top (κ := 1) (by omega)
  obtain ⟨x3, h3, g3, e3, l3⟩ := I.top (κ := 3) (by omega)
  subst e1 e3
  have w8 := Wf.2.2.1
  have w3 := Wf.2.2.2.2.1
  refine v_aload_n (dk cd_AW_shown 0 rfl) rfl ?_
  refine v_iload_n (dk cd_AW_shown 1 rfl) rfl ?_
  refine v_rv (r := ("AreaWarnings", TT_AW, 9)) (dk cd_AW_shown 2 rfl) cv_AW_198 rfl (by repeat first | assumption | exact aset_same _ _ _ | refine (aset_ne _ _ (by first | assumption | exact Ne.symm (by assumption))).trans ?_) (as := [_]) rfl rfl (Nat.le_of_ble_eq_true rfl) (by simp [Value.category]) (AW_isHandset_ok I) ?_
  refine v_ifeqB (tgt := 25) (dk cd_AW_shown 3 rfl) rfl (fun q5 => ?_) (fun q5 => ?_)
  · exact v_throw (ex := 3) (dk cd_AW_shown 13 rfl) (dk cd_AW_shown 14 rfl) (dk cd_AW_shown 15 rfl) (dk cd_AW_shown 16 rfl) rfl tw_193 rfl (by omega) (by omega) (by omega) (by simp) (pub_thr I (by first | (simp [spShown, q5]; done) | (have hk0 : pIx k c.2.2.2.length = false := (by first | (simp [pIx, q9]; done) | (simp [pIx, Int32.not_lt.mp q22]; done)); simp [spShown, hha, hk0]; done)))
  · obtain ⟨i, hi, rfl⟩ := pIx_nat q5 (by omega)
    have hix : (nI i).toNatClampNeg = i := nI_clamp (by omega)
    obtain ⟨c, hc⟩ : ∃ c, (sHs S)[i]? = some c := ⟨_, List.getElem?_eq_getElem hi⟩
    have hha := hAt_nI hc (by omega)
    have h23 := I.hob hc
    obtain ⟨-, -, hh1, -, -, hhv, hsc, hsg⟩ := WH _ _ hc
    refine v_iload_n (dk cd_AW_shown 4 rfl) rfl ?_
    refine v_if_lt (tgt := 25) (dk cd_AW_shown 5 rfl) rfl (fun q9 => ?_) (fun q9 => ?_)
    · exact v_throw (ex := 3) (dk cd_AW_shown 13 rfl) (dk cd_AW_shown 14 rfl) (dk cd_AW_shown 15 rfl) (dk cd_AW_shown 16 rfl) rfl tw_193 rfl (by omega) (by omega) (by omega) (by simp) (pub_thr I (by first | (simp [spShown, q5]; done) | (have hk0 : pIx k c.2.2.2.length = false := (by first | (simp [pIx, q9]; done) | (simp [pIx, Int32.not_lt.mp q22]; done)); simp [spShown, hha, hk0]; done)))
    · refine v_iload_n (dk cd_AW_shown 6 rfl) rfl ?_
      refine v_aload_n (dk cd_AW_shown 7 rfl) rfl ?_
      refine v_getf (dk cd_AW_shown 8 rfl) fg_AW_36_AW (by repeat first | assumption | exact aset_same _ _ _ | refine (aset_ne _ _ (by first | assumption | exact Ne.symm (by assumption))).trans ?_) (by rfl) ?_
      refine v_iload_n (dk cd_AW_shown 9 rfl) rfl ?_
      refine v_aaldN (j := 6) (dk cd_AW_shown 10 rfl) (by repeat first | assumption | exact aset_same _ _ _ | refine (aset_ne _ _ (by first | assumption | exact Ne.symm (by assumption))).trans ?_) (by decide) rfl rfl (by omega) (rng_at hi) ?_
      refine v_getf (dk cd_AW_shown 11 rfl) fg_AW_241_Ha (by repeat first | assumption | exact aset_same _ _ _ | refine (aset_ne _ _ (by first | assumption | exact Ne.symm (by assumption))).trans ?_) (by rfl) ?_
      refine v_icmp_lt (tgt := 33) (dk cd_AW_shown 12 rfl) rfl (fun q22 => ?_) (fun q22 => ?_)
      · have hkp : pIx k c.2.2.2.length = true := by simp [pIx, Int32.not_le, *]
        obtain ⟨j, hj, rfl⟩ := pIx_nat hkp (by omega)
        have hjx : (nI j).toNatClampNeg = j := nI_clamp (by omega)
        obtain ⟨hvn, hpsp, l, hl, hle⟩ := hsg _ (List.getElem_mem hj)
        obtain ⟨x28, h28, g28, e28, l28⟩ := I.hs (κ := 28) (by omega) (by omega) hc
        obtain ⟨x29, h29, g29, e29, l29⟩ := I.hs (κ := 29) (by omega) (by omega) hc
        obtain ⟨x30, h30, g30, e30, l30⟩ := I.hs (κ := 30) (by omega) (by omega) hc
        subst e28 e29 e30
        have hve := List.getElem?_eq_getElem hvn
        have hva := vAt_of hve
        generalize (sVers S)[c.2.2.2[j].1] = v at hve hva
        rw [hva] at hpsp
        obtain ⟨s, hsp⟩ := Option.isSome_iff_exists.mp hpsp
        have hv := I.verS hve hsp
        have hwn := Wf.2.2.2.2.2.2.2 _ _ hve
        have hwe := List.getElem?_eq_getElem hwn
        have hwo := I.warn hwe
        have hwi := wId_of hwe
        obtain ⟨-, w3, w30, -, -⟩ := WV _ _ _ hve hsp
        have hms := msg_ver Wf.2.2.2.1 hve hsp
        have HT := I.teAt hms w3 w30
        have HT0 := HT
        obtain ⟨-, -, ba, la, k8, k13⟩ := HT
        have hlx : (c.2.2.2[j].2.1).toNatClampNeg = l := by rw [hle]; exact nI_clamp (by omega)
        have w12 := Wf.2.1
        refine v_aload_n (dk cd_AW_shown 17 rfl) rfl ?_
        refine v_getf (dk cd_AW_shown 18 rfl) fg_AW_36_AW (by repeat first | assumption | exact aset_same _ _ _ | refine (aset_ne _ _ (by first | assumption | exact Ne.symm (by assumption))).trans ?_) (by rfl) ?_
        refine v_iload_n (dk cd_AW_shown 19 rfl) rfl ?_
        refine v_aaldN (j := 6) (dk cd_AW_shown 20 rfl) (by repeat first | assumption | exact aset_same _ _ _ | refine (aset_ne _ _ (by first | assumption | exact Ne.symm (by assumption))).trans ?_) (by decide) rfl rfl (by omega) (rng_at hi) ?_
        refine v_astore (dk cd_AW_shown 21 rfl) (by decide) rfl ?_
        refine v_iload_n (dk cd_AW_shown 22 rfl) rfl ?_
        rcases sw6 q with rfl | rfl | rfl | rfl | rfl | rfl | hx
        · refine v_tableIn (tgt := 80) (dk cd_AW_shown 23 rfl) (by decide) (by decide) (by rfl) rfl ?_
          refine v_aload (dk cd_AW_shown 24 rfl) rfl ?_
          refine v_getf (dk cd_AW_shown 25 rfl) fg_AW_244_Ha (by repeat first | assumption | exact aset_same _ _ _ | refine (aset_ne _ _ (by first | assumption | exact Ne.symm (by assumption))).trans ?_) (by rfl) ?_
          refine v_iload_n (dk cd_AW_shown 26 rfl) rfl ?_
          refine v_aaldN (j := 8) (dk cd_AW_shown 27 rfl) (by repeat first | assumption | exact aset_same _ _ _ | refine (aset_ne _ _ (by first | assumption | exact Ne.symm (by assumption))).trans ?_) (by decide) rfl rfl (by omega) (map_app hj) ?_
          refine v_getf (dk cd_AW_shown 28 rfl) fg_AW_248_Sp (by repeat first | assumption | exact aset_same _ _ _ | refine (aset_ne _ _ (by first | assumption | exact Ne.symm (by assumption))).trans ?_) (by rfl) ?_
          refine v_getf (dk cd_AW_shown 29 rfl) fg_AW_226_Wa (by repeat first | assumption | exact aset_same _ _ _ | refine (aset_ne _ _ (by first | assumption | exact Ne.symm (by assumption))).trans ?_) (by rfl) ?_
          exact v_iret (dk cd_AW_shown 30 rfl) rfl (pub_ret I rfl (by first | (simp [spShown, shVal, *]; done) | (simp [spShown, shVal, hha, hjx, hj, hkp, q5, q131, b2i]; done)))
        · refine v_tableIn (tgt := 94) (dk cd_AW_shown 23 rfl) (by decide) (by decide) (by rfl) rfl ?_
          refine v_aload (dk cd_AW_shown 31 rfl) rfl ?_
          refine v_getf (dk cd_AW_shown 32 rfl) fg_AW_244_Ha (by repeat first | assumption | exact aset_same _ _ _ | refine (aset_ne _ _ (by first | assumption | exact Ne.symm (by assumption))).trans ?_) (by rfl) ?_
          refine v_iload_n (dk cd_AW_shown 33 rfl) rfl ?_
          refine v_aaldN (j := 8) (dk cd_AW_shown 34 rfl) (by repeat first | assumption | exact aset_same _ _ _ | refine (aset_ne _ _ (by first | assumption | exact Ne.symm (by assumption))).trans ?_) (by decide) rfl rfl (by omega) (map_app hj) ?_
          refine v_getf (dk cd_AW_shown 35 rfl) fg_AW_249_Sp (by repeat first | assumption | exact aset_same _ _ _ | refine (aset_ne _ _ (by first | assumption | exact Ne.symm (by assumption))).trans ?_) (by rfl) ?_
          exact v_iret (dk cd_AW_shown 36 rfl) rfl (pub_ret I rfl (by first | (simp [spShown, shVal, *]; done) | (simp [spShown, shVal, hha, hjx, hj, hkp, q5, q131, b2i]; done)))
        · refine v_tableIn (tgt := 105) (dk cd_AW_shown 23 rfl) (by decide) (by decide) (by rfl) rfl ?_
          refine v_aload (dk cd_AW_shown 37 rfl) rfl ?_
          refine v_getf (dk cd_AW_shown 38 rfl) fg_AW_250_Ha (by repeat first | assumption | exact aset_same _ _ _ | refine (aset_ne _ _ (by first | assumption | exact Ne.symm (by assumption))).trans ?_) (by rfl) ?_
          refine v_iload_n (dk cd_AW_shown 39 rfl) rfl ?_
          refine v_ialdN (j := 0) (dk cd_AW_shown 40 rfl) (by repeat first | assumption | exact aset_same _ _ _ | refine (aset_ne _ _ (by first | assumption | exact Ne.symm (by assumption))).trans ?_) (by decide) rfl (by omega) (map_app hj) ?_
          exact v_iret (dk cd_AW_shown 41 rfl) rfl (pub_ret I rfl (by first | (simp [spShown, shVal, *]; done) | (simp [spShown, shVal, hha, hjx, hj, hkp, q5, q131, b2i]; done)))
        · refine v_tableIn (tgt := 113) (dk cd_AW_shown 23 rfl) (by decide) (by decide) (by rfl) rfl ?_
          refine v_aload (dk cd_AW_shown 42 rfl) rfl ?_
          refine v_getf (dk cd_AW_shown 43 rfl) fg_AW_253_Ha (by repeat first | assumption | exact aset_same _ _ _ | refine (aset_ne _ _ (by first | assumption | exact Ne.symm (by assumption))).trans ?_) (by rfl) ?_
          refine v_iload_n (dk cd_AW_shown 44 rfl) rfl ?_
          refine v_ialdN (j := 0) (dk cd_AW_shown 45 rfl) (by repeat first | assumption | exact aset_same _ _ _ | refine (aset_ne _ _ (by first | assumption | exact Ne.symm (by assumption))).trans ?_) (by decide) rfl (by omega) (map_app hj) ?_
          exact v_iret (dk cd_AW_shown 46 rfl) rfl (pub_ret I rfl (by first | (simp [spShown, shVal, *]; done) | (simp [spShown, shVal, hha, hjx, hj, hkp, q5, q131, b2i]; done)))
        · refine v_tableIn (tgt := 121) (dk cd_AW_shown 23 rfl) (by decide) (by decide) (by rfl) rfl ?_
          refine v_aload (dk cd_AW_shown 47 rfl) rfl ?_
          refine v_iload_n (dk cd_AW_shown 48 rfl) rfl ?_
          refine v_aload_n (dk cd_AW_shown 49 rfl) rfl ?_
          refine v_getf (dk cd_AW_shown 50 rfl) fg_AW_9_AW (by repeat first | assumption | exact aset_same _ _ _ | refine (aset_ne _ _ (by first | assumption | exact Ne.symm (by assumption))).trans ?_) (by rfl) ?_
          refine v_rv (r := ("AreaWarnings$Handset", TT_Ha, 13)) (dk cd_AW_shown 51 rfl) cv_AW_256 rfl (by repeat first | assumption | exact aset_same _ _ _ | refine (aset_ne _ _ (by first | assumption | exact Ne.symm (by assumption))).trans ?_) (as := [_, _]) rfl rfl (Nat.le_of_ble_eq_true rfl) (by simp [Value.category]) (Ha_isCurrent_ok I Wf WH WV hc hj) ?_
          refine v_ifeqB (tgt := 138) (dk cd_AW_shown 52 rfl) rfl (fun q131 => ?_) (fun q131 => ?_)
          · refine v_iconst (v := 0) (dk cd_AW_shown 55 rfl) (by decide) ?_
            exact v_iret (dk cd_AW_shown 56 rfl) rfl (pub_ret I rfl (by first | (simp [spShown, shVal, *]; done) | (simp [spShown, shVal, hha, hjx, hj, hkp, q5, q131, b2i]; done)))
          · refine v_iconst (v := 1) (dk cd_AW_shown 53 rfl) (by decide) ?_
            refine v_goto (tgt := 139) (dk cd_AW_shown 54 rfl) rfl ?_
            exact v_iret (dk cd_AW_shown 56 rfl) rfl (pub_ret I rfl (by first | (simp [spShown, shVal, *]; done) | (simp [spShown, shVal, hha, hjx, hj, hkp, q5, q131, b2i]; done)))
        · refine v_tableIn (tgt := 140) (dk cd_AW_shown 23 rfl) (by decide) (by decide) (by rfl) rfl ?_
          refine v_aload (dk cd_AW_shown 57 rfl) rfl ?_
          refine v_iload_n (dk cd_AW_shown 58 rfl) rfl ?_
          refine v_rv (r := ("AreaWarnings$Handset", TT_Ha, 13)) (dk cd_AW_shown 59 rfl) cv_AW_260 rfl (by repeat first | assumption | exact aset_same _ _ _ | refine (aset_ne _ _ (by first | assumption | exact Ne.symm (by assumption))).trans ?_) (as := [_]) rfl rfl (Nat.le_of_ble_eq_true rfl) (by simp [Value.category]) (Ha_bytesOfShown_ok I Wf WH WV hc hj) ?_
          exact v_iret (dk cd_AW_shown 60 rfl) rfl (pub_ret I rfl (by first | (simp [spShown, shVal, *]; done) | (simp [spShown, shVal, hha, hjx, hj, hkp, q5, q131, b2i]; done)))
        · refine v_tableOut (tgt := 147) (dk cd_AW_shown 23 rfl) hx rfl ?_
          exact v_throw (ex := 0) (dk cd_AW_shown 61 rfl) (dk cd_AW_shown 62 rfl) (dk cd_AW_shown 63 rfl) (dk cd_AW_shown 64 rfl) rfl tw_54 rfl (by omega) (by omega) (by omega) (by simp) (pub_thr I (by have o0 := sw_out hx (k := 0) (by decide); have o1 := sw_out hx (k := 1) (by decide); have o2 := sw_out hx (k := 2) (by decide); have o3 := sw_out hx (k := 3) (by decide); have o4 := sw_out hx (k := 4) (by decide); have o5 := sw_out hx (k := 5) (by decide); simp [spShown, shVal, *]))
      · exact v_throw (ex := 3) (dk cd_AW_shown 13 rfl) (dk cd_AW_shown 14 rfl) (dk cd_AW_shown 15 rfl) (dk cd_AW_shown 16 rfl) rfl tw_193 rfl (by omega) (by omega) (by omega) (by simp) (pub_thr I (by first | (simp [spShown, q5]; done) | (have hk0 : pIx k c.2.2.2.length = false := (by first | (simp [pIx, q9]; done) | (simp [pIx, Int32.not_lt.mp q22]; done)); simp [spShown, hha, hk0]; done)))
def spShownByte (S : SS) (x k q : Int32) : SS × (Value ⊕ Nat) := if pIx x (sHs S).length = true ∧ pIx k (hAt S x).2.2.2.length = true ∧ pIx q (shLen S ((hAt S x).2.2.2.getD k.toNatClampNeg (0, 0, 0))) = true then (S, .inl (.int (match (vAt S ((hAt S x).2.2.2.getD k.toNatClampNeg (0, 0, 0)).1).2.2 with | none => 0 | some s => (s.2.1.2.getD ((hAt S x).2.2.2.getD k.toNatClampNeg (0, 0, 0)).2.1.toNatClampNeg []).getD q.toNatClampNeg 0))) else (S, .inr 3)
def spCovers (S : SS) (id c : Int32) : SS × (Value ⊕ Nat) := if pIx c (sCells S).length = true then (match fnd S id with | none => (S, .inr 1) | some w => match (nwV S w).2.2 with | none => (S, .inr 1) | some s => (S, .inl (.int (b2i (s.2.2.getD c.toNatClampNeg false))))) else (S, .inr 3)
def spVersion (S : SS) (id : Int32) : SS × (Value ⊕ Nat) := (S, .inl (.int (verOf S id)))
def spTotal (S : SS) (x : Int32) : SS × (Value ⊕ Nat) := (S, .inl (.int (if x = 0 then sClock S else if x = 1 then nI (sCells S).length else if x = 2 then nI (sWarn S).length else if x = 3 then nI (sVers S).length else if x = 4 then nI (sHs S).length else if ¬ x < 10 ∧ ¬ 10 + nI (sHs S).length ≤ x then (hAt S (x - 10)).1.2.2.2 else -1)))
set_option maxRecDepth 100000 in
set_option maxHeartbeats 4000000 in
theorem AW_version_pub {id : Int32} (I : Inv F S ad A) (Wf : Wf S) (hgl : A.2.1 + 16 ≤ gL (gg u)) (hgs : A.2.2 + 400 ≤ gS (gg u)) : V (gg u) (d + 6) mm_AW_version 0 [some (.ref (ad 0 0)), some (.int id), none] [] A (PubR F ad A (spVersion S id)) := (AW_version_ok I Wf).rt (pub_ret I rfl rfl)
set_option maxRecDepth 100000 in
set_option maxHeartbeats 4000000 in
theorem AW_covers_ok {id x : Int32} (I : Inv F S ad A) (Wf : Wf S) (hgl : A.2.1 + 16 ≤ gL (gg u)) (hgs : A.2.2 + 400 ≤ gS (gg u)) (WV : WfV S) : V (gg u) (d + 6) mm_AW_covers 0 [some (.ref (ad 0 0)), some (.int id), some (.int x), none, none, none] [] A (PubR F ad A (spCovers S id x)) := by
  have h0 := I.aw
  obtain ⟨x1, h1, g1, e1, l1⟩ := I.top (κ := 1) (by omega)
  obtain ⟨x3, h3, g3, e3, l3⟩ := I.top (κ := 3) (by omega)
  subst e1 e3
  have w8 := Wf.2.2.1
  have w3 := Wf.2.2.2.2.1
  have HF := AW_findWarning_ok (u := u) (d := d + 5) (id := id) I Wf
  cases hf : fnd S id with
  | none =>
    rw [hf] at HF
    refine v_aload_n (dk cd_AW_covers 0 rfl) rfl ?_
    refine v_iload_n (dk cd_AW_covers 1 rfl) rfl ?_
    refine v_rv (r := ("AreaWarnings", TT_AW, 9)) (dk cd_AW_covers 2 rfl) cv_AW_186 rfl (by assumption) (as := [_]) rfl rfl (Nat.le_of_ble_eq_true rfl) (by simp [Value.category]) (AW_isCell_ok I) ?_
    refine v_ifneB (tgt := 16) (dk cd_AW_covers 3 rfl) rfl (fun q5 => ?_) (fun q5 => ?_)
    · refine v_aload_n (dk cd_AW_covers 8 rfl) rfl ?_
      refine v_iload_n (dk cd_AW_covers 9 rfl) rfl ?_
      refine v_rv (r := ("AreaWarnings", TT_AW, 9)) (dk cd_AW_covers 10 rfl) cv_AW_128 rfl (by assumption) (as := [_]) rfl rfl (Nat.le_of_ble_eq_true rfl) (by simp [Value.category]) HF ?_
      refine v_astoreN_n (dk cd_AW_covers 11 rfl) (by decide) rfl ?_
      refine v_aloadN_n (dk cd_AW_covers 12 rfl) rfl ?_
      refine v_ifnullN (tgt := 55) (dk cd_AW_covers 13 rfl) rfl ?_
      exact v_throw (ex := 1) (dk cd_AW_covers 28 rfl) (dk cd_AW_covers 29 rfl) (dk cd_AW_covers 30 rfl) (dk cd_AW_covers 31 rfl) rfl tw_57 rfl (by omega) (by omega) (by omega) (by simp) (pub_thr I (by simp [spCovers, *]))
    · exact v_throw (ex := 3) (dk cd_AW_covers 4 rfl) (dk cd_AW_covers 5 rfl) (dk cd_AW_covers 6 rfl) (dk cd_AW_covers 7 rfl) rfl tw_193 rfl (by omega) (by omega) (by omega) (by simp) (pub_thr I (by simp [spCovers, *]))
  | some w =>
    rw [hf] at HF
    obtain ⟨hwo, hve⟩ := I.wn Wf (fnd_lt Wf hf)
    cases hsp : (nwV S w).2.2 with
    | none =>
      have hv := I.verC hve hsp
      refine v_aload_n (dk cd_AW_covers 0 rfl) rfl ?_
      refine v_iload_n (dk cd_AW_covers 1 rfl) rfl ?_
      refine v_rv (r := ("AreaWarnings", TT_AW, 9)) (dk cd_AW_covers 2 rfl) cv_AW_186 rfl (by assumption) (as := [_]) rfl rfl (Nat.le_of_ble_eq_true rfl) (by simp [Value.category]) (AW_isCell_ok I) ?_
      refine v_ifneB (tgt := 16) (dk cd_AW_covers 3 rfl) rfl (fun q5 => ?_) (fun q5 => ?_)
      · refine v_aload_n (dk cd_AW_covers 8 rfl) rfl ?_
        refine v_iload_n (dk cd_AW_covers 9 rfl) rfl ?_
        refine v_rv (r := ("AreaWarnings", TT_AW, 9)) (dk cd_AW_covers 10 rfl) cv_AW_128 rfl (by assumption) (as := [_]) rfl rfl (Nat.le_of_ble_eq_true rfl) (by simp [Value.category]) HF ?_
        refine v_astore_n (dk cd_AW_covers 11 rfl) (by decide) rfl ?_
        refine v_aload_n (dk cd_AW_covers 12 rfl) rfl ?_
        refine v_ifnull (dk cd_AW_covers 13 rfl) ?_
        refine v_aload_n (dk cd_AW_covers 14 rfl) rfl ?_
        refine v_getf (dk cd_AW_covers 15 rfl) fg_AW_63_Wa (by assumption) (by rfl) ?_
        refine v_astore (dk cd_AW_covers 16 rfl) (by decide) rfl ?_
        refine v_aload (dk cd_AW_covers 17 rfl) rfl ?_
        refine v_instNo (dk cd_AW_covers 18 rfl) in_AW_67_Ca (by assumption) ?_
        refine v_if_eq (tgt := 55) (dk cd_AW_covers 19 rfl) rfl (fun _ => ?_) (fun q => absurd rfl q)
        exact v_throw (ex := 1) (dk cd_AW_covers 28 rfl) (dk cd_AW_covers 29 rfl) (dk cd_AW_covers 30 rfl) (dk cd_AW_covers 31 rfl) rfl tw_57 rfl (by omega) (by omega) (by omega) (by simp) (pub_thr I (by simp [spCovers, *]))
      · exact v_throw (ex := 3) (dk cd_AW_covers 4 rfl) (dk cd_AW_covers 5 rfl) (dk cd_AW_covers 6 rfl) (dk cd_AW_covers 7 rfl) rfl tw_193 rfl (by omega) (by omega) (by omega) (by simp) (pub_thr I (by simp [spCovers, *]))
    | some s =>
      have hv := I.verS hve hsp
      have hcv := I.cov hve hsp
      obtain ⟨-, -, -, w8c, -⟩ := WV _ _ _ hve hsp
      refine v_aload_n (dk cd_AW_covers 0 rfl) rfl ?_
      refine v_iload_n (dk cd_AW_covers 1 rfl) rfl ?_
      refine v_rv (r := ("AreaWarnings", TT_AW, 9)) (dk cd_AW_covers 2 rfl) cv_AW_186 rfl (by assumption) (as := [_]) rfl rfl (Nat.le_of_ble_eq_true rfl) (by simp [Value.category]) (AW_isCell_ok I) ?_
      refine v_ifneB (tgt := 16) (dk cd_AW_covers 3 rfl) rfl (fun q5 => ?_) (fun q5 => ?_)
      · obtain ⟨i, hi, rfl⟩ := pIx_nat q5 (by omega)
        have hix : (nI i).toNatClampNeg = i := nI_clamp (by omega)
        have hil : i < s.2.2.length := by omega
        have hrd : (s.2.2.map fun b => Value.int (b2i b))[i]? = some (.int (b2i s.2.2[i])) := by rw [List.getElem?_map, List.getElem?_eq_getElem hil]; rfl
        refine v_aload_n (dk cd_AW_covers 8 rfl) rfl ?_
        refine v_iload_n (dk cd_AW_covers 9 rfl) rfl ?_
        refine v_rv (r := ("AreaWarnings", TT_AW, 9)) (dk cd_AW_covers 10 rfl) cv_AW_128 rfl (by assumption) (as := [_]) rfl rfl (Nat.le_of_ble_eq_true rfl) (by simp [Value.category]) HF ?_
        refine v_astore_n (dk cd_AW_covers 11 rfl) (by decide) rfl ?_
        refine v_aload_n (dk cd_AW_covers 12 rfl) rfl ?_
        refine v_ifnull (dk cd_AW_covers 13 rfl) ?_
        refine v_aload_n (dk cd_AW_covers 14 rfl) rfl ?_
        refine v_getf (dk cd_AW_covers 15 rfl) fg_AW_63_Wa (by assumption) (by rfl) ?_
        refine v_astore (dk cd_AW_covers 16 rfl) (by decide) rfl ?_
        refine v_aload (dk cd_AW_covers 17 rfl) rfl ?_
        refine v_instY (dk cd_AW_covers 18 rfl) iy_AW_67_Sp (by assumption) ?_
        refine v_if_eq (tgt := 55) (dk cd_AW_covers 19 rfl) rfl (fun q => absurd q (by decide)) (fun _ => ?_)
        refine v_aload (dk cd_AW_covers 20 rfl) rfl ?_
        refine v_castY (dk cd_AW_covers 21 rfl) iy_AW_67_Sp (by assumption) ?_
        refine v_astore (dk cd_AW_covers 22 rfl) (by decide) rfl ?_
        refine v_aload (dk cd_AW_covers 23 rfl) rfl ?_
        refine v_getf (dk cd_AW_covers 24 rfl) fg_AW_211_Sp (by assumption) (by rfl) ?_
        refine v_iload_n (dk cd_AW_covers 25 rfl) rfl ?_
        refine v_zaldN (j := 1) (dk cd_AW_covers 26 rfl) (by assumption) (by decide) rfl (by omega) hrd ?_
        exact v_zretB (dk cd_AW_covers 27 rfl) rfl (pub_ret I rfl (by simp [spCovers, List.getElem?_eq_getElem hil, *]))
      · exact v_throw (ex := 3) (dk cd_AW_covers 4 rfl) (dk cd_AW_covers 5 rfl) (dk cd_AW_covers 6 rfl) (dk cd_AW_covers 7 rfl) rfl tw_193 rfl (by omega) (by omega) (by omega) (by simp) (pub_thr I (by simp [spCovers, *]))
set_option maxRecDepth 100000 in
set_option maxHeartbeats 4000000 in
theorem AW_shownByte_ok {x k q : Int32} (I : Inv F S ad A) (Wf : Wf S) (hgl : A.2.1 + 16 ≤ gL (gg u)) (hgs : A.2.2 + 400 ≤ gS (gg u)) (WH : WfH S) (WV : WfV S) : V (gg u) (d + 6) mm_AW_shownByte 0 [some (.ref (ad 0 0)), some (.int x), some (.int k), some (.int q), none] [] A (PubR F ad A (spShownByte S x k q)) := by
  have h0 := I.aw
  obtain ⟨x1, h1, g1, e1, l1⟩ := I.top (κ := 1) (by omega)
  obtain ⟨x3, h3, g3, e3, l3⟩ := I.top (κ := 3) (by omega)
  subst e1 e3
  have w8 := Wf.2.2.1
  have w3 := Wf.2.2.2.2.1
  refine v_aload_n (dk cd_AW_shownByte 0 rfl) rfl ?_
  refine v_iload_n (dk cd_AW_shownByte 1 rfl) rfl ?_
  refine v_rv (r := ("AreaWarnings", TT_AW, 9)) (dk cd_AW_shownByte 2 rfl) cv_AW_198 rfl (by repeat first | assumption | exact aset_same _ _ _ | refine (aset_ne _ _ (by first | assumption | exact Ne.symm (by assumption))).trans ?_) (as := [_]) rfl rfl (Nat.le_of_ble_eq_true rfl) (by simp [Value.category]) (AW_isHandset_ok I) ?_
  refine v_ifeqB (tgt := 43) (dk cd_AW_shownByte 3 rfl) rfl (fun q5 => ?_) (fun q5 => ?_)
  · exact v_throw (ex := 3) (dk cd_AW_shownByte 23 rfl) (dk cd_AW_shownByte 24 rfl) (dk cd_AW_shownByte 25 rfl) (dk cd_AW_shownByte 26 rfl) rfl tw_193 rfl (by omega) (by omega) (by omega) (by simp) (pub_thr I (by first | (simp [spShownByte, q5]; done) | (have hk0 : pIx k c.2.2.2.length = false := (by first | (simp [pIx, q9]; done) | (simp [pIx, q22]; done)); simp [spShownByte, hha, hk0]; done) | (have hq0 : pIx q (shLen S c.2.2.2[j]) = false := (by first | (simp [pIx, q26]; done) | (simp [pIx, Int32.not_lt.mp q40]; done)); simp [spShownByte, hha, hjx, hj, hq0]; done)))
  · obtain ⟨i, hi, rfl⟩ := pIx_nat q5 (by omega)
    have hix : (nI i).toNatClampNeg = i := nI_clamp (by omega)
    obtain ⟨c, hc⟩ : ∃ c, (sHs S)[i]? = some c := ⟨_, List.getElem?_eq_getElem hi⟩
    have hha := hAt_nI hc (by omega)
    have h23 := I.hob hc
    obtain ⟨-, -, hh1, -, -, hhv, hsc, hsg⟩ := WH _ _ hc
    refine v_iload_n (dk cd_AW_shownByte 4 rfl) rfl ?_
    refine v_if_lt (tgt := 43) (dk cd_AW_shownByte 5 rfl) rfl (fun q9 => ?_) (fun q9 => ?_)
    · exact v_throw (ex := 3) (dk cd_AW_shownByte 23 rfl) (dk cd_AW_shownByte 24 rfl) (dk cd_AW_shownByte 25 rfl) (dk cd_AW_shownByte 26 rfl) rfl tw_193 rfl (by omega) (by omega) (by omega) (by simp) (pub_thr I (by first | (simp [spShownByte, q5]; done) | (have hk0 : pIx k c.2.2.2.length = false := (by first | (simp [pIx, q9]; done) | (simp [pIx, q22]; done)); simp [spShownByte, hha, hk0]; done) | (have hq0 : pIx q (shLen S c.2.2.2[j]) = false := (by first | (simp [pIx, q26]; done) | (simp [pIx, Int32.not_lt.mp q40]; done)); simp [spShownByte, hha, hjx, hj, hq0]; done)))
    · refine v_iload_n (dk cd_AW_shownByte 6 rfl) rfl ?_
      refine v_aload_n (dk cd_AW_shownByte 7 rfl) rfl ?_
      refine v_getf (dk cd_AW_shownByte 8 rfl) fg_AW_36_AW (by repeat first | assumption | exact aset_same _ _ _ | refine (aset_ne _ _ (by first | assumption | exact Ne.symm (by assumption))).trans ?_) (by rfl) ?_
      refine v_iload_n (dk cd_AW_shownByte 9 rfl) rfl ?_
      refine v_aaldN (j := 6) (dk cd_AW_shownByte 10 rfl) (by repeat first | assumption | exact aset_same _ _ _ | refine (aset_ne _ _ (by first | assumption | exact Ne.symm (by assumption))).trans ?_) (by decide) rfl rfl (by omega) (rng_at hi) ?_
      refine v_getf (dk cd_AW_shownByte 11 rfl) fg_AW_241_Ha (by repeat first | assumption | exact aset_same _ _ _ | refine (aset_ne _ _ (by first | assumption | exact Ne.symm (by assumption))).trans ?_) (by rfl) ?_
      refine v_icmp_ge (tgt := 43) (dk cd_AW_shownByte 12 rfl) rfl (fun q22 => ?_) (fun q22 => ?_)
      · exact v_throw (ex := 3) (dk cd_AW_shownByte 23 rfl) (dk cd_AW_shownByte 24 rfl) (dk cd_AW_shownByte 25 rfl) (dk cd_AW_shownByte 26 rfl) rfl tw_193 rfl (by omega) (by omega) (by omega) (by simp) (pub_thr I (by first | (simp [spShownByte, q5]; done) | (have hk0 : pIx k c.2.2.2.length = false := (by first | (simp [pIx, q9]; done) | (simp [pIx, q22]; done)); simp [spShownByte, hha, hk0]; done) | (have hq0 : pIx q (shLen S c.2.2.2[j]) = false := (by first | (simp [pIx, q26]; done) | (simp [pIx, Int32.not_lt.mp q40]; done)); simp [spShownByte, hha, hjx, hj, hq0]; done)))
      · have hkp : pIx k c.2.2.2.length = true := by simp [pIx, Int32.not_le, *]
        obtain ⟨j, hj, rfl⟩ := pIx_nat hkp (by omega)
        have hjx : (nI j).toNatClampNeg = j := nI_clamp (by omega)
        obtain ⟨hvn, hpsp, l, hl, hle⟩ := hsg _ (List.getElem_mem hj)
        obtain ⟨x28, h28, g28, e28, l28⟩ := I.hs (κ := 28) (by omega) (by omega) hc
        obtain ⟨x29, h29, g29, e29, l29⟩ := I.hs (κ := 29) (by omega) (by omega) hc
        obtain ⟨x30, h30, g30, e30, l30⟩ := I.hs (κ := 30) (by omega) (by omega) hc
        subst e28 e29 e30
        have hve := List.getElem?_eq_getElem hvn
        have hva := vAt_of hve
        generalize (sVers S)[c.2.2.2[j].1] = v at hve hva
        rw [hva] at hpsp
        obtain ⟨s, hsp⟩ := Option.isSome_iff_exists.mp hpsp
        have hv := I.verS hve hsp
        have hwn := Wf.2.2.2.2.2.2.2 _ _ hve
        have hwe := List.getElem?_eq_getElem hwn
        have hwo := I.warn hwe
        have hwi := wId_of hwe
        obtain ⟨-, w3, w30, -, -⟩ := WV _ _ _ hve hsp
        have hms := msg_ver Wf.2.2.2.1 hve hsp
        have HT := I.teAt hms w3 w30
        have HT0 := HT
        obtain ⟨-, -, ba, la, k8, k13⟩ := HT
        have hlx : (c.2.2.2[j].2.1).toNatClampNeg = l := by rw [hle]; exact nI_clamp (by omega)
        have w12 := Wf.2.1
        obtain ⟨x8, m8, f8⟩ := I.msg (κ := 8) (by omega) (by omega) (by omega) hms
        obtain ⟨x9, m9, f9⟩ := I.msg (κ := 9) (by omega) (by omega) (by omega) hms
        have f8 : x8 = _ := f8
        have f9 : x9 = _ := f9
        subst f8 f9
        obtain ⟨xr, mr, fr⟩ := I.msg (κ := 10 + l) (by omega) (by omega) (by omega) hms
        obtain ⟨gr, er, lr⟩ := (CMsg_row hl).mp fr
        subst er
        have hsl : shLen S c.2.2.2[j] = tl s.2.1.2 l := by simp [shLen, hva, hsp, hlx]
        have w30l := w30 l
        refine v_iload_n (dk cd_AW_shownByte 13 rfl) rfl ?_
        refine v_if_lt (tgt := 43) (dk cd_AW_shownByte 14 rfl) rfl (fun q26 => ?_) (fun q26 => ?_)
        · exact v_throw (ex := 3) (dk cd_AW_shownByte 23 rfl) (dk cd_AW_shownByte 24 rfl) (dk cd_AW_shownByte 25 rfl) (dk cd_AW_shownByte 26 rfl) rfl tw_193 rfl (by omega) (by omega) (by omega) (by simp) (pub_thr I (by first | (simp [spShownByte, q5]; done) | (have hk0 : pIx k c.2.2.2.length = false := (by first | (simp [pIx, q9]; done) | (simp [pIx, q22]; done)); simp [spShownByte, hha, hk0]; done) | (have hq0 : pIx q (shLen S c.2.2.2[j]) = false := (by first | (simp [pIx, q26]; done) | (simp [pIx, Int32.not_lt.mp q40]; done)); simp [spShownByte, hha, hjx, hj, hq0]; done)))
        · refine v_iload_n (dk cd_AW_shownByte 15 rfl) rfl ?_
          refine v_aload_n (dk cd_AW_shownByte 16 rfl) rfl ?_
          refine v_getf (dk cd_AW_shownByte 17 rfl) fg_AW_36_AW (by repeat first | assumption | exact aset_same _ _ _ | refine (aset_ne _ _ (by first | assumption | exact Ne.symm (by assumption))).trans ?_) (by rfl) ?_
          refine v_iload_n (dk cd_AW_shownByte 18 rfl) rfl ?_
          refine v_aaldN (j := 6) (dk cd_AW_shownByte 19 rfl) (by repeat first | assumption | exact aset_same _ _ _ | refine (aset_ne _ _ (by first | assumption | exact Ne.symm (by assumption))).trans ?_) (by decide) rfl rfl (by omega) (rng_at hi) ?_
          refine v_iload_n (dk cd_AW_shownByte 20 rfl) rfl ?_
          refine v_rv (r := ("AreaWarnings$Handset", TT_Ha, 13)) (dk cd_AW_shownByte 21 rfl) cv_AW_260 rfl (by repeat first | assumption | exact aset_same _ _ _ | refine (aset_ne _ _ (by first | assumption | exact Ne.symm (by assumption))).trans ?_) (as := [_]) rfl rfl (Nat.le_of_ble_eq_true rfl) (by simp [Value.category]) (Ha_bytesOfShown_ok I Wf WH WV hc hj) ?_
          refine v_icmp_lt (tgt := 51) (dk cd_AW_shownByte 22 rfl) rfl (fun q40 => ?_) (fun q40 => ?_)
          · have hqp : pIx q (shLen S c.2.2.2[j]) = true := by simp [pIx, Int32.not_le, q26, q40]
            obtain ⟨b, hb, rfl⟩ := pIx_nat hqp (by omega)
            have hbx : (nI b).toNatClampNeg = b := nI_clamp (by omega)
            have hbl : b < (s.2.1.2.getD l []).length := by have : tl s.2.1.2 l = (s.2.1.2.getD l []).length := rfl; omega
            refine v_aload_n (dk cd_AW_shownByte 27 rfl) rfl ?_
            refine v_getf (dk cd_AW_shownByte 28 rfl) fg_AW_36_AW (by repeat first | assumption | exact aset_same _ _ _ | refine (aset_ne _ _ (by first | assumption | exact Ne.symm (by assumption))).trans ?_) (by rfl) ?_
            refine v_iload_n (dk cd_AW_shownByte 29 rfl) rfl ?_
            refine v_aaldN (j := 6) (dk cd_AW_shownByte 30 rfl) (by repeat first | assumption | exact aset_same _ _ _ | refine (aset_ne _ _ (by first | assumption | exact Ne.symm (by assumption))).trans ?_) (by decide) rfl rfl (by omega) (rng_at hi) ?_
            refine v_astore (dk cd_AW_shownByte 31 rfl) (by decide) rfl ?_
            refine v_aload (dk cd_AW_shownByte 32 rfl) rfl ?_
            refine v_getf (dk cd_AW_shownByte 33 rfl) fg_AW_244_Ha (by repeat first | assumption | exact aset_same _ _ _ | refine (aset_ne _ _ (by first | assumption | exact Ne.symm (by assumption))).trans ?_) (by rfl) ?_
            refine v_iload_n (dk cd_AW_shownByte 34 rfl) rfl ?_
            refine v_aaldN (j := 8) (dk cd_AW_shownByte 35 rfl) (by repeat first | assumption | exact aset_same _ _ _ | refine (aset_ne _ _ (by first | assumption | exact Ne.symm (by assumption))).trans ?_) (by decide) rfl rfl (by omega) (map_app hj) ?_
            refine v_getf (dk cd_AW_shownByte 36 rfl) fg_AW_263_Sp (by repeat first | assumption | exact aset_same _ _ _ | refine (aset_ne _ _ (by first | assumption | exact Ne.symm (by assumption))).trans ?_) (by rfl) ?_
            refine v_getf (dk cd_AW_shownByte 37 rfl) fg_AW_264_Te (by repeat first | assumption | exact aset_same _ _ _ | refine (aset_ne _ _ (by first | assumption | exact Ne.symm (by assumption))).trans ?_) (by rfl) ?_
            refine v_aload (dk cd_AW_shownByte 38 rfl) rfl ?_
            refine v_getf (dk cd_AW_shownByte 39 rfl) fg_AW_250_Ha (by repeat first | assumption | exact aset_same _ _ _ | refine (aset_ne _ _ (by first | assumption | exact Ne.symm (by assumption))).trans ?_) (by rfl) ?_
            refine v_iload_n (dk cd_AW_shownByte 40 rfl) rfl ?_
            refine v_ialdN (j := 0) (dk cd_AW_shownByte 41 rfl) (by repeat first | assumption | exact aset_same _ _ _ | refine (aset_ne _ _ (by first | assumption | exact Ne.symm (by assumption))).trans ?_) (by decide) rfl (by omega) (map_app hj) ?_
            rw [hle]
            refine v_aaldN (j := 3) (dk cd_AW_shownByte 42 rfl) (by assumption) (by decide) rfl rfl (by omega) (row3 hl) ?_
            refine v_iload_n (dk cd_AW_shownByte 43 rfl) rfl ?_
            refine v_ialdN (j := 0) (dk cd_AW_shownByte 44 rfl) (by repeat first | assumption | exact aset_same _ _ _ | refine (aset_ne _ _ (by first | assumption | exact Ne.symm (by assumption))).trans ?_) (by decide) rfl (by omega) (map_app hbl) ?_
            exact v_iret (dk cd_AW_shownByte 45 rfl) rfl (pub_ret I rfl (by simp only [spShownByte, hha, hjx, hbx]; rw [show c.2.2.2.getD j (0, 0, 0) = c.2.2.2[j] by simp [hj], hva, hsp, hlx]; have e5 : (s.2.1.2.getD l []).getD b 0 = (s.2.1.2.getD l [])[b] := (by rw [List.getD_eq_getElem?_getD, List.getElem?_eq_getElem hbl]; rfl); simp only [q5, hkp, hqp, and_self, if_true, e5]))
          · exact v_throw (ex := 3) (dk cd_AW_shownByte 23 rfl) (dk cd_AW_shownByte 24 rfl) (dk cd_AW_shownByte 25 rfl) (dk cd_AW_shownByte 26 rfl) rfl tw_193 rfl (by omega) (by omega) (by omega) (by simp) (pub_thr I (by first | (simp [spShownByte, q5]; done) | (have hk0 : pIx k c.2.2.2.length = false := (by first | (simp [pIx, q9]; done) | (simp [pIx, q22]; done)); simp [spShownByte, hha, hk0]; done) | (have hq0 : pIx q (shLen S c.2.2.2[j]) = false := (by first | (simp [pIx, q26]; done) | (simp [pIx, Int32.not_lt.mp q40]; done)); simp [spShownByte, hha, hjx, hj, hq0]; done)))
theorem tot_nat {x : Int32} {n : Nat} (h1 : ¬ x < 10) (h2 : ¬ 10 + nI n ≤ x) (hn : n ≤ 3) : ∃ h, h < n ∧ x = nI (10 + h) := by
  have h0 : ¬ x < 0 := fun q => h1 (by rw [Int32.lt_iff_toInt_lt] at q ⊢; simp at q ⊢; omega)
  obtain ⟨j, hj, e⟩ := nI_of h0
  subst e
  rw [show (10 : Int32) = nI 10 by decide, nI_ltI hj (by omega)] at h1
  rw [show (10 : Int32) = nI 10 by decide, nI_add, nI_leI (by omega) hj] at h2
  exact ⟨j - 10, by omega, by congr 1; omega⟩
set_option maxRecDepth 100000 in
set_option maxHeartbeats 4000000 in
theorem AW_total_ok {x : Int32} (I : Inv F S ad A) (Wf : Wf S) (hgl : A.2.1 + 16 ≤ gL (gg u)) (hgs : A.2.2 + 400 ≤ gS (gg u)) : V (gg u) (d + 6) mm_AW_total 0 [some (.ref (ad 0 0)), some (.int x)] [] A (PubR F ad A (spTotal S x)) := by
  have h0 := I.aw
  obtain ⟨x1, h1, g1, e1, l1⟩ := I.top (κ := 1) (by omega)
  obtain ⟨x3, h3, g3, e3, l3⟩ := I.top (κ := 3) (by omega)
  subst e1 e3
  have w8 := Wf.2.2.1
  have w3 := Wf.2.2.2.2.1
  refine v_iload_n (dk cd_AW_total 0 rfl) rfl ?_
  rcases sw5 x with rfl | rfl | rfl | rfl | rfl | hx
  · refine v_tableIn (tgt := 36) (dk cd_AW_total 1 rfl) (by decide) (by decide) (by rfl) rfl ?_
    refine v_aload_n (dk cd_AW_total 2 rfl) rfl ?_
    refine v_getf (dk cd_AW_total 3 rfl) fg_AW_9_AW (by repeat first | assumption | exact aset_same _ _ _ | refine (aset_ne _ _ (by first | assumption | exact Ne.symm (by assumption))).trans ?_) (by rfl) ?_
    exact v_iret (dk cd_AW_total 4 rfl) rfl (pub_ret I rfl (by first | rfl | (have o0 := sw_out hx (k := 0) (by decide); have o1 := sw_out hx (k := 1) (by decide); have o2 := sw_out hx (k := 2) (by decide); have o3 := sw_out hx (k := 3) (by decide); have o4 := sw_out hx (k := 4) (by decide); unfold spTotal; rw [if_neg o0, if_neg o1, if_neg o2, if_neg o3, if_neg o4]; first | (rw [if_neg (fun z => z.1 q64)]; done) | (rw [if_neg (fun z => z.2 q75)]; done) | (rw [if_pos ⟨q64, q75⟩, hx10, hha]; done))))
  · refine v_tableIn (tgt := 41) (dk cd_AW_total 1 rfl) (by decide) (by decide) (by rfl) rfl ?_
    refine v_aload_n (dk cd_AW_total 5 rfl) rfl ?_
    refine v_getf (dk cd_AW_total 6 rfl) fg_AW_19_AW (by repeat first | assumption | exact aset_same _ _ _ | refine (aset_ne _ _ (by first | assumption | exact Ne.symm (by assumption))).trans ?_) (by rfl) ?_
    exact v_iret (dk cd_AW_total 7 rfl) rfl (pub_ret I rfl (by first | rfl | (have o0 := sw_out hx (k := 0) (by decide); have o1 := sw_out hx (k := 1) (by decide); have o2 := sw_out hx (k := 2) (by decide); have o3 := sw_out hx (k := 3) (by decide); have o4 := sw_out hx (k := 4) (by decide); unfold spTotal; rw [if_neg o0, if_neg o1, if_neg o2, if_neg o3, if_neg o4]; first | (rw [if_neg (fun z => z.1 q64)]; done) | (rw [if_neg (fun z => z.2 q75)]; done) | (rw [if_pos ⟨q64, q75⟩, hx10, hha]; done))))
  · refine v_tableIn (tgt := 46) (dk cd_AW_total 1 rfl) (by decide) (by decide) (by rfl) rfl ?_
    refine v_aload_n (dk cd_AW_total 8 rfl) rfl ?_
    refine v_getf (dk cd_AW_total 9 rfl) fg_AW_28_AW (by repeat first | assumption | exact aset_same _ _ _ | refine (aset_ne _ _ (by first | assumption | exact Ne.symm (by assumption))).trans ?_) (by rfl) ?_
    exact v_iret (dk cd_AW_total 10 rfl) rfl (pub_ret I rfl (by first | rfl | (have o0 := sw_out hx (k := 0) (by decide); have o1 := sw_out hx (k := 1) (by decide); have o2 := sw_out hx (k := 2) (by decide); have o3 := sw_out hx (k := 3) (by decide); have o4 := sw_out hx (k := 4) (by decide); unfold spTotal; rw [if_neg o0, if_neg o1, if_neg o2, if_neg o3, if_neg o4]; first | (rw [if_neg (fun z => z.1 q64)]; done) | (rw [if_neg (fun z => z.2 q75)]; done) | (rw [if_pos ⟨q64, q75⟩, hx10, hha]; done))))
  · refine v_tableIn (tgt := 51) (dk cd_AW_total 1 rfl) (by decide) (by decide) (by rfl) rfl ?_
    refine v_aload_n (dk cd_AW_total 11 rfl) rfl ?_
    refine v_getf (dk cd_AW_total 12 rfl) fg_AW_31_AW (by repeat first | assumption | exact aset_same _ _ _ | refine (aset_ne _ _ (by first | assumption | exact Ne.symm (by assumption))).trans ?_) (by rfl) ?_
    exact v_iret (dk cd_AW_total 13 rfl) rfl (pub_ret I rfl (by first | rfl | (have o0 := sw_out hx (k := 0) (by decide); have o1 := sw_out hx (k := 1) (by decide); have o2 := sw_out hx (k := 2) (by decide); have o3 := sw_out hx (k := 3) (by decide); have o4 := sw_out hx (k := 4) (by decide); unfold spTotal; rw [if_neg o0, if_neg o1, if_neg o2, if_neg o3, if_neg o4]; first | (rw [if_neg (fun z => z.1 q64)]; done) | (rw [if_neg (fun z => z.2 q75)]; done) | (rw [if_pos ⟨q64, q75⟩, hx10, hha]; done))))
  · refine v_tableIn (tgt := 56) (dk cd_AW_total 1 rfl) (by decide) (by decide) (by rfl) rfl ?_
    refine v_aload_n (dk cd_AW_total 14 rfl) rfl ?_
    refine v_getf (dk cd_AW_total 15 rfl) fg_AW_40_AW (by repeat first | assumption | exact aset_same _ _ _ | refine (aset_ne _ _ (by first | assumption | exact Ne.symm (by assumption))).trans ?_) (by rfl) ?_
    exact v_iret (dk cd_AW_total 16 rfl) rfl (pub_ret I rfl (by first | rfl | (have o0 := sw_out hx (k := 0) (by decide); have o1 := sw_out hx (k := 1) (by decide); have o2 := sw_out hx (k := 2) (by decide); have o3 := sw_out hx (k := 3) (by decide); have o4 := sw_out hx (k := 4) (by decide); unfold spTotal; rw [if_neg o0, if_neg o1, if_neg o2, if_neg o3, if_neg o4]; first | (rw [if_neg (fun z => z.1 q64)]; done) | (rw [if_neg (fun z => z.2 q75)]; done) | (rw [if_pos ⟨q64, q75⟩, hx10, hha]; done))))
  · refine v_tableOut (tgt := 61) (dk cd_AW_total 1 rfl) hx rfl ?_
    refine v_iload_n (dk cd_AW_total 17 rfl) rfl ?_
    refine v_bipush (v := 10) (dk cd_AW_total 18 rfl) (by decide) ?_
    refine v_icmp_lt (tgt := 91) (dk cd_AW_total 19 rfl) rfl (fun q64 => ?_) (fun q64 => ?_)
    · refine v_iconst (v := -1) (dk cd_AW_total 34 rfl) (by decide) ?_
      exact v_iret (dk cd_AW_total 35 rfl) rfl (pub_ret I rfl (by first | rfl | (have o0 := sw_out hx (k := 0) (by decide); have o1 := sw_out hx (k := 1) (by decide); have o2 := sw_out hx (k := 2) (by decide); have o3 := sw_out hx (k := 3) (by decide); have o4 := sw_out hx (k := 4) (by decide); unfold spTotal; rw [if_neg o0, if_neg o1, if_neg o2, if_neg o3, if_neg o4]; first | (rw [if_neg (fun z => z.1 q64)]; done) | (rw [if_neg (fun z => z.2 q75)]; done) | (rw [if_pos ⟨q64, q75⟩, hx10, hha]; done))))
    · refine v_iload_n (dk cd_AW_total 20 rfl) rfl ?_
      refine v_bipush (v := 10) (dk cd_AW_total 21 rfl) (by decide) ?_
      refine v_aload_n (dk cd_AW_total 22 rfl) rfl ?_
      refine v_getf (dk cd_AW_total 23 rfl) fg_AW_40_AW (by repeat first | assumption | exact aset_same _ _ _ | refine (aset_ne _ _ (by first | assumption | exact Ne.symm (by assumption))).trans ?_) (by rfl) ?_
      refine v_iadd (dk cd_AW_total 24 rfl) ?_
      refine v_icmp_ge (tgt := 91) (dk cd_AW_total 25 rfl) rfl (fun q75 => ?_) (fun q75 => ?_)
      · refine v_iconst (v := -1) (dk cd_AW_total 34 rfl) (by decide) ?_
        exact v_iret (dk cd_AW_total 35 rfl) rfl (pub_ret I rfl (by first | rfl | (have o0 := sw_out hx (k := 0) (by decide); have o1 := sw_out hx (k := 1) (by decide); have o2 := sw_out hx (k := 2) (by decide); have o3 := sw_out hx (k := 3) (by decide); have o4 := sw_out hx (k := 4) (by decide); unfold spTotal; rw [if_neg o0, if_neg o1, if_neg o2, if_neg o3, if_neg o4]; first | (rw [if_neg (fun z => z.1 q64)]; done) | (rw [if_neg (fun z => z.2 q75)]; done) | (rw [if_pos ⟨q64, q75⟩, hx10, hha]; done))))
      · obtain ⟨h, hh, rfl⟩ := tot_nat q64 q75 w3
        have hx10 : nI (10 + h) - 10 = nI h := by rw [show (10 : Int32) = nI 10 by decide, pk_sub (by omega)]; congr 1; omega
        obtain ⟨c, hc⟩ : ∃ c, (sHs S)[h]? = some c := ⟨_, List.getElem?_eq_getElem hh⟩
        have hha := hAt_nI hc (by omega)
        have h23 := I.hob hc
        refine v_aload_n (dk cd_AW_total 26 rfl) rfl ?_
        refine v_getf (dk cd_AW_total 27 rfl) fg_AW_36_AW (by repeat first | assumption | exact aset_same _ _ _ | refine (aset_ne _ _ (by first | assumption | exact Ne.symm (by assumption))).trans ?_) (by rfl) ?_
        refine v_iload_n (dk cd_AW_total 28 rfl) rfl ?_
        refine v_bipush (v := 10) (dk cd_AW_total 29 rfl) (by decide) ?_
        refine v_isub (dk cd_AW_total 30 rfl) ?_
        rw [hx10]
        refine v_aaldN (j := 6) (dk cd_AW_total 31 rfl) (by assumption) (by decide) rfl rfl (by omega) (rng_at hh) ?_
        refine v_getf (dk cd_AW_total 32 rfl) fg_AW_268_Ha (by repeat first | assumption | exact aset_same _ _ _ | refine (aset_ne _ _ (by first | assumption | exact Ne.symm (by assumption))).trans ?_) (by rfl) ?_
        exact v_iret (dk cd_AW_total 33 rfl) rfl (pub_ret I rfl (by first | rfl | (have o0 := sw_out hx (k := 0) (by decide); have o1 := sw_out hx (k := 1) (by decide); have o2 := sw_out hx (k := 2) (by decide); have o3 := sw_out hx (k := 3) (by decide); have o4 := sw_out hx (k := 4) (by decide); unfold spTotal; rw [if_neg o0, if_neg o1, if_neg o2, if_neg o3, if_neg o4]; first | (rw [if_neg (fun z => z.1 q64)]; done) | (rw [if_neg (fun z => z.2 q75)]; done) | (rw [if_pos ⟨q64, q75⟩, hx10, hha]; done))))
end R5
end
section
/-! a cell sends: pages of a version, of a list -/
def cPg (c : CeS) (l : List (Nat × Int32 × Int32)) : CeS := (c.1, c.2.1, c.2.2.1, l)
def pgTo (v l : Nat) : Nat → List (Nat × Int32 × Int32)
  | 0 => []
  | q + 1 => pgTo v l q ++ [(v, nI l, nI q)]
def txTo (v : Nat) (t : Tx) : Nat → List (Nat × Int32 × Int32)
  | 0 => []
  | l + 1 => txTo v t l ++ pgTo v l (pgs (tl t l))
theorem pgTo_len (v l q : Nat) : (pgTo v l q).length = q := by
  induction q with
  | zero => rfl
  | succ q ih => simp [pgTo, ih]
theorem pgs_le {n : Nat} (h : n ≤ 30) : pgs n ≤ 3 := by unfold pgs; omega
theorem txTo_len {v : Nat} {t : Tx} (h : ∀ l, tl t l ≤ 30) (k : Nat) : (txTo v t k).length ≤ 3 * k := by
  induction k with
  | zero => simp [txTo]
  | succ k ih =>
    have := pgs_le (h k)
    simp only [txTo, List.length_append, pgTo_len]
    omega
def vPages (S : SS) (v : Nat) (clk : Int32) : List (Nat × Int32 × Int32) := match (vAt S v).2.2 with
  | none => [(v, 3, 0)]
  | some s => if due clk s.1.1 s.1.2 then txTo v s.2.1.2 3 else []
theorem getCe {S : SS} {i : Nat} {c : CeS} (hi : i < (sCells S).length) : (sCells (setCe S i c))[i]? = some c := List.getElem?_set_self hi
theorem setCe2 (S : SS) (i : Nat) (c c' : CeS) : setCe (setCe S i c) i c' = setCe S i c' := by simp [setCe, sCells]
theorem setCe_id {S : SS} {i : Nat} {c : CeS} (hc : (sCells S)[i]? = some c) : setCe S i c = S := by
  have hi := (List.getElem?_eq_some_iff.mp hc)
  unfold setCe
  rw [← hi.2, List.set_getElem_self]
theorem lenCe (S : SS) (i : Nat) (c : CeS) : (sCells (setCe S i c)).length = (sCells S).length := List.length_set
theorem asV {v : VeS} : AS WS clS taS 7 (vKind v) := by unfold vKind; split; exact as_7_Sp; exact as_7_Ca
section SE
variable {u : Ux} {d : Nat} {A : AH} {F : Nat → Option AC} {S : SS} {ad : Nat → Nat → Nat}
set_option maxRecDepth 100000 in
set_option maxHeartbeats 4000000 in
theorem Ce_sendPage_ok {i v : Nat} {c : CeS} {l n : Int32} {ve : VeS} (I : Inv F S ad A) (hc : (sCells S)[i]? = some c) (hve : (sVers S)[v]? = some ve) (hp : c.2.2.2.length < 108) : V (gg u) d mm_Ce_sendPage 0 [some (.ref (ad 14 i)), some (.ref (ad 21 v)), some (.int l), some (.int n)] [] A (Ps none F (setCe S i (cPg c (c.2.2.2 ++ [(v, l, n)]))) ad A) := by
  have hi := (List.getElem?_eq_some_iff.mp hc).1
  have h14 := I.cob hc
  obtain ⟨vl, hv⟩ := I.verV hve
  obtain ⟨x17, h17, g17, e17, l17⟩ := I.cell (κ := 17) (by omega) (by omega) hc
  obtain ⟨x18, h18, g18, e18, l18⟩ := I.cell (κ := 18) (by omega) (by omega) hc
  obtain ⟨x19, h19, g19, e19, l19⟩ := I.cell (κ := 19) (by omega) (by omega) hc
  subst e17 e18 e19
  simp only [List.length_map] at l17 l18 l19
  have n1 := I.ne (LV_cell (S := S) (κ := 14) (by omega) (by omega) hi) (LV_cell (κ := 17) (by omega) (by omega) hi) (Or.inl (by omega))
  have n2 := I.ne (LV_cell (S := S) (κ := 14) (by omega) (by omega) hi) (LV_cell (κ := 18) (by omega) (by omega) hi) (Or.inl (by omega))
  have n3 := I.ne (LV_cell (S := S) (κ := 14) (by omega) (by omega) hi) (LV_cell (κ := 19) (by omega) (by omega) hi) (Or.inl (by omega))
  have n4 := I.ne (LV_cell (S := S) (κ := 17) (by omega) (by omega) hi) (LV_cell (κ := 18) (by omega) (by omega) hi) (Or.inl (by omega))
  have n5 := I.ne (LV_cell (S := S) (κ := 17) (by omega) (by omega) hi) (LV_cell (κ := 19) (by omega) (by omega) hi) (Or.inl (by omega))
  have n6 := I.ne (LV_cell (S := S) (κ := 18) (by omega) (by omega) hi) (LV_cell (κ := 19) (by omega) (by omega) hi) (Or.inl (by omega))
  refine v_aload_n (dk cd_Ce_sendPage 0 rfl) rfl ?_
  refine v_getf (dk cd_Ce_sendPage 1 rfl) fg_Ce_40_Ce (by repeat first | assumption | exact aset_same _ _ _ | refine (aset_ne _ _ (by first | assumption | exact Ne.symm (by assumption))).trans ?_) (by rfl) ?_
  refine v_aload_n (dk cd_Ce_sendPage 2 rfl) rfl ?_
  refine v_getf (dk cd_Ce_sendPage 3 rfl) fg_Ce_50_Ce (by repeat first | assumption | exact aset_same _ _ _ | refine (aset_ne _ _ (by first | assumption | exact Ne.symm (by assumption))).trans ?_) (by rfl) ?_
  refine v_aload_n (dk cd_Ce_sendPage 4 rfl) rfl ?_
  refine v_aastN (dk cd_Ce_sendPage 5 rfl) asV (by repeat first | assumption | exact aset_same _ _ _ | refine (aset_ne _ _ (by first | assumption | exact Ne.symm (by assumption))).trans ?_) (by repeat first | assumption | exact aset_same _ _ _ | refine (aset_ne _ _ (by first | assumption | exact Ne.symm (by assumption))).trans ?_) (by omega) (by rw [List.length_append, List.length_map]; omega) ?_
  refine v_aload_n (dk cd_Ce_sendPage 6 rfl) rfl ?_
  refine v_getf (dk cd_Ce_sendPage 7 rfl) fg_Ce_43_Ce (by repeat first | assumption | exact aset_same _ _ _ | refine (aset_ne _ _ (by first | assumption | exact Ne.symm (by assumption))).trans ?_) (by rfl) ?_
  refine v_aload_n (dk cd_Ce_sendPage 8 rfl) rfl ?_
  refine v_getf (dk cd_Ce_sendPage 9 rfl) fg_Ce_50_Ce (by repeat first | assumption | exact aset_same _ _ _ | refine (aset_ne _ _ (by first | assumption | exact Ne.symm (by assumption))).trans ?_) (by rfl) ?_
  refine v_iload_n (dk cd_Ce_sendPage 10 rfl) rfl ?_
  refine v_iastN (j := 0) (dk cd_Ce_sendPage 11 rfl) (by repeat first | assumption | exact aset_same _ _ _ | refine (aset_ne _ _ (by first | assumption | exact Ne.symm (by assumption))).trans ?_) (by decide) rfl (by omega) (by rw [List.length_append, List.length_map]; omega) ?_
  refine v_aload_n (dk cd_Ce_sendPage 12 rfl) rfl ?_
  refine v_getf (dk cd_Ce_sendPage 13 rfl) fg_Ce_47_Ce (by repeat first | assumption | exact aset_same _ _ _ | refine (aset_ne _ _ (by first | assumption | exact Ne.symm (by assumption))).trans ?_) (by rfl) ?_
  refine v_aload_n (dk cd_Ce_sendPage 14 rfl) rfl ?_
  refine v_getf (dk cd_Ce_sendPage 15 rfl) fg_Ce_50_Ce (by repeat first | assumption | exact aset_same _ _ _ | refine (aset_ne _ _ (by first | assumption | exact Ne.symm (by assumption))).trans ?_) (by rfl) ?_
  refine v_iload_n (dk cd_Ce_sendPage 16 rfl) rfl ?_
  refine v_iastN (j := 0) (dk cd_Ce_sendPage 17 rfl) (by repeat first | assumption | exact aset_same _ _ _ | refine (aset_ne _ _ (by first | assumption | exact Ne.symm (by assumption))).trans ?_) (by decide) rfl (by omega) (by rw [List.length_append, List.length_map]; omega) ?_
  refine v_aload_n (dk cd_Ce_sendPage 18 rfl) rfl ?_
  refine v_dup (dk cd_Ce_sendPage 19 rfl) rfl ?_
  refine v_getf (dk cd_Ce_sendPage 20 rfl) fg_Ce_50_Ce (by repeat first | assumption | exact aset_same _ _ _ | refine (aset_ne _ _ (by first | assumption | exact Ne.symm (by assumption))).trans ?_) (by rfl) ?_
  refine v_iconst (v := nI 1) (dk cd_Ce_sendPage 21 rfl) (by decide) ?_
  refine v_iaddN (dk cd_Ce_sendPage 22 rfl) ?_
  refine v_putf (dk cd_Ce_sendPage 23 rfl) fp_Ce_50_Ce (fun h => by cases h) (by repeat first | assumption | exact aset_same _ _ _ | refine (aset_ne _ _ (by first | assumption | exact Ne.symm (by assumption))).trans ?_) rfl rfl ?_
  refine v_vret (dk cd_Ce_sendPage 24 rfl) rfl (ps_of (I.updCell hi rfl (fun q hq => ?_) (fun κ h1 h2 => ?_)) rfl rfl)
  · rw [aset_ne _ _ (hq 14 (by omega) (by omega)), aset_ne _ _ (hq 19 (by omega) (by omega)), aset_ne _ _ (hq 18 (by omega) (by omega)), aset_ne _ _ (hq 17 (by omega) (by omega))]
  · have hk : κ = 14 ∨ κ = 15 ∨ κ = 16 ∨ κ = 17 ∨ κ = 18 ∨ κ = 19 := by omega
    rcases hk with rfl | rfl | rfl | rfl | rfl | rfl
    · exact ⟨_, aset_same _ _ _, by simp [CCell, cPg]; exact ⟨rfl, rfl⟩⟩
    · obtain ⟨xx, hh1, hh2⟩ := I.cell (κ := 15) (by omega) (by omega) hc
      refine ⟨xx, ?_, hh2⟩
      rw [aset_ne _ _ (I.ne (LV_cell (S := S) (κ := 15) (by omega) (by omega) hi) (LV_cell (κ := 14) (by omega) (by omega) hi) (Or.inl (by omega))), aset_ne _ _ (I.ne (LV_cell (S := S) (κ := 15) (by omega) (by omega) hi) (LV_cell (κ := 19) (by omega) (by omega) hi) (Or.inl (by omega))), aset_ne _ _ (I.ne (LV_cell (S := S) (κ := 15) (by omega) (by omega) hi) (LV_cell (κ := 18) (by omega) (by omega) hi) (Or.inl (by omega))), aset_ne _ _ (I.ne (LV_cell (S := S) (κ := 15) (by omega) (by omega) hi) (LV_cell (κ := 17) (by omega) (by omega) hi) (Or.inl (by omega)))]
      exact hh1
    · obtain ⟨xx, hh1, hh2⟩ := I.cell (κ := 16) (by omega) (by omega) hc
      refine ⟨xx, ?_, hh2⟩
      rw [aset_ne _ _ (I.ne (LV_cell (S := S) (κ := 16) (by omega) (by omega) hi) (LV_cell (κ := 14) (by omega) (by omega) hi) (Or.inl (by omega))), aset_ne _ _ (I.ne (LV_cell (S := S) (κ := 16) (by omega) (by omega) hi) (LV_cell (κ := 19) (by omega) (by omega) hi) (Or.inl (by omega))), aset_ne _ _ (I.ne (LV_cell (S := S) (κ := 16) (by omega) (by omega) hi) (LV_cell (κ := 18) (by omega) (by omega) hi) (Or.inl (by omega))), aset_ne _ _ (I.ne (LV_cell (S := S) (κ := 16) (by omega) (by omega) hi) (LV_cell (κ := 17) (by omega) (by omega) hi) (Or.inl (by omega)))]
      exact hh1
    · refine ⟨_, (aset_ne _ _ (Ne.symm n1)).trans ((aset_ne _ _ n5).trans ((aset_ne _ _ n4).trans (aset_same _ _ _))), ?_⟩
      have h9 := ArG.app (k := 107) (v := .ref (ad 21 v)) (show (c.2.2.2.map fun q => Value.ref (ad 21 q.1)).length + g17.length = 108 by simpa using l17) (by simpa using hp)
      simpa [CCell, cPg] using h9
    · refine ⟨_, (aset_ne _ _ (Ne.symm n2)).trans ((aset_ne _ _ n6).trans (aset_same _ _ _)), ?_⟩
      have h9 := ArG.app (k := 100) (v := .int l) (show (c.2.2.2.map fun q => Value.int q.2.1).length + g18.length = 108 by simpa using l18) (by simpa using hp)
      simpa [CCell, cPg] using h9
    · refine ⟨_, (aset_ne _ _ (Ne.symm n3)).trans (aset_same _ _ _), ?_⟩
      have h9 := ArG.app (k := 100) (v := .int n) (show (c.2.2.2.map fun q => Value.int q.2.2).length + g19.length = 108 by simpa using l19) (by simpa using hp)
      simpa [CCell, cPg] using h9
set_option maxRecDepth 100000 in
set_option maxHeartbeats 4000000 in
theorem Ce_sendTexts_in {i v : Nat} {c : CeS} {ve : VeS} {s : SpS} {A0 : AH} (hi : i < (sCells S).length) (h40 : (sVers S).length ≤ 40) (hve : (sVers S)[v]? = some ve) (hs : ve.2.2 = some s) (w3 : s.2.1.2.length = 3) (w30 : ∀ l, tl s.2.1.2 l ≤ 30) (hp : c.2.2.2.length + 9 ≤ 108) {l : Nat} (hl : l < 3) (kont : ∀ A : AH, Inv F (setCe S i (cPg c (c.2.2.2 ++ txTo v s.2.1.2 (l + 1)))) ad A ∧ A.2 = A0.2 → V (gg u) (d + 1) mm_Ce_sendTexts 39 [some (.ref (ad 14 i)), some (.ref (ad 21 v)), some (.int (nI l)), none, none] [] A (Ps none F (setCe S i (cPg c (c.2.2.2 ++ txTo v s.2.1.2 3))) ad A0)) : ∀ q, ∀ A : AH, q ≤ pgs (tl s.2.1.2 l) ∧ Inv F (setCe S i (cPg c (c.2.2.2 ++ (txTo v s.2.1.2 l ++ pgTo v l q)))) ad A ∧ A.2 = A0.2 → V (gg u) (d + 1) mm_Ce_sendTexts 19 [some (.ref (ad 14 i)), some (.ref (ad 21 v)), some (.int (nI l)), some (.int (nI (pgs (tl s.2.1.2 l)))), some (.int (nI q))] [] A (Ps none F (setCe S i (cPg c (c.2.2.2 ++ txTo v s.2.1.2 3))) ad A0) := by
  refine up_ind (pgs (tl s.2.1.2 l)) ?_
  intro q ih A ⟨hq, I, hA⟩
  have hb := pgs_le (w30 l)
  have ht := txTo_len (v := v) w30 l
  have hcc := getCe (c := cPg c (c.2.2.2 ++ (txTo v s.2.1.2 l ++ pgTo v l q))) hi
  have h14 := I.cob hcc
  refine v_iload (dk cd_Ce_sendTexts 12 rfl) rfl ?_
  refine v_iload_n (dk cd_Ce_sendTexts 13 rfl) rfl ?_
  refine v_icmp_geN (tgt := 39) (dk cd_Ce_sendTexts 14 rfl) rfl (by omega) (by omega) (fun q22 => ?_) (fun q22 => ?_)
  · have hqe : q = pgs (tl s.2.1.2 l) := by omega
    subst hqe
    exact V.drop 3 (V.drop 4 (kont A ⟨I, hA⟩))
  · refine v_aload_n (dk cd_Ce_sendTexts 15 rfl) rfl ?_
    refine v_aload_n (dk cd_Ce_sendTexts 16 rfl) rfl ?_
    refine v_iload_n (dk cd_Ce_sendTexts 17 rfl) rfl ?_
    refine v_iload (dk cd_Ce_sendTexts 18 rfl) rfl ?_
    refine v_callv (r := ("AreaWarnings$Cell", TT_Ce, 12)) (dk cd_Ce_sendTexts 19 rfl) cv_Ce_95 rfl (by assumption) (as := [_, _, _]) rfl rfl (Nat.le_of_ble_eq_true rfl) (by simp [Value.category]) (Ce_sendPage_ok (v := v) (ve := ve) I hcc hve (by simp only [cPg, List.length_append, pgTo_len]; omega)) ps_no (fun v9 A9 hq => ?_)
    obtain ⟨e9, I, hA2⟩ := hq
    cases e9
    rw [setCe2] at I
    refine v_iincN (dk cd_Ce_sendTexts 20 rfl) rfl (by decide) rfl ?_
    refine v_goto (tgt := 19) (dk cd_Ce_sendTexts 21 rfl) rfl ?_
    exact ih q22 _ ⟨by omega, by simpa [cPg, pgTo] using I, hA2.trans hA⟩
set_option maxRecDepth 100000 in
set_option maxHeartbeats 4000000 in
theorem Ce_sendTexts_lp {i v : Nat} {c : CeS} {ve : VeS} {s : SpS} {A0 : AH} (hi : i < (sCells S).length) (h40 : (sVers S).length ≤ 40) (hve : (sVers S)[v]? = some ve) (hs : ve.2.2 = some s) (w3 : s.2.1.2.length = 3) (w30 : ∀ l, tl s.2.1.2 l ≤ 30) (hp : c.2.2.2.length + 9 ≤ 108) : ∀ l, ∀ A : AH, l ≤ 3 ∧ Inv F (setCe S i (cPg c (c.2.2.2 ++ txTo v s.2.1.2 l))) ad A ∧ A.2 = A0.2 → V (gg u) (d + 1) mm_Ce_sendTexts 2 [some (.ref (ad 14 i)), some (.ref (ad 21 v)), some (.int (nI l)), none, none] [] A (Ps none F (setCe S i (cPg c (c.2.2.2 ++ txTo v s.2.1.2 3))) ad A0) := by
  refine up_ind 3 ?_
  intro l ih A ⟨hl, I, hA⟩
  have hv := I.verS (S := setCe S i (cPg c (c.2.2.2 ++ txTo v s.2.1.2 l))) hve hs
  have HT := I.teAt (S := setCe S i (cPg c (c.2.2.2 ++ txTo v s.2.1.2 l))) (msg_ver (S := setCe S i (cPg c (c.2.2.2 ++ txTo v s.2.1.2 l))) h40 hve hs) w3 w30
  have HT0 := HT
  obtain ⟨-, -, ba, la, k8, k13⟩ := HT
  refine v_iload_n (dk cd_Ce_sendTexts 2 rfl) rfl ?_
  refine v_iconst (v := nI 3) (dk cd_Ce_sendTexts 3 rfl) (by decide) ?_
  refine v_icmp_geN (tgt := 45) (dk cd_Ce_sendTexts 4 rfl) rfl (by omega) (by omega) (fun q4 => ?_) (fun q4 => ?_)
  · have hle : l = 3 := by omega
    subst hle
    exact v_vret (dk cd_Ce_sendTexts 24 rfl) rfl (ps_of I hA rfl)
  · refine v_aload_n (dk cd_Ce_sendTexts 5 rfl) rfl ?_
    refine v_getf (dk cd_Ce_sendTexts 6 rfl) fg_Ce_99_Sp (by assumption) (by rfl) ?_
    refine v_iload_n (dk cd_Ce_sendTexts 7 rfl) rfl ?_
    refine v_rv (r := ("AreaWarnings$Texts", TT_Te, 2)) (dk cd_Ce_sendTexts 8 rfl) cv_Ce_103 rfl (by assumption) (as := [_]) rfl rfl (Nat.le_of_ble_eq_true rfl) (by simp [Value.category]) (Te_pagesOf_ok HT0 (by omega)) ?_
    refine v_istore_n (dk cd_Ce_sendTexts 9 rfl) (by decide) rfl ?_
    refine v_iconst (v := nI 0) (dk cd_Ce_sendTexts 10 rfl) (by decide) ?_
    refine v_istore (dk cd_Ce_sendTexts 11 rfl) (by decide) rfl ?_
    refine Ce_sendTexts_in hi h40 hve hs w3 w30 hp q4 (fun A1 ⟨I1, hA1⟩ => ?_) 0 A ⟨by omega, by simpa [pgTo] using I, hA⟩
    refine v_iincN (dk cd_Ce_sendTexts 22 rfl) rfl (by decide) rfl ?_
    refine v_goto (tgt := 2) (dk cd_Ce_sendTexts 23 rfl) rfl ?_
    exact ih q4 A1 ⟨by omega, I1, hA1⟩
set_option maxRecDepth 100000 in
set_option maxHeartbeats 4000000 in
theorem Ce_sendTexts_ok {i v : Nat} {c : CeS} {ve : VeS} {s : SpS} (hi : i < (sCells S).length) (h40 : (sVers S).length ≤ 40) (hve : (sVers S)[v]? = some ve) (hs : ve.2.2 = some s) (w3 : s.2.1.2.length = 3) (w30 : ∀ l, tl s.2.1.2 l ≤ 30) (hp : c.2.2.2.length + 9 ≤ 108) (I : Inv F S ad A) (hc : (sCells S)[i]? = some c) : V (gg u) (d + 1) mm_Ce_sendTexts 0 [some (.ref (ad 14 i)), some (.ref (ad 21 v)), none, none, none] [] A (Ps none F (setCe S i (cPg c (c.2.2.2 ++ txTo v s.2.1.2 3))) ad A) := by
  refine v_iconst (v := nI 0) (dk cd_Ce_sendTexts 0 rfl) (by decide) ?_
  refine v_istore_n (dk cd_Ce_sendTexts 1 rfl) (by decide) rfl ?_
  exact Ce_sendTexts_lp hi h40 hve hs w3 w30 hp 0 A ⟨by omega, by rw [show setCe S i (cPg c (c.2.2.2 ++ txTo v s.2.1.2 0)) = S by rw [txTo, List.append_nil]; exact setCe_id hc]; exact I, rfl⟩
set_option maxRecDepth 100000 in
set_option maxHeartbeats 4000000 in
theorem Ce_sendVersion_ok {i v : Nat} {c : CeS} {ve : VeS} {clk : Int32} (I : Inv F S ad A) (hc : (sCells S)[i]? = some c) (h40 : (sVers S).length ≤ 40) (WV : WfV S) (hve : (sVers S)[v]? = some ve) (hp : c.2.2.2.length + 9 ≤ 108) : V (gg u) (d + 2) mm_Ce_sendVersion 0 [some (.ref (ad 14 i)), some (.ref (ad 21 v)), some (.int clk), none] [] A (Ps none F (setCe S i (cPg c (c.2.2.2 ++ vPages S v clk))) ad A) := by
  have hi := (List.getElem?_eq_some_iff.mp hc).1
  have h14 := I.cob hc
  have hva := vAt_of hve
  cases hs : ve.2.2 with
  | none =>
    have hv := I.verC hve hs
    refine v_aload_n (dk cd_Ce_sendVersion 0 rfl) rfl ?_
    refine v_instNo (dk cd_Ce_sendVersion 1 rfl) in_Ce_66_Ca (by assumption) ?_
    refine v_if_eq (tgt := 28) (dk cd_Ce_sendVersion 2 rfl) rfl (fun _ => ?_) (fun q => absurd rfl q)
    refine v_aload_n (dk cd_Ce_sendVersion 14 rfl) rfl ?_
    refine v_aload_n (dk cd_Ce_sendVersion 15 rfl) rfl ?_
    refine v_iconst (v := 3) (dk cd_Ce_sendVersion 16 rfl) (by decide) ?_
    refine v_iconst (v := 0) (dk cd_Ce_sendVersion 17 rfl) (by decide) ?_
    refine v_callv (r := ("AreaWarnings$Cell", TT_Ce, 12)) (dk cd_Ce_sendVersion 18 rfl) cv_Ce_95 rfl (by assumption) (as := [_, _, _]) rfl rfl (Nat.le_of_ble_eq_true rfl) (by simp [Value.category]) (Ce_sendPage_ok (v := v) (ve := ve) I hc hve (by omega)) ps_no (fun v9 A9 hq => ?_)
    obtain ⟨e9, I, hA2⟩ := hq
    cases e9
    exact v_vret (dk cd_Ce_sendVersion 19 rfl) rfl (ps_of (by simpa [vPages, hva, hs] using I) hA2 rfl)
  | some s =>
    have hv := I.verS hve hs
    obtain ⟨-, w3, w30, -, w0⟩ := WV _ _ _ hve hs
    refine v_aload_n (dk cd_Ce_sendVersion 0 rfl) rfl ?_
    refine v_instY (dk cd_Ce_sendVersion 1 rfl) iy_Ce_66_Sp (by assumption) ?_
    refine v_if_eq (tgt := 28) (dk cd_Ce_sendVersion 2 rfl) rfl (fun q => absurd q (by decide)) (fun _ => ?_)
    refine v_aload_n (dk cd_Ce_sendVersion 3 rfl) rfl ?_
    refine v_castY (dk cd_Ce_sendVersion 4 rfl) iy_Ce_66_Sp (by assumption) ?_
    refine v_astore_n (dk cd_Ce_sendVersion 5 rfl) (by decide) rfl ?_
    refine v_aload_n (dk cd_Ce_sendVersion 6 rfl) rfl ?_
    refine v_iload_n (dk cd_Ce_sendVersion 7 rfl) rfl ?_
    refine v_rv (r := ("AreaWarnings$Spoken", TT_Sp, 9)) (dk cd_Ce_sendVersion 8 rfl) cv_Ce_87 rfl (by assumption) (as := [_]) rfl rfl (Nat.le_of_ble_eq_true rfl) (by simp [Value.category]) (Sp_isDue_ok hv w0) ?_
    refine v_ifeqB (tgt := 35) (dk cd_Ce_sendVersion 9 rfl) rfl (fun q17 => ?_) (fun q17 => ?_)
    · exact v_vret (dk cd_Ce_sendVersion 19 rfl) rfl (ps_of (by rw [show setCe S i (cPg c (c.2.2.2 ++ vPages S v clk)) = S by rw [show vPages S v clk = [] by simp [vPages, hva, hs, q17], List.append_nil]; exact setCe_id hc]; exact I) rfl rfl)
    · refine v_aload_n (dk cd_Ce_sendVersion 10 rfl) rfl ?_
      refine v_aload_n (dk cd_Ce_sendVersion 11 rfl) rfl ?_
      refine v_callv (r := ("AreaWarnings$Cell", TT_Ce, 12)) (dk cd_Ce_sendVersion 12 rfl) cv_Ce_91 rfl (by assumption) (as := [_]) rfl rfl (Nat.le_of_ble_eq_true rfl) (by simp [Value.category]) (Ce_sendTexts_ok hi h40 hve hs w3 w30 hp I hc) ps_no (fun v9 A9 hq => ?_)
      obtain ⟨e9, I, hA2⟩ := hq
      cases e9
      refine v_goto (tgt := 35) (dk cd_Ce_sendVersion 13 rfl) rfl ?_
      exact v_vret (dk cd_Ce_sendVersion 19 rfl) rfl (ps_of (by simpa [vPages, hva, hs, q17] using I) hA2 rfl)
end SE
end
section
/-! a cell's list: made anew, or the ended dropped; all its pages -/
def belongs (S : SS) (i : Nat) (c : CeS) (v : Nat) : Bool := match (vAt S v).2.2 with
  | some s => s.2.2.getD i false
  | none => lsts S c (vAt S v).1
def keepL (S : SS) (i : Nat) (c : CeS) (clk : Int32) (v : Nat) : Bool := !decide ((vAt S v).2.1.2.2 ≤ clk) && belongs S i c v
def mkList (S : SS) (i : Nat) (c : CeS) (clk : Int32) : List Nat := ((sOrd S).map (nwI S)).filter (keepL S i c clk)
def cLs (c : CeS) (l : List Nat) (fl : Bool) : CeS := (c.1, (c.2.1.1, fl), l, c.2.2.2)
theorem aset_aset (A : AH) (a : Nat) (x y : AC) : aset (aset A a x) a y = aset A a y := by
  unfold aset
  simp only [Prod.mk.injEq, and_true]
  funext q
  split <;> rfl
theorem aset_id {A : AH} {a : Nat} {x : AC} (h : A.1 a = some x) : aset A a x = A := by
  unfold aset
  have e : (fun q => if q = a then some x else A.1 q) = A.1 := by
    funext q
    split
    · rename_i hq; rw [hq, h]
    · rfl
  rw [e]
section LI
variable {u : Ux} {d : Nat} {A : AH} {F : Nat → Option AC} {S : SS} {ad : Nat → Nat → Nat}
set_option maxRecDepth 100000 in
set_option maxHeartbeats 4000000 in
theorem Ce_belongsHere_ok {i v : Nat} {c : CeS} {ve : VeS} (I : Inv F S ad A) (Wf : Wf S) (WV : WfV S) (hc : (sCells S)[i]? = some c) (hb : ∀ v ∈ c.2.2.1, v < (sVers S).length) (hve : (sVers S)[v]? = some ve) : V (gg u) (d + 1) mm_Ce_belongsHere 0 [some (.ref (ad 14 i)), some (.ref (ad 21 v)), none] [] A (Rt (some (.int (b2i (belongs S i c v)))) A) := by
  have hi := (List.getElem?_eq_some_iff.mp hc).1
  have w8 := Wf.2.2.1
  have h14 := I.cob hc
  have hva := vAt_of hve
  have hwn := Wf.2.2.2.2.2.2.2 _ _ hve
  cases hs : ve.2.2 with
  | none =>
    have hv := I.verC hve hs
    refine v_aload_n (dk cd_Ce_belongsHere 0 rfl) rfl ?_
    refine v_instNo (dk cd_Ce_belongsHere 1 rfl) in_Ce_66_Ca (by assumption) ?_
    refine v_if_eq (tgt := 22) (dk cd_Ce_belongsHere 2 rfl) rfl (fun _ => ?_) (fun q => absurd rfl q)
    refine v_aload_n (dk cd_Ce_belongsHere 12 rfl) rfl ?_
    refine v_aload_n (dk cd_Ce_belongsHere 13 rfl) rfl ?_
    refine v_getf (dk cd_Ce_belongsHere 14 rfl) fg_Ce_72_Ca (by assumption) (by rfl) ?_
    refine v_rv (r := ("AreaWarnings$Cell", TT_Ce, 12)) (dk cd_Ce_belongsHere 15 rfl) cv_Ce_76 rfl (by assumption) (as := [_]) rfl rfl (Nat.le_of_ble_eq_true rfl) (by simp [Value.category]) (Ce_listsWarning_ok I Wf hc hb hwn) ?_
    exact v_zretB (dk cd_Ce_belongsHere 16 rfl) rfl (rt_of (by simp [belongs, hva, hs]))
  | some s =>
    have hv := I.verS hve hs
    have hcv := I.cov hve hs
    obtain ⟨-, -, -, w8c, -⟩ := WV _ _ _ hve hs
    have hil : i < s.2.2.length := by omega
    have hrd : (s.2.2.map fun b => Value.int (b2i b))[i]? = some (.int (b2i s.2.2[i])) := by rw [List.getElem?_map, List.getElem?_eq_getElem hil]; rfl
    refine v_aload_n (dk cd_Ce_belongsHere 0 rfl) rfl ?_
    refine v_instY (dk cd_Ce_belongsHere 1 rfl) iy_Ce_66_Sp (by assumption) ?_
    refine v_if_eq (tgt := 22) (dk cd_Ce_belongsHere 2 rfl) rfl (fun q => absurd q (by decide)) (fun _ => ?_)
    refine v_aload_n (dk cd_Ce_belongsHere 3 rfl) rfl ?_
    refine v_castY (dk cd_Ce_belongsHere 4 rfl) iy_Ce_66_Sp (by assumption) ?_
    refine v_astore_n (dk cd_Ce_belongsHere 5 rfl) (by decide) rfl ?_
    refine v_aload_n (dk cd_Ce_belongsHere 6 rfl) rfl ?_
    refine v_getf (dk cd_Ce_belongsHere 7 rfl) fg_Ce_68_Sp (by assumption) (by rfl) ?_
    refine v_aload_n (dk cd_Ce_belongsHere 8 rfl) rfl ?_
    refine v_getf (dk cd_Ce_belongsHere 9 rfl) fg_Ce_9_Ce (by assumption) (by rfl) ?_
    refine v_zaldN (j := 1) (dk cd_Ce_belongsHere 10 rfl) (by assumption) (by decide) rfl (by omega) hrd ?_
    exact v_zretB (dk cd_Ce_belongsHere 11 rfl) rfl (rt_of (by simp [belongs, hva, hs, hil]))
theorem Inv.spare (I : Inv F S ad A) {i : Nat} {c : CeS} (hc : (sCells S)[i]? = some c) : ∃ gb, A.1 (ad (if c.2.1.2 then 15 else 16) i) = some (107, gb) ∧ gb.length = 12 := by
  cases hf : c.2.1.2 with
  | true =>
    obtain ⟨x, h1, gb, h2, h3⟩ := I.cell (κ := 15) (by omega) (by omega) hc
    rw [hf] at h2 h3
    exact ⟨gb, by simpa [h2] using h1, by simpa using h3⟩
  | false =>
    obtain ⟨x, h1, gb, h2, h3⟩ := I.cell (κ := 16) (by omega) (by omega) hc
    rw [hf] at h2 h3
    exact ⟨gb, by simpa [h2] using h1, by simpa using h3⟩
/-- writing the spare row changes no state -/
theorem Inv.wrSpare (I : Inv F S ad A) {i : Nat} {c : CeS} (hc : (sCells S)[i]? = some c) {gb : List Value} (hl : gb.length = 12) : Inv F S ad (aset A (ad (if c.2.1.2 then 15 else 16) i) (107, gb)) := by
  have hi := (List.getElem?_eq_some_iff.mp hc).1
  have hk : ∃ k0, k0 = (if c.2.1.2 then 15 else 16) := ⟨_, rfl⟩
  obtain ⟨k0, hk0⟩ := hk
  rw [← hk0]
  have hk1 : k0 = 15 ∨ k0 = 16 := by rw [hk0]; split <;> simp
  have h9 := Inv.updCell (c' := c) I hi (A' := aset A (ad k0 i) (107, gb)) rfl (fun q hq => aset_ne _ _ (hq k0 (by omega) (by omega))) (fun κ h1 h2 => ?_)
  · rw [setCe_id hc] at h9; exact h9
  by_cases hk : κ = k0
  · subst hk
    refine ⟨_, aset_same _ _ _, ?_⟩
    unfold CCell
    cases hf : c.2.1.2 with
    | true => rw [hf] at hk0; simp at hk0; subst hk0; exact ⟨gb, by simp [hf], by simpa [hf] using hl⟩
    | false => rw [hf] at hk0; simp at hk0; subst hk0; exact ⟨gb, by simp [hf], by simpa [hf] using hl⟩
  · obtain ⟨x, h3, h4⟩ := I.cell h1 h2 hc
    refine ⟨x, ?_, h4⟩
    rw [aset_ne _ _ (I.ne (LV_cell h1 h2 hi) (LV_cell (by omega) (by omega) hi) (Or.inl hk))]
    exact h3
theorem spNe (I : Inv F S ad A) {i : Nat} {c : CeS} (hi : i < (sCells S).length) : ad 14 i ≠ (ad (if c.2.1.2 then 15 else 16) i) := by
  split
  · exact I.ne (LV_cell (by omega) (by omega) hi) (LV_cell (by omega) (by omega) hi) (Or.inl (by omega))
  · exact I.ne (LV_cell (by omega) (by omega) hi) (LV_cell (by omega) (by omega) hi) (Or.inl (by omega))
set_option maxRecDepth 100000 in
set_option maxHeartbeats 4000000 in
theorem Ce_makeListAnew_lp {i : Nat} {c : CeS} {clk : Int32} {A0 : AH} (Wf : Wf S) (WV : WfV S) (hc : (sCells S)[i]? = some c) (hb : ∀ v ∈ c.2.2.1, v < (sVers S).length) : ∀ w, ∀ (A : AH) (gb : List Value), w ≤ (sOrd S).length ∧ Inv F S ad A ∧ A.2 = A0.2 ∧ A.1 (ad (if c.2.1.2 then 15 else 16) i) = some (107, (((((sOrd S).take w).map (nwI S)).filter (keepL S i c clk)).map fun v => Value.ref (ad 21 v)) ++ gb) ∧ ((((sOrd S).take w).map (nwI S)).filter (keepL S i c clk)).length + gb.length = 12 →
    V (gg u) (d + 2) mm_Ce_makeListAnew 6 [some (.ref (ad 14 i)), some (.ref (ad 2 0)), some (.int (nI (sWarn S).length)), some (.int clk), some (.int (nI ((((sOrd S).take w).map (nwI S)).filter (keepL S i c clk)).length)), some (.int (nI w)), none] [] A (Ps none F (setCe S i (cLs c (mkList S i c clk) (!c.2.1.2))) ad A0) := by
  refine up_ind (sWarn S).length ?_
  intro w ih A gb ⟨hw, I, hA, hsp, hln⟩
  have hi := (List.getElem?_eq_some_iff.mp hc).1
  have h14 := I.cob hc
  obtain ⟨x2, h2, g2, e2, l2⟩ := I.top (κ := 2) (by omega)
  subst e2
  have w1 := Wf.1
  have w12 := Wf.2.1
  have hcl : ((((sOrd S).take w).map (nwI S)).filter (keepL S i c clk)).length ≤ w := Nat.le_trans (List.length_filter_le _ _) (by simp; omega)
  have nn := spNe (c := c) I hi
  refine v_iload (dk cd_Ce_makeListAnew 4 rfl) rfl ?_
  refine v_iload_n (dk cd_Ce_makeListAnew 5 rfl) rfl ?_
  refine v_icmp_geN (tgt := 57) (dk cd_Ce_makeListAnew 6 rfl) rfl (by omega) (by omega) (fun q9 => ?_) (fun q9 => ?_)
  · have hwe : w = (sOrd S).length := by omega
    subst hwe
    rw [List.take_length] at hsp hln hcl ⊢
    refine v_aload_n (dk cd_Ce_makeListAnew 28 rfl) rfl ?_
    refine v_getf (dk cd_Ce_makeListAnew 29 rfl) fg_Ce_30_Ce (by repeat first | assumption | exact aset_same _ _ _ | refine (aset_ne _ _ (by first | assumption | exact Ne.symm (by assumption))).trans ?_) (by rfl) ?_
    refine v_astore (dk cd_Ce_makeListAnew 30 rfl) (by decide) rfl ?_
    refine v_aload_n (dk cd_Ce_makeListAnew 31 rfl) rfl ?_
    refine v_aload_n (dk cd_Ce_makeListAnew 32 rfl) rfl ?_
    refine v_getf (dk cd_Ce_makeListAnew 33 rfl) fg_Ce_37_Ce (by repeat first | assumption | exact aset_same _ _ _ | refine (aset_ne _ _ (by first | assumption | exact Ne.symm (by assumption))).trans ?_) (by rfl) ?_
    refine v_putf (dk cd_Ce_makeListAnew 34 rfl) fp_Ce_30_Ce (fun h => by cases h) (by repeat first | assumption | exact aset_same _ _ _ | refine (aset_ne _ _ (by first | assumption | exact Ne.symm (by assumption))).trans ?_) rfl rfl ?_
    refine v_aload_n (dk cd_Ce_makeListAnew 35 rfl) rfl ?_
    refine v_aload (dk cd_Ce_makeListAnew 36 rfl) rfl ?_
    refine v_putf (dk cd_Ce_makeListAnew 37 rfl) fp_Ce_37_Ce (fun h => by cases h) (by repeat first | assumption | exact aset_same _ _ _ | refine (aset_ne _ _ (by first | assumption | exact Ne.symm (by assumption))).trans ?_) rfl rfl ?_
    refine v_aload_n (dk cd_Ce_makeListAnew 38 rfl) rfl ?_
    refine v_iload (dk cd_Ce_makeListAnew 39 rfl) rfl ?_
    refine v_putf (dk cd_Ce_makeListAnew 40 rfl) fp_Ce_34_Ce (fun h => by cases h) (by repeat first | assumption | exact aset_same _ _ _ | refine (aset_ne _ _ (by first | assumption | exact Ne.symm (by assumption))).trans ?_) rfl rfl ?_
    refine v_vret (dk cd_Ce_makeListAnew 41 rfl) rfl (ps_of ?_ hA rfl)
    rw [aset_aset, aset_aset]
    have hx : ∀ κ x9, 14 ≤ κ → κ < 20 → κ ≠ 14 → (aset A (ad 14 i) x9).1 (ad κ i) = A.1 (ad κ i) := fun κ x9 h1 h2 h3 => aset_ne _ _ (I.ne (LV_cell h1 h2 hi) (LV_cell (by omega) (by omega) hi) (Or.inl h3))
    refine I.updCell hi rfl (fun q hq => aset_ne _ _ (hq 14 (by omega) (by omega))) (fun κ h1 h2 => ?_)
    by_cases k14 : κ = 14
    · subst k14
      refine ⟨_, aset_same _ _ _, ?_⟩
      cases hf : c.2.1.2 <;> simp [CCell, cLs, mkList, hf]
    obtain ⟨x, h3, h4⟩ := I.cell h1 h2 hc
    cases hf : c.2.1.2 with
    | true =>
      simp only [hf, if_true] at hsp
      have hk : κ = 15 ∨ κ = 16 ∨ κ = 17 ∨ κ = 18 ∨ κ = 19 := by omega
      rcases hk with rfl | rfl | rfl | rfl | rfl
      · exact ⟨_, (hx 15 _ (by omega) (by omega) (by omega)).trans hsp, gb, by simp [cLs, mkList], by simpa [cLs, mkList] using hln⟩
      · exact ⟨x, (hx 16 _ (by omega) (by omega) (by omega)).trans h3, by simpa [CCell, cLs] using ArG.less h4⟩
      · exact ⟨x, (hx 17 _ (by omega) (by omega) (by omega)).trans h3, h4⟩
      · exact ⟨x, (hx 18 _ (by omega) (by omega) (by omega)).trans h3, h4⟩
      · exact ⟨x, (hx 19 _ (by omega) (by omega) (by omega)).trans h3, h4⟩
    | false =>
      simp only [hf] at hsp
      have hk : κ = 15 ∨ κ = 16 ∨ κ = 17 ∨ κ = 18 ∨ κ = 19 := by omega
      rcases hk with rfl | rfl | rfl | rfl | rfl
      · exact ⟨x, (hx 15 _ (by omega) (by omega) (by omega)).trans h3, by simpa [CCell, cLs] using ArG.less h4⟩
      · exact ⟨_, (hx 16 _ (by omega) (by omega) (by omega)).trans hsp, gb, by simp [cLs, mkList], by simpa [cLs, mkList] using hln⟩
      · exact ⟨x, (hx 17 _ (by omega) (by omega) (by omega)).trans h3, h4⟩
      · exact ⟨x, (hx 18 _ (by omega) (by omega) (by omega)).trans h3, h4⟩
      · exact ⟨x, (hx 19 _ (by omega) (by omega) (by omega)).trans h3, h4⟩
  · have hwo : w < (sOrd S).length := by omega
    have hwn : (sOrd S)[w] < (sWarn S).length := Wf.2.2.2.2.2.1 _ (List.getElem_mem hwo)
    obtain ⟨hwob, hve⟩ := I.wn Wf hwn
    obtain ⟨vl, hv⟩ := I.verV hve
    have htk : (sOrd S).take (w + 1) = (sOrd S).take w ++ [(sOrd S)[w]] := by rw [List.take_add_one, List.getElem?_eq_getElem hwo]; rfl
    have hkp : keepL S i c clk (nwI S (sOrd S)[w]) = (!decide ((nwV S (sOrd S)[w]).2.1.2.2 ≤ clk) && belongs S i c (nwI S (sOrd S)[w])) := rfl
    refine v_aload_n (dk cd_Ce_makeListAnew 7 rfl) rfl ?_
    refine v_iload (dk cd_Ce_makeListAnew 8 rfl) rfl ?_
    refine v_aaldN (j := 5) (dk cd_Ce_makeListAnew 9 rfl) (by repeat first | assumption | exact aset_same _ _ _ | refine (aset_ne _ _ (by first | assumption | exact Ne.symm (by assumption))).trans ?_) (by decide) rfl rfl (by omega) (map_app hwo) ?_
    refine v_getf (dk cd_Ce_makeListAnew 10 rfl) fg_Ce_53_Wa (by repeat first | assumption | exact aset_same _ _ _ | refine (aset_ne _ _ (by first | assumption | exact Ne.symm (by assumption))).trans ?_) (by rfl) ?_
    refine v_astore (dk cd_Ce_makeListAnew 11 rfl) (by decide) rfl ?_
    refine v_aload (dk cd_Ce_makeListAnew 12 rfl) rfl ?_
    refine v_getf (dk cd_Ce_makeListAnew 13 rfl) (fgV fg_Ce_59_Sp fg_Ce_59_Ca _) (by repeat first | assumption | exact aset_same _ _ _ | refine (aset_ne _ _ (by first | assumption | exact Ne.symm (by assumption))).trans ?_) (by rfl) ?_
    refine v_iload_n (dk cd_Ce_makeListAnew 14 rfl) rfl ?_
    refine v_icmp_le (tgt := 51) (dk cd_Ce_makeListAnew 15 rfl) rfl (fun q27 => ?_) (fun q27 => ?_)
    · refine v_iincN (dk cd_Ce_makeListAnew 26 rfl) rfl (by decide) rfl ?_
      refine v_goto (tgt := 6) (dk cd_Ce_makeListAnew 27 rfl) rfl ?_
      have hkf : keepL S i c clk (nwI S (sOrd S)[w]) = false := by rw [hkp]; first | (rw [decide_eq_true q27]; rfl) | (rw [q36, Bool.and_false])
      have hfe : ((((sOrd S).take (w + 1)).map (nwI S)).filter (keepL S i c clk)) = ((((sOrd S).take w).map (nwI S)).filter (keepL S i c clk)) := by rw [htk, List.map_append, List.filter_append]; simp [hkf]
      refine V.drop 6 ?_
      have h9 := ih q9 A gb ⟨by omega, I, hA, by rw [hfe]; exact hsp, by rw [hfe]; exact hln⟩
      rw [hfe] at h9
      exact h9
    · refine v_aload_n (dk cd_Ce_makeListAnew 16 rfl) rfl ?_
      refine v_aload (dk cd_Ce_makeListAnew 17 rfl) rfl ?_
      refine v_rv (r := ("AreaWarnings$Cell", TT_Ce, 12)) (dk cd_Ce_makeListAnew 18 rfl) cv_Ce_62 rfl (by repeat first | assumption | exact aset_same _ _ _ | refine (aset_ne _ _ (by first | assumption | exact Ne.symm (by assumption))).trans ?_) (as := [_]) rfl rfl (Nat.le_of_ble_eq_true rfl) (by simp [Value.category]) (Ce_belongsHere_ok I Wf WV hc hb hve) ?_
      refine v_ifeqB (tgt := 51) (dk cd_Ce_makeListAnew 19 rfl) rfl (fun q36 => ?_) (fun q36 => ?_)
      · refine v_iincN (dk cd_Ce_makeListAnew 26 rfl) rfl (by decide) rfl ?_
        refine v_goto (tgt := 6) (dk cd_Ce_makeListAnew 27 rfl) rfl ?_
        have hkf : keepL S i c clk (nwI S (sOrd S)[w]) = false := by rw [hkp]; first | (rw [decide_eq_true q27]; rfl) | (rw [q36, Bool.and_false])
        have hfe : ((((sOrd S).take (w + 1)).map (nwI S)).filter (keepL S i c clk)) = ((((sOrd S).take w).map (nwI S)).filter (keepL S i c clk)) := by rw [htk, List.map_append, List.filter_append]; simp [hkf]
        refine V.drop 6 ?_
        have h9 := ih q9 A gb ⟨by omega, I, hA, by rw [hfe]; exact hsp, by rw [hfe]; exact hln⟩
        rw [hfe] at h9
        exact h9
      · refine v_aload_n (dk cd_Ce_makeListAnew 20 rfl) rfl ?_
        refine v_getf (dk cd_Ce_makeListAnew 21 rfl) fg_Ce_37_Ce (by repeat first | assumption | exact aset_same _ _ _ | refine (aset_ne _ _ (by first | assumption | exact Ne.symm (by assumption))).trans ?_) (by rfl) ?_
        refine v_iload (dk cd_Ce_makeListAnew 22 rfl) rfl ?_
        refine v_aload (dk cd_Ce_makeListAnew 23 rfl) rfl ?_
        refine v_aastN (dk cd_Ce_makeListAnew 24 rfl) asV (by repeat first | assumption | exact aset_same _ _ _ | refine (aset_ne _ _ (by first | assumption | exact Ne.symm (by assumption))).trans ?_) (by repeat first | assumption | exact aset_same _ _ _ | refine (aset_ne _ _ (by first | assumption | exact Ne.symm (by assumption))).trans ?_) (by omega) (by rw [List.length_append, List.length_map]; omega) ?_
        refine v_iincN (dk cd_Ce_makeListAnew 25 rfl) rfl (by decide) rfl ?_
        refine v_iincN (dk cd_Ce_makeListAnew 26 rfl) rfl (by decide) rfl ?_
        refine v_goto (tgt := 6) (dk cd_Ce_makeListAnew 27 rfl) rfl ?_
        have hkt : keepL S i c clk (nwI S (sOrd S)[w]) = true := by rw [hkp, q36, decide_eq_false q27]; rfl
        have hfe : ((((sOrd S).take (w + 1)).map (nwI S)).filter (keepL S i c clk)) = ((((sOrd S).take w).map (nwI S)).filter (keepL S i c clk)) ++ [nwI S (sOrd S)[w]] := by rw [htk, List.map_append, List.filter_append]; simp [hkt]
        obtain ⟨g0, gr, rfl⟩ : ∃ g0 gr, gb = g0 :: gr := by
          cases gb with
          | nil => rw [List.length_nil] at hln; omega
          | cons a b => exact ⟨a, b, rfl⟩
        have hln2 : ((((sOrd S).take w).map (nwI S)).filter (keepL S i c clk)).length + (gr.length + 1) = 12 := hln
        have hset : ((((((sOrd S).take w).map (nwI S)).filter (keepL S i c clk)).map fun v => Value.ref (ad 21 v)) ++ g0 :: gr).set ((((sOrd S).take w).map (nwI S)).filter (keepL S i c clk)).length (.ref (ad 21 (nwI S (sOrd S)[w]))) = ((((((sOrd S).take w).map (nwI S)).filter (keepL S i c clk)) ++ [nwI S (sOrd S)[w]]).map fun v => Value.ref (ad 21 v)) ++ gr := by rw [List.set_append_right _ _ (by simp)]; simp
        have I9 := I.wrSpare hc (gb := ((((((sOrd S).take w).map (nwI S)).filter (keepL S i c clk)) ++ [nwI S (sOrd S)[w]]).map fun v => Value.ref (ad 21 v)) ++ gr) (by rw [List.length_append, List.length_map, List.length_append, List.length_singleton]; omega)
        refine V.drop 6 ?_
        have h9 := ih q9 _ gr ⟨by omega, I9, hA, by rw [hfe, aset_same], by rw [hfe, List.length_append, List.length_singleton]; omega⟩
        rw [hfe, List.length_append, ← hset] at h9
        exact h9
set_option maxRecDepth 100000 in
set_option maxHeartbeats 4000000 in
theorem Ce_makeListAnew_ok {i : Nat} {c : CeS} {clk : Int32} (I : Inv F S ad A) (Wf : Wf S) (WV : WfV S) (hc : (sCells S)[i]? = some c) (hb : ∀ v ∈ c.2.2.1, v < (sVers S).length) : V (gg u) (d + 2) mm_Ce_makeListAnew 0 [some (.ref (ad 14 i)), some (.ref (ad 2 0)), some (.int (nI (sWarn S).length)), some (.int clk), none, none, none] [] A (Ps none F (setCe S i (cLs c (mkList S i c clk) (!c.2.1.2))) ad A) := by
  obtain ⟨gb, hsp, hl⟩ := I.spare hc
  refine v_iconst (v := nI 0) (dk cd_Ce_makeListAnew 0 rfl) (by decide) ?_
  refine v_istore (dk cd_Ce_makeListAnew 1 rfl) (by decide) rfl ?_
  refine v_iconst (v := nI 0) (dk cd_Ce_makeListAnew 2 rfl) (by decide) ?_
  refine v_istore (dk cd_Ce_makeListAnew 3 rfl) (by decide) rfl ?_
  exact Ce_makeListAnew_lp Wf WV hc hb 0 A gb ⟨by omega, I, rfl, by simpa using hsp, by simpa using hl⟩
end LI
end
section
/-! the ended are dropped; all pages of a cell -/
def goesOn (S : SS) (clk : Int32) (v : Nat) : Bool := !decide ((vAt S v).2.1.2.2 ≤ clk)
section L2
variable {u : Ux} {d : Nat} {A : AH} {F : Nat → Option AC} {S : SS} {ad : Nat → Nat → Nat}
theorem lsNe (I : Inv F S ad A) {i κ j : Nat} {c : CeS} (hi : i < (sCells S).length) (hl : LV S κ j) (h1 : κ ≠ 15) (h2 : κ ≠ 16) : ad κ j ≠ (ad (if c.2.1.2 then 16 else 15) i) := by
  split
  · exact I.ne hl (LV_cell (by omega) (by omega) hi) (Or.inl h2)
  · exact I.ne hl (LV_cell (by omega) (by omega) hi) (Or.inl h1)
set_option maxRecDepth 100000 in
set_option maxHeartbeats 4000000 in
theorem Ce_dropEnded_lp {i : Nat} {c : CeS} {clk : Int32} (I : Inv F S ad A) (hc : (sCells S)[i]? = some c) (hb : ∀ v ∈ c.2.2.1, v < (sVers S).length) (h12 : c.2.2.1.length ≤ 12) : ∀ k, ∀ vs : List Value, k ≤ c.2.2.1.length ∧ vs.length = 12 ∧ (∃ r, vs = (((c.2.2.1.take k).filter (goesOn S clk)).map fun v => Value.ref (ad 21 v)) ++ r ∧ ∃ gb, vs.drop k = ((c.2.2.1.drop k).map fun v => Value.ref (ad 21 v)) ++ gb) →
    V (gg u) d mm_Ce_dropEnded 4 [some (.ref (ad 14 i)), some (.int clk), some (.int (nI ((c.2.2.1.take k).filter (goesOn S clk)).length)), some (.int (nI k))] [] (aset A (ad (if c.2.1.2 then 16 else 15) i) (107, vs)) (Ps none F (setCe S i (cLs c (c.2.2.1.filter (goesOn S clk)) c.2.1.2)) ad A) := by
  refine up_ind c.2.2.1.length ?_
  intro k ih vs ⟨hk, hl, r, hr, gb, hd⟩
  have hi := (List.getElem?_eq_some_iff.mp hc).1
  have h14 := I.cob hc
  have n14 := lsNe (c := c) I hi (LV_cell (κ := 14) (by omega) (by omega) hi) (by omega) (by omega)
  have hcl : ((c.2.2.1.take k).filter (goesOn S clk)).length ≤ k := Nat.le_trans (List.length_filter_le _ _) (by simp; omega)
  refine v_iload_n (dk cd_Ce_dropEnded 4 rfl) rfl ?_
  refine v_aload_n (dk cd_Ce_dropEnded 5 rfl) rfl ?_
  refine v_getf (dk cd_Ce_dropEnded 6 rfl) fg_Ce_34_Ce (by repeat first | assumption | exact aset_same _ _ _ | refine (aset_ne _ _ (by first | assumption | exact Ne.symm (by assumption))).trans ?_) (by rfl) ?_
  refine v_icmp_geN (tgt := 46) (dk cd_Ce_dropEnded 7 rfl) rfl (by omega) (by omega) (fun q9 => ?_) (fun q9 => ?_)
  · have hke : k = c.2.2.1.length := by omega
    subst hke
    rw [List.take_length] at hr hcl ⊢
    refine v_aload_n (dk cd_Ce_dropEnded 26 rfl) rfl ?_
    refine v_iload_n (dk cd_Ce_dropEnded 27 rfl) rfl ?_
    refine v_putf (dk cd_Ce_dropEnded 28 rfl) fp_Ce_34_Ce (fun h => by cases h) (by repeat first | assumption | exact aset_same _ _ _ | refine (aset_ne _ _ (by first | assumption | exact Ne.symm (by assumption))).trans ?_) rfl rfl ?_
    refine v_vret (dk cd_Ce_dropEnded 29 rfl) rfl (ps_of ?_ rfl rfl)
    have hx : ∀ κ x9, 14 ≤ κ → κ < 20 → κ ≠ 14 → (aset (aset A (ad (if c.2.1.2 then 16 else 15) i) (107, vs)) (ad 14 i) x9).1 (ad κ i) = (aset A (ad (if c.2.1.2 then 16 else 15) i) (107, vs)).1 (ad κ i) := fun κ x9 h1 h2 h3 => aset_ne _ _ (I.ne (LV_cell h1 h2 hi) (LV_cell (by omega) (by omega) hi) (Or.inl h3))
    refine I.updCell hi rfl (fun q hq => ?_) (fun κ h1 h2 => ?_)
    · rw [aset_ne _ _ (hq 14 (by omega) (by omega)), aset_ne]
      split
      · exact hq 16 (by omega) (by omega)
      · exact hq 15 (by omega) (by omega)
    by_cases k14 : κ = 14
    · subst k14
      refine ⟨_, aset_same _ _ _, ?_⟩
      cases hf : c.2.1.2 <;> simp [CCell, cLs, hf]
    obtain ⟨x, h3, h4⟩ := I.cell h1 h2 hc
    have hla : (c.2.2.1.filter (goesOn S clk)).length + r.length = 12 := by rw [← hl, hr]; simp
    cases hf : c.2.1.2 with
    | true =>
      simp only [hf, if_true] at hx ⊢
      have hk : κ = 15 ∨ κ = 16 ∨ κ = 17 ∨ κ = 18 ∨ κ = 19 := by omega
      rcases hk with rfl | rfl | rfl | rfl | rfl
      · exact ⟨x, (hx 15 _ (by omega) (by omega) (by omega)).trans ((aset_ne _ _ (I.ne (LV_cell (by omega) (by omega) hi) (LV_cell (by omega) (by omega) hi) (Or.inl (by omega)))).trans h3), by simpa [CCell, cLs] using ArG.less h4⟩
      · exact ⟨_, (hx 16 _ (by omega) (by omega) (by omega)).trans (aset_same _ _ _), r, by simp [cLs, hr], by simpa [cLs] using hla⟩
      · exact ⟨x, (hx 17 _ (by omega) (by omega) (by omega)).trans ((aset_ne _ _ (I.ne (LV_cell (by omega) (by omega) hi) (LV_cell (by omega) (by omega) hi) (Or.inl (by omega)))).trans h3), h4⟩
      · exact ⟨x, (hx 18 _ (by omega) (by omega) (by omega)).trans ((aset_ne _ _ (I.ne (LV_cell (by omega) (by omega) hi) (LV_cell (by omega) (by omega) hi) (Or.inl (by omega)))).trans h3), h4⟩
      · exact ⟨x, (hx 19 _ (by omega) (by omega) (by omega)).trans ((aset_ne _ _ (I.ne (LV_cell (by omega) (by omega) hi) (LV_cell (by omega) (by omega) hi) (Or.inl (by omega)))).trans h3), h4⟩
    | false =>
      simp only [hf, Bool.false_eq_true, if_false] at hx ⊢
      have hk : κ = 15 ∨ κ = 16 ∨ κ = 17 ∨ κ = 18 ∨ κ = 19 := by omega
      rcases hk with rfl | rfl | rfl | rfl | rfl
      · exact ⟨_, (hx 15 _ (by omega) (by omega) (by omega)).trans (aset_same _ _ _), r, by simp [cLs, hr], by simpa [cLs] using hla⟩
      · exact ⟨x, (hx 16 _ (by omega) (by omega) (by omega)).trans ((aset_ne _ _ (I.ne (LV_cell (by omega) (by omega) hi) (LV_cell (by omega) (by omega) hi) (Or.inl (by omega)))).trans h3), by simpa [CCell, cLs] using ArG.less h4⟩
      · exact ⟨x, (hx 17 _ (by omega) (by omega) (by omega)).trans ((aset_ne _ _ (I.ne (LV_cell (by omega) (by omega) hi) (LV_cell (by omega) (by omega) hi) (Or.inl (by omega)))).trans h3), h4⟩
      · exact ⟨x, (hx 18 _ (by omega) (by omega) (by omega)).trans ((aset_ne _ _ (I.ne (LV_cell (by omega) (by omega) hi) (LV_cell (by omega) (by omega) hi) (Or.inl (by omega)))).trans h3), h4⟩
      · exact ⟨x, (hx 19 _ (by omega) (by omega) (by omega)).trans ((aset_ne _ _ (I.ne (LV_cell (by omega) (by omega) hi) (LV_cell (by omega) (by omega) hi) (Or.inl (by omega)))).trans h3), h4⟩
  · have hdr : c.2.2.1.drop k = c.2.2.1[k] :: c.2.2.1.drop (k + 1) := List.drop_eq_getElem_cons q9
    have hvn := hb _ (List.getElem_mem q9)
    have hve := List.getElem?_eq_getElem hvn
    have hva := vAt_of hve
    obtain ⟨vl, hv⟩ := I.verV hve
    have nv := lsNe (c := c) I hi (LV_ver hvn) (by omega) (by omega)
    have htk : c.2.2.1.take (k + 1) = c.2.2.1.take k ++ [c.2.2.1[k]] := by rw [List.take_add_one, List.getElem?_eq_getElem q9]; rfl
    have hrd : vs[k]? = some (.ref (ad 21 c.2.2.1[k])) := by
      have e1 : (vs.drop k)[0]? = vs[k]? := by rw [List.getElem?_drop]; rfl
      rw [← e1, hd, hdr]; rfl
    have hd1 : vs.drop (k + 1) = ((c.2.2.1.drop (k + 1)).map fun v => Value.ref (ad 21 v)) ++ gb := by
      rw [← List.drop_drop, hd, hdr]; rfl
    refine v_aload_n (dk cd_Ce_dropEnded 8 rfl) rfl ?_
    refine v_getf (dk cd_Ce_dropEnded 9 rfl) fg_Ce_30_Ce (by repeat first | assumption | exact aset_same _ _ _ | refine (aset_ne _ _ (by first | assumption | exact Ne.symm (by assumption))).trans ?_) (by rfl) ?_
    refine v_iload_n (dk cd_Ce_dropEnded 10 rfl) rfl ?_
    refine v_aaldN (j := 7) (dk cd_Ce_dropEnded 11 rfl) (by repeat first | assumption | exact aset_same _ _ _ | refine (aset_ne _ _ (by first | assumption | exact Ne.symm (by assumption))).trans ?_) (by decide) rfl rfl (by omega) hrd ?_
    refine v_getf (dk cd_Ce_dropEnded 12 rfl) (fgV fg_Ce_59_Sp fg_Ce_59_Ca _) (by repeat first | assumption | exact aset_same _ _ _ | refine (aset_ne _ _ (by first | assumption | exact Ne.symm (by assumption))).trans ?_) (by rfl) ?_
    refine v_iload_n (dk cd_Ce_dropEnded 13 rfl) rfl ?_
    refine v_icmp_le (tgt := 40) (dk cd_Ce_dropEnded 14 rfl) rfl (fun q22 => ?_) (fun q22 => ?_)
    · refine v_iincN (dk cd_Ce_dropEnded 24 rfl) rfl (by decide) rfl ?_
      refine v_goto (tgt := 4) (dk cd_Ce_dropEnded 25 rfl) rfl ?_
      have hkf : goesOn S clk c.2.2.1[k] = false := by unfold goesOn; rw [hva, decide_eq_true q22]; rfl
      have hfe : ((c.2.2.1.take (k + 1)).filter (goesOn S clk)) = ((c.2.2.1.take k).filter (goesOn S clk)) := by rw [htk, List.filter_append]; simp [hkf]
      have h9 := ih q9 vs ⟨by omega, hl, r, by rw [hfe]; exact hr, gb, hd1⟩
      rw [hfe] at h9
      exact h9
    · refine v_aload_n (dk cd_Ce_dropEnded 15 rfl) rfl ?_
      refine v_getf (dk cd_Ce_dropEnded 16 rfl) fg_Ce_30_Ce (by repeat first | assumption | exact aset_same _ _ _ | refine (aset_ne _ _ (by first | assumption | exact Ne.symm (by assumption))).trans ?_) (by rfl) ?_
      refine v_iload_n (dk cd_Ce_dropEnded 17 rfl) rfl ?_
      refine v_aload_n (dk cd_Ce_dropEnded 18 rfl) rfl ?_
      refine v_getf (dk cd_Ce_dropEnded 19 rfl) fg_Ce_30_Ce (by repeat first | assumption | exact aset_same _ _ _ | refine (aset_ne _ _ (by first | assumption | exact Ne.symm (by assumption))).trans ?_) (by rfl) ?_
      refine v_iload_n (dk cd_Ce_dropEnded 20 rfl) rfl ?_
      refine v_aaldN (j := 7) (dk cd_Ce_dropEnded 21 rfl) (by repeat first | assumption | exact aset_same _ _ _ | refine (aset_ne _ _ (by first | assumption | exact Ne.symm (by assumption))).trans ?_) (by decide) rfl rfl (by omega) hrd ?_
      refine v_aastN (dk cd_Ce_dropEnded 22 rfl) asV (by repeat first | assumption | exact aset_same _ _ _ | refine (aset_ne _ _ (by first | assumption | exact Ne.symm (by assumption))).trans ?_) (by repeat first | assumption | exact aset_same _ _ _ | refine (aset_ne _ _ (by first | assumption | exact Ne.symm (by assumption))).trans ?_) (by omega) (by omega) ?_
      refine v_iincN (dk cd_Ce_dropEnded 23 rfl) rfl (by decide) rfl ?_
      refine v_iincN (dk cd_Ce_dropEnded 24 rfl) rfl (by decide) rfl ?_
      refine v_goto (tgt := 4) (dk cd_Ce_dropEnded 25 rfl) rfl ?_
      have hkt : goesOn S clk c.2.2.1[k] = true := by unfold goesOn; rw [hva, decide_eq_false q22]; rfl
      have hfe : ((c.2.2.1.take (k + 1)).filter (goesOn S clk)) = ((c.2.2.1.take k).filter (goesOn S clk)) ++ [c.2.2.1[k]] := by rw [htk, List.filter_append]; simp [hkt]
      obtain ⟨r0, rr, rfl⟩ : ∃ r0 rr, r = r0 :: rr := by
        cases r with
        | nil => rw [hr, List.append_nil, List.length_map] at hl; omega
        | cons a b => exact ⟨a, b, rfl⟩
      have hset : vs.set ((c.2.2.1.take k).filter (goesOn S clk)).length (.ref (ad 21 c.2.2.1[k])) = ((((c.2.2.1.take k).filter (goesOn S clk)) ++ [c.2.2.1[k]]).map fun v => Value.ref (ad 21 v)) ++ rr := by rw [hr, List.set_append_right _ _ (by simp)]; simp
      have h9 := ih q9 (vs.set ((c.2.2.1.take k).filter (goesOn S clk)).length (.ref (ad 21 c.2.2.1[k]))) ⟨by omega, by rw [List.length_set]; exact hl, rr, by rw [hfe]; exact hset, gb, by rw [List.drop_set_of_lt (by omega)]; exact hd1⟩
      rw [hfe, List.length_append] at h9
      rw [aset_aset]
      exact h9
set_option maxRecDepth 100000 in
set_option maxHeartbeats 4000000 in
theorem Ce_dropEnded_ok {i : Nat} {c : CeS} {clk : Int32} (I : Inv F S ad A) (hc : (sCells S)[i]? = some c) (hb : ∀ v ∈ c.2.2.1, v < (sVers S).length) (h12 : c.2.2.1.length ≤ 12) : V (gg u) d mm_Ce_dropEnded 0 [some (.ref (ad 14 i)), some (.int clk), none, none] [] A (Ps none F (setCe S i (cLs c (c.2.2.1.filter (goesOn S clk)) c.2.1.2)) ad A) := by
  obtain ⟨gb, h1, hl⟩ := I.lst hc
  refine v_iconst (v := nI 0) (dk cd_Ce_dropEnded 0 rfl) (by decide) ?_
  refine v_istore_n (dk cd_Ce_dropEnded 1 rfl) (by decide) rfl ?_
  refine v_iconst (v := nI 0) (dk cd_Ce_dropEnded 2 rfl) (by decide) ?_
  refine v_istore_n (dk cd_Ce_dropEnded 3 rfl) (by decide) rfl ?_
  have h9 := Ce_dropEnded_lp (u := u) (d := d) (clk := clk) I hc hb h12 0 ((c.2.2.1.map fun v => Value.ref (ad 21 v)) ++ gb) ⟨by omega, by rw [List.length_append, List.length_map]; exact hl, _, rfl, gb, rfl⟩
  rw [aset_id h1] at h9
  exact h9
end L2
end
section
/-! all pages of a cell, by severity -/
def vSev (S : SS) (v : Nat) : Int32 := (vAt S v).2.1.2.1
def sPg (S : SS) (clk : Int32) (s : Nat) (l : List Nat) : List (Nat × Int32 × Int32) := l.flatMap fun v => if vSev S v = nI s then vPages S v clk else []
def pSev (S : SS) (clk : Int32) (l : List Nat) : Nat → List (Nat × Int32 × Int32)
  | 0 => []
  | n + 1 => pSev S clk l n ++ sPg S clk (5 - n) l
def cS (S : SS) (l : List Nat) : Nat → Nat
  | 0 => 0
  | n + 1 => cS S l n + l.countP fun v => decide (vSev S v = nI (5 - n))
def cOne (x : Int32) : Nat → Nat
  | 0 => 0
  | n + 1 => cOne x n + if x = nI (5 - n) then 1 else 0
theorem cOne_no {x : Int32} {n : Nat} (h : ∀ j, j < n → ¬ x = nI (5 - j)) : cOne x n = 0 := by
  induction n with
  | zero => rfl
  | succ n ih =>
    simp only [cOne]
    rw [ih (fun j hj => h j (by omega)), if_neg (h n (by omega))]
theorem cOne_le {x : Int32} {n : Nat} (hn : n ≤ 5) : cOne x n ≤ 1 := by
  induction n with
  | zero => simp [cOne]
  | succ n ih =>
    simp only [cOne]
    by_cases hx : x = nI (5 - n)
    · rw [if_pos hx, cOne_no]
      · omega
      · intro j hj e
        rw [hx, nI_eq (by omega) (by omega)] at e
        omega
    · rw [if_neg hx]; exact ih (by omega)
theorem cS_cons (S : SS) (v : Nat) (r : List Nat) (n : Nat) : cS S (v :: r) n = cS S r n + cOne (vSev S v) n := by
  induction n with
  | zero => rfl
  | succ n ih =>
    simp only [cS, cOne, ih, List.countP_cons]
    split <;> simp_all <;> omega
theorem cS_le {S : SS} {n : Nat} (l : List Nat) (hn : n ≤ 5) : cS S l n ≤ l.length := by
  induction l with
  | nil =>
    clear hn
    induction n with
    | zero => simp [cS]
    | succ n ih => simpa [cS] using ih
  | cons v r ih =>
    rw [cS_cons, List.length_cons]
    have := cOne_le (x := vSev S v) hn
    omega
theorem cnt_take {l : List Nat} {k : Nat} {f : Nat → Bool} (hk : k < l.length) (h : f l[k] = true) : (l.take k).countP f + 1 ≤ l.countP f := by
  have e : l = l.take k ++ l[k] :: l.drop (k + 1) := by rw [← List.drop_eq_getElem_cons hk, List.take_append_drop]
  have e2 : l.countP f = (l.take k ++ l[k] :: l.drop (k + 1)).countP f := by rw [← e]
  rw [e2, List.countP_append, List.countP_cons_of_pos h]
  omega
theorem vPages_len {S : SS} {v : Nat} {clk : Int32} (WV : WfV S) (hv : v < (sVers S).length) : (vPages S v clk).length ≤ 9 := by
  have hve := List.getElem?_eq_getElem hv
  have hva := vAt_of hve
  unfold vPages
  rw [hva]
  cases hs : (sVers S)[v].2.2 with
  | none => simp
  | some s =>
    simp only
    split
    · have := txTo_len (v := v) (WV _ _ _ hve hs).2.2.1 3
      omega
    · simp
theorem sPg_len {S : SS} {clk : Int32} {s : Nat} {l : List Nat} (WV : WfV S) (hb : ∀ v ∈ l, v < (sVers S).length) : (sPg S clk s l).length ≤ 9 * l.countP fun v => decide (vSev S v = nI s) := by
  induction l with
  | nil => simp [sPg]
  | cons v r ih =>
    have h1 := ih (fun x hx => hb x (List.mem_cons_of_mem _ hx))
    have h2 := vPages_len (clk := clk) WV (hb v List.mem_cons_self)
    unfold sPg at h1 ⊢
    rw [List.flatMap_cons, List.length_append, List.countP_cons]
    split <;> simp_all <;> omega
theorem pSev_len {S : SS} {clk : Int32} {l : List Nat} (WV : WfV S) (hb : ∀ v ∈ l, v < (sVers S).length) (n : Nat) : (pSev S clk l n).length ≤ 9 * cS S l n := by
  induction n with
  | zero => simp [pSev]
  | succ n ih =>
    have h1 := sPg_len (clk := clk) (s := 5 - n) WV hb
    simp only [pSev, cS, List.length_append]
    omega
theorem sPg_snoc (S : SS) (clk : Int32) (s : Nat) (l : List Nat) (v : Nat) : sPg S clk s (l ++ [v]) = sPg S clk s l ++ (if vSev S v = nI s then vPages S v clk else []) := by
  simp [sPg, List.flatMap_append]
section PA
variable {u : Ux} {d : Nat} {A : AH} {F : Nat → Option AC} {S : SS} {ad : Nat → Nat → Nat}
theorem Inv.zeroPg {x : AC} {i : Nat} {c : CeS} (I : Inv F S ad A) (hc : (sCells S)[i]? = some c) (hx : CCell (cPg c []) ad i 14 x) : Inv F (setCe S i (cPg c [])) ad (aset A (ad 14 i) x) := by
  have hi := (List.getElem?_eq_some_iff.mp hc).1
  refine I.updCell hi rfl (fun q hq => aset_ne _ _ (hq 14 (by omega) (by omega))) (fun κ h1 h2 => ?_)
  by_cases k14 : κ = 14
  · subst k14
    exact ⟨x, aset_same _ _ _, hx⟩
  obtain ⟨y, h3, h4⟩ := I.cell h1 h2 hc
  refine ⟨y, (aset_ne _ _ (I.ne (LV_cell h1 h2 hi) (LV_cell (by omega) (by omega) hi) (Or.inl k14))).trans h3, ?_⟩
  have hk : κ = 15 ∨ κ = 16 ∨ κ = 17 ∨ κ = 18 ∨ κ = 19 := by omega
  rcases hk with rfl | rfl | rfl | rfl | rfl
  · exact h4
  · exact h4
  · exact ArG.less h4
  · exact ArG.less h4
  · exact ArG.less h4
set_option maxRecDepth 100000 in
set_option maxHeartbeats 4000000 in
theorem Ce_sendPages_in {i : Nat} {c : CeS} {clk : Int32} {A0 : AH} (hi : i < (sCells S).length) (h40 : (sVers S).length ≤ 40) (WV : WfV S) (hb : ∀ v ∈ c.2.2.1, v < (sVers S).length) (h12 : c.2.2.1.length ≤ 12) {s : Nat} (hs : 1 ≤ s ∧ s ≤ 5) (kont : ∀ A : AH, Inv F (setCe S i (cPg c (pSev S clk c.2.2.1 (5 - s) ++ sPg S clk s c.2.2.1))) ad A ∧ A.2 = A0.2 → V (gg u) (d + 3) mm_Ce_sendPages 52 [some (.ref (ad 14 i)), some (.int clk), some (.int (nI s)), none] [] A (Ps none F (setCe S i (cPg c (pSev S clk c.2.2.1 5))) ad A0)) : ∀ k, ∀ A : AH, k ≤ c.2.2.1.length ∧ Inv F (setCe S i (cPg c (pSev S clk c.2.2.1 (5 - s) ++ sPg S clk s (c.2.2.1.take k)))) ad A ∧ A.2 = A0.2 → V (gg u) (d + 3) mm_Ce_sendPages 14 [some (.ref (ad 14 i)), some (.int clk), some (.int (nI s)), some (.int (nI k))] [] A (Ps none F (setCe S i (cPg c (pSev S clk c.2.2.1 5))) ad A0) := by
  refine up_ind c.2.2.1.length ?_
  intro k ih A ⟨hk, I, hA⟩
  have hcc := getCe (c := cPg c (pSev S clk c.2.2.1 (5 - s) ++ sPg S clk s (c.2.2.1.take k))) hi
  have h14 := I.cob hcc
  obtain ⟨gl, hgl, hll⟩ := I.lst hcc
  refine v_iload_n (dk cd_Ce_sendPages 10 rfl) rfl ?_
  refine v_aload_n (dk cd_Ce_sendPages 11 rfl) rfl ?_
  refine v_getf (dk cd_Ce_sendPages 12 rfl) fg_Ce_34_Ce (by assumption) (by rfl) ?_
  refine v_icmp_geN (tgt := 52) (dk cd_Ce_sendPages 13 rfl) rfl (by omega) (by omega) (fun q19 => ?_) (fun q19 => ?_)
  · have q19 : c.2.2.1.length ≤ k := q19
    have hke : k = c.2.2.1.length := by omega
    subst hke
    rw [List.take_length] at I
    exact V.drop 3 (kont A ⟨I, hA⟩)
  · have q19 : k < c.2.2.1.length := q19
    have hvn := hb _ (List.getElem_mem q19)
    have hve := List.getElem?_eq_getElem hvn
    have hva := vAt_of hve
    obtain ⟨vl, hv⟩ := I.verV (S := setCe S i (cPg c (pSev S clk c.2.2.1 (5 - s) ++ sPg S clk s (c.2.2.1.take k)))) hve
    have hsv : vSev S c.2.2.1[k] = (sVers S)[c.2.2.1[k]].2.1.2.1 := by unfold vSev; rw [hva]
    have htk : c.2.2.1.take (k + 1) = c.2.2.1.take k ++ [c.2.2.1[k]] := by rw [List.take_add_one, List.getElem?_eq_getElem q19]; rfl
    refine v_aload_n (dk cd_Ce_sendPages 14 rfl) rfl ?_
    refine v_getf (dk cd_Ce_sendPages 15 rfl) fg_Ce_30_Ce (by assumption) (by rfl) ?_
    refine v_iload_n (dk cd_Ce_sendPages 16 rfl) rfl ?_
    refine v_aaldN (j := 7) (dk cd_Ce_sendPages 17 rfl) (by assumption) (by decide) rfl rfl (by omega) (map_app q19) ?_
    refine v_getf (dk cd_Ce_sendPages 18 rfl) (fgV fg_Ce_80_Sp fg_Ce_80_Ca _) (by assumption) (by rfl) ?_
    refine v_iload_n (dk cd_Ce_sendPages 19 rfl) rfl ?_
    refine v_icmp_ne (tgt := 46) (dk cd_Ce_sendPages 20 rfl) rfl (fun q32 => ?_) (fun q32 => ?_)
    · refine v_iincN (dk cd_Ce_sendPages 28 rfl) rfl (by decide) rfl ?_
      refine v_goto (tgt := 14) (dk cd_Ce_sendPages 29 rfl) rfl ?_
      exact ih q19 A ⟨by omega, by rw [htk, sPg_snoc, if_neg (by rw [hsv]; exact q32), List.append_nil]; exact I, hA⟩
    · have hbd : (pSev S clk c.2.2.1 (5 - s) ++ sPg S clk s (c.2.2.1.take k)).length + 9 ≤ 108 := by
        have b1 := pSev_len (clk := clk) WV hb (5 - s)
        have b2 := sPg_len (clk := clk) (s := s) (l := c.2.2.1.take k) WV (fun v hv => hb v (List.mem_of_mem_take hv))
        have b3 := cnt_take (f := fun v => decide (vSev S v = nI s)) q19 (by simpa [hsv] using q32)
        have b4 := cS_le (S := S) (n := 5 - s + 1) c.2.2.1 (by omega)
        simp only [cS] at b4
        rw [show 5 - (5 - s) = s by omega] at b4
        rw [List.length_append]
        omega
      refine v_aload_n (dk cd_Ce_sendPages 21 rfl) rfl ?_
      refine v_aload_n (dk cd_Ce_sendPages 22 rfl) rfl ?_
      refine v_getf (dk cd_Ce_sendPages 23 rfl) fg_Ce_30_Ce (by assumption) (by rfl) ?_
      refine v_iload_n (dk cd_Ce_sendPages 24 rfl) rfl ?_
      refine v_aaldN (j := 7) (dk cd_Ce_sendPages 25 rfl) (by assumption) (by decide) rfl rfl (by omega) (map_app q19) ?_
      refine v_iload_n (dk cd_Ce_sendPages 26 rfl) rfl ?_
      refine v_callv (r := ("AreaWarnings$Cell", TT_Ce, 12)) (dk cd_Ce_sendPages 27 rfl) cv_Ce_83 rfl (by assumption) (as := [_, _]) rfl rfl (Nat.le_of_ble_eq_true rfl) (by simp [Value.category]) (Ce_sendVersion_ok (S := setCe S i (cPg c (pSev S clk c.2.2.1 (5 - s) ++ sPg S clk s (c.2.2.1.take k)))) I hcc h40 WV hve hbd) ps_no (fun v9 A9 hq => ?_)
      obtain ⟨e9, I, hA2⟩ := hq
      cases e9
      rw [setCe2] at I
      refine v_iincN (dk cd_Ce_sendPages 28 rfl) rfl (by decide) rfl ?_
      refine v_goto (tgt := 14) (dk cd_Ce_sendPages 29 rfl) rfl ?_
      exact ih q19 _ ⟨by omega, by rw [htk, sPg_snoc, if_pos (by rw [hsv]; exact q32), ← List.append_assoc]; exact I, hA2.trans hA⟩
set_option maxRecDepth 100000 in
set_option maxHeartbeats 4000000 in
theorem Ce_sendPages_lp {i : Nat} {c : CeS} {clk : Int32} {A0 : AH} (hi : i < (sCells S).length) (h40 : (sVers S).length ≤ 40) (WV : WfV S) (hb : ∀ v ∈ c.2.2.1, v < (sVers S).length) (h12 : c.2.2.1.length ≤ 12) : ∀ s, ∀ A : AH, s ≤ 5 ∧ Inv F (setCe S i (cPg c (pSev S clk c.2.2.1 (5 - s)))) ad A ∧ A.2 = A0.2 → V (gg u) (d + 3) mm_Ce_sendPages 7 [some (.ref (ad 14 i)), some (.int clk), some (.int (nI s)), none] [] A (Ps none F (setCe S i (cPg c (pSev S clk c.2.2.1 5))) ad A0) := by
  intro s
  induction s with
  | zero =>
    intro A ⟨hs, I, hA⟩
    refine v_iload_n (dk cd_Ce_sendPages 5 rfl) rfl ?_
    refine v_iconst (v := nI 1) (dk cd_Ce_sendPages 6 rfl) (by decide) ?_
    refine v_icmp_ltN (tgt := 58) (dk cd_Ce_sendPages 7 rfl) rfl (by omega) (by omega) (fun q9 => ?_) (fun q9 => ?_)
    · exact v_vret (dk cd_Ce_sendPages 32 rfl) rfl (ps_of I hA rfl)
    · refine v_iconst (v := nI 0) (dk cd_Ce_sendPages 8 rfl) (by decide) ?_
      refine v_istore_n (dk cd_Ce_sendPages 9 rfl) (by decide) rfl ?_
      omega
  | succ s ih =>
    intro A ⟨hs, I, hA⟩
    refine v_iload_n (dk cd_Ce_sendPages 5 rfl) rfl ?_
    refine v_iconst (v := nI 1) (dk cd_Ce_sendPages 6 rfl) (by decide) ?_
    refine v_icmp_ltN (tgt := 58) (dk cd_Ce_sendPages 7 rfl) rfl (by omega) (by omega) (fun q9 => ?_) (fun q9 => ?_)
    · omega
    · refine v_iconst (v := nI 0) (dk cd_Ce_sendPages 8 rfl) (by decide) ?_
      refine v_istore_n (dk cd_Ce_sendPages 9 rfl) (by decide) rfl ?_
      refine Ce_sendPages_in hi h40 WV hb h12 (s := s + 1) ⟨by omega, hs⟩ (fun A1 ⟨I1, hA1⟩ => ?_) 0 A ⟨by omega, by simpa [sPg] using I, hA⟩
      refine v_iincM (dk cd_Ce_sendPages 30 rfl) rfl (by decide) rfl ?_
      refine v_goto (tgt := 7) (dk cd_Ce_sendPages 31 rfl) rfl ?_
      refine ih A1 ⟨by omega, ?_, hA1⟩
      rw [show 5 - s = 5 - (s + 1) + 1 by omega]
      simp only [pSev]
      rw [show 5 - (5 - (s + 1)) = s + 1 by omega]
      exact I1
set_option maxRecDepth 100000 in
set_option maxHeartbeats 4000000 in
theorem Ce_sendPages_ok {i : Nat} {c : CeS} {clk : Int32} (h40 : (sVers S).length ≤ 40) (WV : WfV S) (hb : ∀ v ∈ c.2.2.1, v < (sVers S).length) (h12 : c.2.2.1.length ≤ 12) (I : Inv F S ad A) (hc : (sCells S)[i]? = some c) : V (gg u) (d + 3) mm_Ce_sendPages 0 [some (.ref (ad 14 i)), some (.int clk), none, none] [] A (Ps none F (setCe S i (cPg c (pSev S clk c.2.2.1 5))) ad A) := by
  have hi := (List.getElem?_eq_some_iff.mp hc).1
  have h14 := I.cob hc
  refine v_aload_n (dk cd_Ce_sendPages 0 rfl) rfl ?_
  refine v_iconst (v := nI 0) (dk cd_Ce_sendPages 1 rfl) (by decide) ?_
  refine v_putf (dk cd_Ce_sendPages 2 rfl) fp_Ce_50_Ce (fun h => by cases h) (by assumption) rfl rfl ?_
  refine v_iconst (v := nI 5) (dk cd_Ce_sendPages 3 rfl) (by decide) ?_
  refine v_istore_n (dk cd_Ce_sendPages 4 rfl) (by decide) rfl ?_
  exact Ce_sendPages_lp hi h40 WV hb h12 5 _ ⟨by omega, I.zeroPg hc rfl, rfl⟩
end PA
end
section
/-! a handset hears pages -/
def pBits (l n : Int32) : Int32 := (((1 : Int32) <<< (n &&& 31)) - 1) <<< ((l * 3) &&& 31)
def chs (k : List Int32) (t : Tx) : Nat := match k.find? (fun l => decide (0 < tl t l.toNatClampNeg)) with
  | some l => l.toNatClampNeg
  | none => if 0 < tl t 0 then 0 else if 0 < tl t 1 then 1 else 2
theorem chs_lt {k : List Int32} {t : Tx} (h : ∀ l ∈ k, ∃ n, n < 3 ∧ l = nI n) : chs k t < 3 := by
  unfold chs
  split
  · rename_i l hl
    obtain ⟨n, hn, e⟩ := h l (List.mem_of_find?_eq_some hl)
    rw [e, nI_clamp (by omega)]
    exact hn
  · split
    · omega
    · split <;> omega
def hAl (h : HaS) (x : Int32) : HaS := ((h.1.1, h.1.2.1, h.1.2.2.1, x), h.2)
def hSh (h : HaS) (l : List (Nat × Int32 × Int32)) : HaS := (h.1, h.2.1, h.2.2.1, l)
def hHd (h : HaS) (l : List (Option Nat)) : HaS := (h.1, h.2.1, (l, h.2.2.1.2), h.2.2.2)
def hHl (h : HaS) (l : List Int32) : HaS := (h.1, h.2.1, (h.2.2.1.1, l, h.2.2.1.2.2), h.2.2.2)
def hWs (h : HaS) (l : List Bool) : HaS := (h.1, h.2.1, (h.2.2.1.1, h.2.2.1.2.1, l), h.2.2.2)
section HE
variable {u : Ux} {d : Nat} {A : AH} {F : Nat → Option AC} {S : SS} {ad : Nat → Nat → Nat}
theorem getHs {S : SS} {i : Nat} {c : HaS} (hi : i < (sHs S).length) : (sHs (setHs S i c))[i]? = some c := List.getElem?_set_self hi
theorem setHs2 (S : SS) (i : Nat) (c c' : HaS) : setHs (setHs S i c) i c' = setHs S i c' := by simp [setHs, sHs]
theorem setHs_id {S : SS} {i : Nat} {c : HaS} (hc : (sHs S)[i]? = some c) : setHs S i c = S := by
  have hi := (List.getElem?_eq_some_iff.mp hc)
  unfold setHs
  rw [← hi.2, List.set_getElem_self]
/-- one row of a handset changes -/
theorem Inv.updH1 {i κ0 : Nat} {h h' : HaS} {x : AC} (I : Inv F S ad A) (hh : (sHs S)[i]? = some h) (h1 : 23 ≤ κ0) (h2 : κ0 ≤ 30) (hx : CHs h' ad i κ0 x) (hs : ∀ κ y, 23 ≤ κ → κ ≤ 30 → κ ≠ κ0 → CHs h ad i κ y → CHs h' ad i κ y) : Inv F (setHs S i h') ad (aset A (ad κ0 i) x) := by
  have hi := (List.getElem?_eq_some_iff.mp hh).1
  refine I.updHs hi rfl (fun q hq => aset_ne _ _ (hq κ0 h1 h2)) (fun κ h3 h4 => ?_)
  by_cases k : κ = κ0
  · subst k
    exact ⟨x, aset_same _ _ _, hx⟩
  · obtain ⟨y, h5, h6⟩ := I.hs h3 h4 hh
    exact ⟨y, (aset_ne _ _ (I.ne (LV_hs h3 h4 hi) (LV_hs h1 h2 hi) (Or.inl k))).trans h5, hs κ y h3 h4 k h6⟩
theorem k23 {κ : Nat} (h1 : 23 ≤ κ) (h2 : κ ≤ 30) : κ = 23 ∨ κ = 24 ∨ κ = 25 ∨ κ = 26 ∨ κ = 27 ∨ κ = 28 ∨ κ = 29 ∨ κ = 30 := by omega
set_option maxRecDepth 100000 in
set_option maxHeartbeats 4000000 in
theorem Ha_pageBits_ok {l n : Int32} : V (gg u) d mm_Ha_pageBits 0 [some (.int l), some (.int n)] [] A (Rt (some (.int (pBits l n))) A) := by
  refine v_iconst (v := 1) (dk cd_Ha_pageBits 0 rfl) (by decide) ?_
  refine v_iload_n (dk cd_Ha_pageBits 1 rfl) rfl ?_
  refine v_ishl (dk cd_Ha_pageBits 2 rfl) ?_
  refine v_iconst (v := 1) (dk cd_Ha_pageBits 3 rfl) (by decide) ?_
  refine v_isub (dk cd_Ha_pageBits 4 rfl) ?_
  refine v_iload_n (dk cd_Ha_pageBits 5 rfl) rfl ?_
  refine v_iconst (v := 3) (dk cd_Ha_pageBits 6 rfl) (by decide) ?_
  refine v_imul (dk cd_Ha_pageBits 7 rfl) ?_
  refine v_ishl (dk cd_Ha_pageBits 8 rfl) ?_
  exact v_iret (dk cd_Ha_pageBits 9 rfl) rfl rt_ret
set_option maxRecDepth 100000 in
set_option maxHeartbeats 4000000 in
theorem Ha_choose_l2 {i te : Nat} {h : HaS} {t : Tx} (I : Inv F S ad A) (hh : (sHs S)[i]? = some h) (HT : TeAt A te t) (hf : h.2.1.find? (fun l => decide (0 < tl t l.toNatClampNeg)) = none) : ∀ k, k ≤ 2 ∧ (∀ j, j < k → tl t j = 0) → V (gg u) (d + 1) mm_Ha_choose 38 [some (.ref (ad 23 i)), some (.ref te), some (.int (nI k))] [] A (Rt (some (.int (nI (chs h.2.1 t)))) A) := by
  refine up_ind 2 ?_
  intro k ih ⟨hk, hz⟩
  have HT0 := HT
  obtain ⟨h3, h30, ba, la, k1, k2⟩ := HT
  refine v_iload_n (dk cd_Ha_choose 22 rfl) rfl ?_
  refine v_iconst (v := nI 2) (dk cd_Ha_choose 23 rfl) (by decide) ?_
  refine v_icmp_geN (tgt := 57) (dk cd_Ha_choose 24 rfl) rfl (by omega) (by omega) (fun q40 => ?_) (fun q40 => ?_)
  · refine v_iload_n (dk cd_Ha_choose 31 rfl) rfl ?_
    exact v_iret (dk cd_Ha_choose 32 rfl) rfl (rt_of (by rw [show k = 2 by omega] at hz ⊢; simp [chs, hf, hz 0 (by omega), hz 1 (by omega)]))
  · refine v_aload_n (dk cd_Ha_choose 25 rfl) rfl ?_
    refine v_iload_n (dk cd_Ha_choose 26 rfl) rfl ?_
    refine v_rv (r := ("AreaWarnings$Texts", TT_Te, 2)) (dk cd_Ha_choose 27 rfl) cv_Ha_115 rfl (by assumption) (as := [_]) rfl rfl (Nat.le_of_ble_eq_true rfl) (by simp [Value.category]) (Te_offers_ok HT0 (by omega)) ?_
    refine v_ifneB (tgt := 57) (dk cd_Ha_choose 28 rfl) rfl (fun q48 => ?_) (fun q48 => ?_)
    · have hp := of_decide_eq_true q48
      have hke : chs h.2.1 t = k := by
        have hk2 : k = 0 ∨ k = 1 := by omega
        rcases hk2 with rfl | rfl
        · simp [chs, hf, hp]
        · simp [chs, hf, hz 0 (by omega), hp]
      refine v_iload_n (dk cd_Ha_choose 31 rfl) rfl ?_
      exact v_iret (dk cd_Ha_choose 32 rfl) rfl (rt_of (by rw [hke]))
    · refine v_iincN (dk cd_Ha_choose 29 rfl) rfl (by decide) rfl ?_
      refine v_goto (tgt := 38) (dk cd_Ha_choose 30 rfl) rfl ?_
      exact ih q40 ⟨by omega, fun j hj => (Nat.lt_succ_iff_lt_or_eq.mp hj).elim (hz j) (fun e => by rw [e]; have := of_decide_eq_false q48; omega)⟩
set_option maxRecDepth 100000 in
set_option maxHeartbeats 4000000 in
theorem Ha_choose_l1 {i te : Nat} {h : HaS} {t : Tx} (I : Inv F S ad A) (hh : (sHs S)[i]? = some h) (HT : TeAt A te t) (h3k : h.2.1.length ≤ 3) (hlk : ∀ l ∈ h.2.1, ∃ n, n < 3 ∧ l = nI n) : ∀ k, k ≤ h.2.1.length ∧ (h.2.1.drop k).find? (fun l => decide (0 < tl t l.toNatClampNeg)) = h.2.1.find? (fun l => decide (0 < tl t l.toNatClampNeg)) → V (gg u) (d + 1) mm_Ha_choose 2 [some (.ref (ad 23 i)), some (.ref te), some (.int (nI k))] [] A (Rt (some (.int (nI (chs h.2.1 t)))) A) := by
  refine up_ind h.2.1.length ?_
  intro k ih ⟨hk, hf⟩
  have h23 := I.hob hh
  obtain ⟨x24, h24, g24, e24, l24⟩ := I.hs (κ := 24) (by omega) (by omega) hh
  subst e24
  have HT0 := HT
  obtain ⟨h3, h30, ba, la, k1, k2⟩ := HT
  refine v_iload_n (dk cd_Ha_choose 2 rfl) rfl ?_
  refine v_aload_n (dk cd_Ha_choose 3 rfl) rfl ?_
  refine v_getf (dk cd_Ha_choose 4 rfl) fg_Ha_19_Ha (by assumption) (by rfl) ?_
  refine v_icmp_geN (tgt := 36) (dk cd_Ha_choose 5 rfl) rfl (by omega) (by omega) (fun q7 => ?_) (fun q7 => ?_)
  · refine v_iconst (v := nI 0) (dk cd_Ha_choose 20 rfl) (by decide) ?_
    refine v_istore_n (dk cd_Ha_choose 21 rfl) (by decide) rfl ?_
    exact Ha_choose_l2 I hh HT0 (by rw [← hf, List.drop_eq_nil_of_le (by omega)]; rfl) 0 ⟨by omega, fun j hj => absurd hj (Nat.not_lt_zero j)⟩
  · have hdr : h.2.1.drop k = h.2.1[k] :: h.2.1.drop (k + 1) := List.drop_eq_getElem_cons q7
    obtain ⟨m, hm, he⟩ := hlk _ (List.getElem_mem q7)
    have hmc : (h.2.1[k]).toNatClampNeg = m := by rw [he]; exact nI_clamp (by omega)
    refine v_aload_n (dk cd_Ha_choose 6 rfl) rfl ?_
    refine v_aload_n (dk cd_Ha_choose 7 rfl) rfl ?_
    refine v_getf (dk cd_Ha_choose 8 rfl) fg_Ha_15_Ha (by assumption) (by rfl) ?_
    refine v_iload_n (dk cd_Ha_choose 9 rfl) rfl ?_
    refine v_ialdN (j := 0) (dk cd_Ha_choose 10 rfl) (by assumption) (by decide) rfl (by omega) (map_app q7) ?_
    rw [he]
    refine v_rv (r := ("AreaWarnings$Texts", TT_Te, 2)) (dk cd_Ha_choose 11 rfl) cv_Ha_115 rfl (by assumption) (as := [_]) rfl rfl (Nat.le_of_ble_eq_true rfl) (by simp [Value.category]) (Te_offers_ok HT0 hm) ?_
    refine v_ifeqB (tgt := 30) (dk cd_Ha_choose 12 rfl) rfl (fun q20 => ?_) (fun q20 => ?_)
    · refine v_iincN (dk cd_Ha_choose 18 rfl) rfl (by decide) rfl ?_
      refine v_goto (tgt := 2) (dk cd_Ha_choose 19 rfl) rfl ?_
      exact ih q7 ⟨by omega, by rw [← hf, hdr, List.find?_cons_of_neg (by rw [hmc]; have := of_decide_eq_false q20; simpa using this)]⟩
    · refine v_aload_n (dk cd_Ha_choose 13 rfl) rfl ?_
      refine v_getf (dk cd_Ha_choose 14 rfl) fg_Ha_15_Ha (by assumption) (by rfl) ?_
      refine v_iload_n (dk cd_Ha_choose 15 rfl) rfl ?_
      refine v_ialdN (j := 0) (dk cd_Ha_choose 16 rfl) (by assumption) (by decide) rfl (by omega) (map_app q7) ?_
      exact v_iret (dk cd_Ha_choose 17 rfl) rfl (rt_of (by have hc9 : chs h.2.1 t = m := (by unfold chs; rw [← hf, hdr, List.find?_cons_of_pos (by rw [hmc]; simpa using of_decide_eq_true q20)]; exact hmc); rw [hc9, he]))
set_option maxRecDepth 100000 in
set_option maxHeartbeats 4000000 in
theorem Ha_choose_ok {i te : Nat} {h : HaS} {t : Tx} (I : Inv F S ad A) (hh : (sHs S)[i]? = some h) (HT : TeAt A te t) (h3k : h.2.1.length ≤ 3) (hlk : ∀ l ∈ h.2.1, ∃ n, n < 3 ∧ l = nI n) : V (gg u) (d + 1) mm_Ha_choose 0 [some (.ref (ad 23 i)), some (.ref te), none] [] A (Rt (some (.int (nI (chs h.2.1 t)))) A) := by
  refine v_iconst (v := nI 0) (dk cd_Ha_choose 0 rfl) (by decide) ?_
  refine v_istore_n (dk cd_Ha_choose 1 rfl) (by decide) rfl ?_
  exact Ha_choose_l1 I hh HT h3k hlk 0 ⟨by omega, by rw [List.drop_zero]⟩
end HE
end
section
/-! a handset hears and shows: the pure part -/
def vNum (S : SS) (v : Nat) : Int32 := (vAt S v).2.1.1
def hAlm (S : SS) (h : HaS) (v : Nat) : HaS := if vSev S v < h.1.1 then h else hAl h (h.1.2.2.2 + 1)
def hNeed (h : HaS) (s : SpS) : Int32 := pBits (nI (chs h.2.1 s.2.1.2)) (nI (pgs (tl s.2.1.2 (chs h.2.1 s.2.1.2))))
def hPut (h : HaS) (v w : Nat) (s : SpS) (clk : Int32) : HaS := hSh (hWs h (h.2.2.1.2.2.set w true)) (h.2.2.2 ++ [(v, nI (chs h.2.1 s.2.1.2), clk)])
def shw (S : SS) (h : HaS) (v w : Nat) (s : SpS) (clk : Int32) : HaS := if h.2.2.1.2.1.getD w 0 &&& hNeed h s = hNeed h s then hAlm S (hPut h v w s clk) v else h
def hRes (h : HaS) (v w : Nat) : HaS := hWs (hHl (hHd h (h.2.2.1.1.set w (some v))) (h.2.2.1.2.1.set w 0)) (h.2.2.1.2.2.set w false)
def hAdd (h : HaS) (w : Nat) (l n : Int32) : HaS := hHl h (h.2.2.1.2.1.set w (h.2.2.1.2.1.getD w 0 ||| pBits l 1 <<< (n &&& 31)))
def hr2 (S : SS) (h : HaS) (v : Nat) (l n clk : Int32) : HaS := match (vAt S v).2.2 with
  | none => h
  | some s => if h.2.2.1.2.2.getD (vAt S v).1 false = true then hAdd h (vAt S v).1 l n else shw S (hAdd h (vAt S v).1 l n) v (vAt S v).1 s clk
def hSkip (S : SS) (h : HaS) (v : Nat) : Bool := match h.2.2.1.1.getD (vAt S v).1 none with
  | none => false
  | some v' => !decide (vNum S v' ≤ vNum S v)
def hr1 (S : SS) (h : HaS) (v : Nat) : HaS := if h.2.2.1.1.getD (vAt S v).1 none = some v then h else hRes h v (vAt S v).1
def hearS (S : SS) (h : HaS) (v : Nat) (l n clk : Int32) : HaS := if hSkip S h v = true then h else hr2 S (hr1 S h v) v l n clk
def hMs (h : HaS) (x : Int32) : HaS := ((h.1.1, h.1.2.1, x, h.1.2.2.2), h.2)
def lisS (S : SS) (clk : Int32) (h : HaS) (p : Nat × Int32 × Int32) : HaS := if h.1.2.2.1 ≤ 0 then hearS S h p.1 p.2.1 p.2.2 clk else hMs h (h.1.2.2.1 - 1)
/-- what holds of one handset -/
def HO1 (S : SS) (h : HaS) : Prop := h.2.1.length ≤ 3 ∧ (∀ l ∈ h.2.1, ∃ n, n < 3 ∧ l = nI n) ∧ h.2.2.1.1.length = 12 ∧ h.2.2.1.2.1.length = 12 ∧ h.2.2.1.2.2.length = 12 ∧ (∀ v, some v ∈ h.2.2.1.1 → v < (sVers S).length) ∧ h.2.2.2.length ≤ 40 ∧
  ∀ p ∈ h.2.2.2, p.1 < (sVers S).length ∧ (vAt S p.1).2.2.isSome = true ∧ ∃ l, l < 3 ∧ p.2.1 = nI l
def HO2 (S : SS) (h : HaS) : Prop := (h.2.2.2.map (·.1)).Nodup ∧ (∀ w v, h.2.2.1.1.getD w none = some v → (vAt S v).1 = w) ∧
  ∀ p ∈ h.2.2.2, ∃ v', h.2.2.1.1.getD (vAt S p.1).1 none = some v' ∧ (vNum S p.1 < vNum S v' ∨ (p.1 = v' ∧ h.2.2.1.2.2.getD (vAt S p.1).1 false = true))
def HOK (S : SS) (h : HaS) : Prop := HO1 S h ∧ HO2 S h
def NumOK (S : SS) : Prop := ∀ i j, i < (sVers S).length → j < (sVers S).length → (vAt S i).1 = (vAt S j).1 → vNum S i = vNum S j → i = j
theorem nodup_len : ∀ (n : Nat) (l : List Nat), l.Nodup → (∀ x ∈ l, x < n) → l.length ≤ n := by
  intro n
  induction n with
  | zero =>
    intro l _ h
    cases l with
    | nil => simp
    | cons a r => exact absurd (h a List.mem_cons_self) (Nat.not_lt_zero a)
  | succ n ih =>
    intro l hn h
    have h1 := ih (l.erase n) (hn.erase n) (fun x hx => by
      have h2 := h x (List.mem_of_mem_erase hx)
      have h3 : x ≠ n := fun e => by rw [e] at hx; exact hn.not_mem_erase hx
      omega)
    by_cases hm : n ∈ l
    · rw [List.length_erase_of_mem hm] at h1; omega
    · rw [List.erase_of_not_mem hm] at h1; omega
theorem i32_lt_of {a b : Int32} (h : a ≤ b) (hne : ¬ a = b) : a < b := by
  rw [Int32.lt_iff_toInt_lt]
  rw [Int32.le_iff_toInt_le] at h
  have : a.toInt ≠ b.toInt := fun e => hne (Int32.toInt_inj.mp e)
  omega
theorem i32_lt_tr {a b c : Int32} (h : a < b) (h2 : b < c) : a < c := by
  rw [Int32.lt_iff_toInt_lt] at *
  omega
theorem i32_irr {a : Int32} (h : a < a) : False := by
  rw [Int32.lt_iff_toInt_lt] at h
  omega
theorem getD_set_self {α : Type} {l : List α} {k : Nat} {x d : α} (h : k < l.length) : (l.set k x).getD k d = x := by simp [h]
theorem getD_set_ne {α : Type} {l : List α} {k j : Nat} {x d : α} (h : j ≠ k) : (l.set k x).getD j d = l.getD j d := by
  simp only [List.getD_eq_getElem?_getD]
  rw [List.getElem?_set_ne (fun e => h e.symm)]
theorem getD_mem {l : List (Option Nat)} {k v : Nat} (h : l.getD k none = some v) : some v ∈ l := by
  rw [List.getD_eq_getElem?_getD] at h
  cases hk : l[k]? with
  | none => rw [hk] at h; cases h
  | some y => rw [hk] at h; simp at h; subst h; exact List.mem_of_getElem? hk
theorem HOK.held {S : SS} {h : HaS} (H : HOK S h) {l : List Int32} (hl : l.length = 12) : HOK S (hHl h l) := by
  obtain ⟨⟨a1, a2, a3, a4, a5, a6, a7, a8⟩, b⟩ := H
  exact ⟨⟨a1, a2, a3, hl, a5, a6, a7, a8⟩, b⟩
theorem HOK.alm {S : SS} {h : HaS} (H : HOK S h) (x : Int32) : HOK S (hAl h x) := H
theorem HOK.mis {S : SS} {h : HaS} (H : HOK S h) (x : Int32) : HOK S (hMs h x) := H
theorem HOK.room {S : SS} {h : HaS} {v : Nat} (H : HOK S h) (h40 : (sVers S).length ≤ 40) (hv : v < (sVers S).length) (h1 : h.2.2.1.1.getD (vAt S v).1 none = some v) (h2 : h.2.2.1.2.2.getD (vAt S v).1 false = false) : (∀ q ∈ h.2.2.2, q.1 ≠ v) ∧ h.2.2.2.length < 40 := by
  obtain ⟨⟨a1, a2, a3, a4, a5, a6, a7, a8⟩, b1, b2, b3⟩ := H
  have hn : ∀ q ∈ h.2.2.2, q.1 ≠ v := by
    intro q hq e
    obtain ⟨v', c1, c2⟩ := b3 q hq
    rw [e] at c1 c2
    rw [h1] at c1
    cases c1
    rcases c2 with c2 | c2
    · exact i32_irr c2
    · rw [h2] at c2; cases c2.2
  refine ⟨hn, ?_⟩
  have h9 := nodup_len (sVers S).length (v :: h.2.2.2.map (·.1)) (List.nodup_cons.mpr ⟨fun hm => by
    obtain ⟨q, hq, e⟩ := List.mem_map.mp hm
    exact hn q hq e, b1⟩) (fun x hx => by
    rcases List.mem_cons.mp hx with rfl | hx
    · exact hv
    · obtain ⟨q, hq, rfl⟩ := List.mem_map.mp hx
      exact (a8 q hq).1)
  simp only [List.length_cons, List.length_map] at h9
  omega
theorem HOK.put {S : SS} {h : HaS} {v : Nat} {s : SpS} {clk : Int32} (H : HOK S h) (h40 : (sVers S).length ≤ 40) (hv : v < (sVers S).length) (hw : (vAt S v).1 < 12) (hs : (vAt S v).2.2.isSome = true) (h1 : h.2.2.1.1.getD (vAt S v).1 none = some v) (h2 : h.2.2.1.2.2.getD (vAt S v).1 false = false) : HOK S (hPut h v (vAt S v).1 s clk) := by
  obtain ⟨hn, hr⟩ := H.room h40 hv h1 h2
  obtain ⟨⟨a1, a2, a3, a4, a5, a6, a7, a8⟩, b1, b2, b3⟩ := H
  refine ⟨⟨a1, a2, a3, a4, by simpa [hPut, hSh, hWs] using a5, a6, by simp [hPut, hSh]; omega, ?_⟩, ?_, b2, ?_⟩
  · intro q hq
    rcases List.mem_append.mp hq with hq | hq
    · exact a8 q hq
    · rw [List.mem_singleton.mp hq]
      exact ⟨hv, hs, _, chs_lt a2, rfl⟩
  · show (((h.2.2.2 ++ [(v, nI (chs h.2.1 s.2.1.2), clk)])).map (·.1)).Nodup
    rw [List.map_append, List.nodup_append]
    refine ⟨b1, by simp, fun x hx y hy => ?_⟩
    obtain ⟨q, hq, rfl⟩ := List.mem_map.mp hx
    simp at hy
    subst hy
    exact hn q hq
  · intro q hq
    show ∃ v', h.2.2.1.1.getD (vAt S q.1).1 none = some v' ∧ (_ ∨ (_ ∧ (h.2.2.1.2.2.set (vAt S v).1 true).getD (vAt S q.1).1 false = true))
    rcases List.mem_append.mp hq with hq | hq
    · obtain ⟨v', c1, c2⟩ := b3 q hq
      refine ⟨v', c1, c2.imp id fun ⟨c3, c4⟩ => ⟨c3, ?_⟩⟩
      by_cases hwq : (vAt S q.1).1 = (vAt S v).1
      · rw [hwq, getD_set_self (by omega)]
      · rw [getD_set_ne hwq, c4]
    · rw [List.mem_singleton.mp hq]
      exact ⟨v, h1, Or.inr ⟨rfl, getD_set_self (by omega)⟩⟩
theorem HOK.res {S : SS} {h : HaS} {v : Nat} (H : HOK S h) (N : NumOK S) (hv : v < (sVers S).length) (hw : (vAt S v).1 < 12) (hsk : hSkip S h v = false) (h1 : ¬ h.2.2.1.1.getD (vAt S v).1 none = some v) : HOK S (hRes h v (vAt S v).1) := by
  obtain ⟨⟨a1, a2, a3, a4, a5, a6, a7, a8⟩, b1, b2, b3⟩ := H
  refine ⟨⟨a1, a2, by simpa [hRes, hWs, hHl, hHd] using a3, by simpa [hRes, hWs, hHl, hHd] using a4, by simpa [hRes, hWs, hHl, hHd] using a5, ?_, a7, a8⟩, b1, ?_, ?_⟩
  · intro x hx
    rcases List.mem_or_eq_of_mem_set hx with hx | hx
    · exact a6 x hx
    · cases hx; exact hv
  · intro w x hx
    have hx : (h.2.2.1.1.set (vAt S v).1 (some v)).getD w none = some x := hx
    by_cases e : w = (vAt S v).1
    · subst e
      rw [getD_set_self (by omega)] at hx
      cases hx; rfl
    · rw [getD_set_ne e] at hx
      exact b2 w x hx
  · intro q hq
    show ∃ v', (h.2.2.1.1.set (vAt S v).1 (some v)).getD (vAt S q.1).1 none = some v' ∧ (_ ∨ (_ ∧ (h.2.2.1.2.2.set (vAt S v).1 false).getD (vAt S q.1).1 false = true))
    obtain ⟨v', c1, c2⟩ := b3 q hq
    by_cases e : (vAt S q.1).1 = (vAt S v).1
    · rw [e] at c1 c2
      rw [e, getD_set_self (by omega)]
      refine ⟨v, rfl, Or.inl ?_⟩
      have hle : vNum S v' ≤ vNum S v := by
        unfold hSkip at hsk
        rw [c1] at hsk
        simpa using hsk
      have hlt : vNum S v' < vNum S v := i32_lt_of hle (fun e2 => h1 (by
        rw [c1, N v' v (a6 v' (getD_mem c1)) hv (b2 _ _ c1) e2]))
      rcases c2 with c2 | c2
      · exact i32_lt_tr c2 hlt
      · rw [c2.1]; exact hlt
    · rw [getD_set_ne e, getD_set_ne e]
      exact ⟨v', c1, c2⟩
theorem hr1_heard {S : SS} {h : HaS} {v : Nat} (hl : h.2.2.1.1.length = 12) (hw : (vAt S v).1 < 12) : (hr1 S h v).2.2.1.1.getD (vAt S v).1 none = some v := by
  unfold hr1
  split
  · assumption
  · exact getD_set_self (by omega)
theorem HOK.hone {S : SS} {h : HaS} {v : Nat} (H : HOK S h) (N : NumOK S) (hv : v < (sVers S).length) (hw : (vAt S v).1 < 12) (hsk : hSkip S h v = false) : HOK S (hr1 S h v) := by
  unfold hr1
  split
  · exact H
  · exact H.res N hv hw hsk (by assumption)
theorem HOK.hear {S : SS} {h : HaS} {v : Nat} {l n clk : Int32} (H : HOK S h) (N : NumOK S) (h40 : (sVers S).length ≤ 40) (hv : v < (sVers S).length) (hw : (vAt S v).1 < 12) : HOK S (hearS S h v l n clk) := by
  unfold hearS
  cases hsk : hSkip S h v with
  | true => exact H
  | false =>
    simp only [Bool.false_eq_true, if_false]
    have H1 := H.hone N hv hw hsk
    have hh := hr1_heard (S := S) (v := v) H.1.2.2.1 hw
    unfold hr2
    cases hs : (vAt S v).2.2 with
    | none => exact H1
    | some s =>
      simp only
      have H2 : HOK S (hAdd (hr1 S h v) (vAt S v).1 l n) := H1.held (by simpa using H1.1.2.2.2.1)
      split
      · exact H2
      · rename_i hws
        unfold shw
        split
        · unfold hAlm
          have H3 := H2.put (s := s) (clk := clk) h40 hv hw (by rw [hs]; rfl) hh (by simpa [hAdd, hHl] using hws)
          split
          · exact H3
          · exact H3.alm _
        · exact H2
theorem HOK.lis {S : SS} {h : HaS} {q : Nat × Int32 × Int32} {clk : Int32} (H : HOK S h) (N : NumOK S) (h40 : (sVers S).length ≤ 40) (hv : q.1 < (sVers S).length) (hw : (vAt S q.1).1 < 12) : HOK S (lisS S clk h q) := by
  unfold lisS
  split
  · exact H.hear N h40 hv hw
  · exact H.mis _
end
section
/-! a handset hears and shows -/
theorem map_getD {α : Type} {l : List α} {f : α → Value} {k : Nat} {e : α} (h : k < l.length) : (l.map f)[k]? = some (f (l.getD k e)) := by
  rw [List.getElem?_map, List.getD_eq_getElem?_getD, List.getElem?_eq_getElem h]
  rfl
theorem ArG.set {k n : Nat} {l gb : List Value} {v : Value} (h : l.length + gb.length = n) : ArG k n l (k, (l ++ gb).set l.length v) := by
  refine ⟨gb.set 0 v, ?_, by simpa using h⟩
  rw [List.set_append_right _ _ (Nat.le_refl _), Nat.sub_self]
section H3
variable {u : Ux} {d : Nat} {A : AH} {F : Nat → Option AC} {S : SS} {ad : Nat → Nat → Nat}
theorem Inv.hne (I : Inv F S ad A) {i : Nat} (hi : i < (sHs S).length) (a b : Nat) (h1 : 23 ≤ a) (h2 : a ≤ 30) (h3 : 23 ≤ b) (h4 : b ≤ 30) (h : a ≠ b) : ad a i ≠ ad b i := I.ne (LV_hs h1 h2 hi) (LV_hs h3 h4 hi) (Or.inl h)
set_option maxRecDepth 100000 in
set_option maxHeartbeats 4000000 in
theorem Ha_showIfWhole_ok {i v : Nat} {h : HaS} {ve : VeS} {s : SpS} {clk : Int32} (I : Inv F S ad A) (Wf : Wf S) (WV : WfV S) (W : HOK S h) (hh : (sHs S)[i]? = some h) (hve : (sVers S)[v]? = some ve) (hs : ve.2.2 = some s) (hsl : h.2.2.2.length < 40) : V (gg u) (d + 2) mm_Ha_showIfWhole 0 [some (.ref (ad 23 i)), some (.ref (ad 21 v)), some (.int clk), none, none, none] [] A (Ps none F (setHs S i (shw S h v ve.1 s clk)) ad A) := by
  have hi := (List.getElem?_eq_some_iff.mp hh).1
  have h23 := I.hob hh
  have hv := I.verS hve hs
  have hva := vAt_of hve
  have hsv : vSev S v = ve.2.1.2.1 := by unfold vSev; rw [hva]
  have hw9 := Wf.2.2.2.2.2.2.2 _ _ hve
  have h12 := Wf.2.1
  have hwr := I.warn (List.getElem?_eq_getElem hw9)
  obtain ⟨-, w3, w30, -, w0⟩ := WV _ _ _ hve hs
  have HT := I.teAt (msg_ver Wf.2.2.2.1 hve hs) w3 w30
  have HT0 := HT
  obtain ⟨-, -, ba, la, k8, k13⟩ := HT
  have e26 := W.1.2.2.2.1
  have e27 := W.1.2.2.2.2.1
  obtain ⟨x26, h26, q26⟩ := I.hs (κ := 26) (by omega) (by omega) hh
  obtain ⟨x27, h27, q27⟩ := I.hs (κ := 27) (by omega) (by omega) hh
  have q26 : x26 = _ := q26
  have q27 : x27 = _ := q27
  obtain ⟨x28, h28, g28, q28, l28⟩ := I.hs (κ := 28) (by omega) (by omega) hh
  obtain ⟨x29, h29, g29, q29, l29⟩ := I.hs (κ := 29) (by omega) (by omega) hh
  obtain ⟨x30, h30, g30, q30, l30⟩ := I.hs (κ := 30) (by omega) (by omega) hh
  subst q26 q27 q28 q29 q30
  simp only [List.length_map] at l28 l29 l30
  have n23_27 := I.hne hi 23 27 (by omega) (by omega) (by omega) (by omega) (by omega)
  have n23_28 := I.hne hi 23 28 (by omega) (by omega) (by omega) (by omega) (by omega)
  have n23_29 := I.hne hi 23 29 (by omega) (by omega) (by omega) (by omega) (by omega)
  have n23_30 := I.hne hi 23 30 (by omega) (by omega) (by omega) (by omega) (by omega)
  have n27_28 := I.hne hi 27 28 (by omega) (by omega) (by omega) (by omega) (by omega)
  have n27_29 := I.hne hi 27 29 (by omega) (by omega) (by omega) (by omega) (by omega)
  have n27_30 := I.hne hi 27 30 (by omega) (by omega) (by omega) (by omega) (by omega)
  have n28_29 := I.hne hi 28 29 (by omega) (by omega) (by omega) (by omega) (by omega)
  have n28_30 := I.hne hi 28 30 (by omega) (by omega) (by omega) (by omega) (by omega)
  have n29_30 := I.hne hi 29 30 (by omega) (by omega) (by omega) (by omega) (by omega)
  have m23 := I.ne (LV_ver (List.getElem?_eq_some_iff.mp hve).1) (LV_hs (κ := 23) (by omega) (by omega) hi) (Or.inl (by omega))
  have m27 := I.ne (LV_ver (List.getElem?_eq_some_iff.mp hve).1) (LV_hs (κ := 27) (by omega) (by omega) hi) (Or.inl (by omega))
  have m28 := I.ne (LV_ver (List.getElem?_eq_some_iff.mp hve).1) (LV_hs (κ := 28) (by omega) (by omega) hi) (Or.inl (by omega))
  have m29 := I.ne (LV_ver (List.getElem?_eq_some_iff.mp hve).1) (LV_hs (κ := 29) (by omega) (by omega) hi) (Or.inl (by omega))
  have m30 := I.ne (LV_ver (List.getElem?_eq_some_iff.mp hve).1) (LV_hs (κ := 30) (by omega) (by omega) hi) (Or.inl (by omega))
  refine v_aload_n (dk cd_Ha_showIfWhole 0 rfl) rfl ?_
  refine v_getf (dk cd_Ha_showIfWhole 1 rfl) fg_Ha_97_Sp (by repeat first | assumption | exact aset_same _ _ _ | refine (aset_ne _ _ (by first | assumption | exact Ne.symm (by assumption))).trans ?_) (by rfl) ?_
  refine v_getf (dk cd_Ha_showIfWhole 2 rfl) fg_Ha_81_Wa (by repeat first | assumption | exact aset_same _ _ _ | refine (aset_ne _ _ (by first | assumption | exact Ne.symm (by assumption))).trans ?_) (by rfl) ?_
  refine v_istore_n (dk cd_Ha_showIfWhole 3 rfl) (by decide) rfl ?_
  refine v_aload_n (dk cd_Ha_showIfWhole 4 rfl) rfl ?_
  refine v_aload_n (dk cd_Ha_showIfWhole 5 rfl) rfl ?_
  refine v_getf (dk cd_Ha_showIfWhole 6 rfl) fg_Ha_98_Sp (by repeat first | assumption | exact aset_same _ _ _ | refine (aset_ne _ _ (by first | assumption | exact Ne.symm (by assumption))).trans ?_) (by rfl) ?_
  refine v_rv (r := ("AreaWarnings$Handset", TT_Ha, 13)) (dk cd_Ha_showIfWhole 7 rfl) cv_Ha_102 rfl (by repeat first | assumption | exact aset_same _ _ _ | refine (aset_ne _ _ (by first | assumption | exact Ne.symm (by assumption))).trans ?_) (as := [_]) rfl rfl (Nat.le_of_ble_eq_true rfl) (by simp [Value.category]) (Ha_choose_ok I hh HT0 W.1.1 W.1.2.1) ?_
  refine v_istore (dk cd_Ha_showIfWhole 8 rfl) (by decide) rfl ?_
  refine v_iload (dk cd_Ha_showIfWhole 9 rfl) rfl ?_
  refine v_aload_n (dk cd_Ha_showIfWhole 10 rfl) rfl ?_
  refine v_getf (dk cd_Ha_showIfWhole 11 rfl) fg_Ha_98_Sp (by repeat first | assumption | exact aset_same _ _ _ | refine (aset_ne _ _ (by first | assumption | exact Ne.symm (by assumption))).trans ?_) (by rfl) ?_
  refine v_iload (dk cd_Ha_showIfWhole 12 rfl) rfl ?_
  refine v_rv (r := ("AreaWarnings$Texts", TT_Te, 2)) (dk cd_Ha_showIfWhole 13 rfl) cv_Ha_106 rfl (by repeat first | assumption | exact aset_same _ _ _ | refine (aset_ne _ _ (by first | assumption | exact Ne.symm (by assumption))).trans ?_) (as := [_]) rfl rfl (Nat.le_of_ble_eq_true rfl) (by simp [Value.category]) (Te_pagesOf_ok HT0 (chs_lt W.1.2.1)) ?_
  refine v_rs (dk cd_Ha_showIfWhole 14 rfl) cs_Ha_89 (as := [_, _]) rfl rfl (Nat.le_of_ble_eq_true rfl) (by simp [Value.category]) Ha_pageBits_ok ?_
  refine v_istore (dk cd_Ha_showIfWhole 15 rfl) (by decide) rfl ?_
  refine v_aload_n (dk cd_Ha_showIfWhole 16 rfl) rfl ?_
  refine v_getf (dk cd_Ha_showIfWhole 17 rfl) fg_Ha_37_Ha (by repeat first | assumption | exact aset_same _ _ _ | refine (aset_ne _ _ (by first | assumption | exact Ne.symm (by assumption))).trans ?_) (by rfl) ?_
  refine v_iload_n (dk cd_Ha_showIfWhole 18 rfl) rfl ?_
  refine v_ialdN (j := 0) (dk cd_Ha_showIfWhole 19 rfl) (by repeat first | assumption | exact aset_same _ _ _ | refine (aset_ne _ _ (by first | assumption | exact Ne.symm (by assumption))).trans ?_) (by decide) rfl (by omega) (map_getD (e := (0 : Int32)) (by omega)) ?_
  refine v_iload (dk cd_Ha_showIfWhole 20 rfl) rfl ?_
  refine v_iand (dk cd_Ha_showIfWhole 21 rfl) ?_
  refine v_iload (dk cd_Ha_showIfWhole 22 rfl) rfl ?_
  refine v_icmp_eq (tgt := 49) (dk cd_Ha_showIfWhole 23 rfl) rfl (fun q45 => ?_) (fun q45 => ?_)
  · have hsw : shw S h v ve.1 s clk = hAlm S (hPut h v ve.1 s clk) v := by exact if_pos q45
    refine v_aload_n (dk cd_Ha_showIfWhole 25 rfl) rfl ?_
    refine v_getf (dk cd_Ha_showIfWhole 26 rfl) fg_Ha_40_Ha (by repeat first | assumption | exact aset_same _ _ _ | refine (aset_ne _ _ (by first | assumption | exact Ne.symm (by assumption))).trans ?_) (by rfl) ?_
    refine v_iload_n (dk cd_Ha_showIfWhole 27 rfl) rfl ?_
    refine v_iconst (v := 1) (dk cd_Ha_showIfWhole 28 rfl) (by decide) ?_
    refine v_zastN (j := 1) (dk cd_Ha_showIfWhole 29 rfl) (by repeat first | assumption | exact aset_same _ _ _ | refine (aset_ne _ _ (by first | assumption | exact Ne.symm (by assumption))).trans ?_) (by decide) rfl (by omega) (by simp; omega) rfl ?_
    refine v_aload_n (dk cd_Ha_showIfWhole 30 rfl) rfl ?_
    refine v_getf (dk cd_Ha_showIfWhole 31 rfl) fg_Ha_46_Ha (by repeat first | assumption | exact aset_same _ _ _ | refine (aset_ne _ _ (by first | assumption | exact Ne.symm (by assumption))).trans ?_) (by rfl) ?_
    refine v_aload_n (dk cd_Ha_showIfWhole 32 rfl) rfl ?_
    refine v_getf (dk cd_Ha_showIfWhole 33 rfl) fg_Ha_56_Ha (by repeat first | assumption | exact aset_same _ _ _ | refine (aset_ne _ _ (by first | assumption | exact Ne.symm (by assumption))).trans ?_) (by rfl) ?_
    refine v_aload_n (dk cd_Ha_showIfWhole 34 rfl) rfl ?_
    refine v_aastN (dk cd_Ha_showIfWhole 35 rfl) as_8_Sp (by repeat first | assumption | exact aset_same _ _ _ | refine (aset_ne _ _ (by first | assumption | exact Ne.symm (by assumption))).trans ?_) (by repeat first | assumption | exact aset_same _ _ _ | refine (aset_ne _ _ (by first | assumption | exact Ne.symm (by assumption))).trans ?_) (by omega) (by rw [List.length_append, List.length_map]; omega) ?_
    refine v_aload_n (dk cd_Ha_showIfWhole 36 rfl) rfl ?_
    refine v_getf (dk cd_Ha_showIfWhole 37 rfl) fg_Ha_50_Ha (by repeat first | assumption | exact aset_same _ _ _ | refine (aset_ne _ _ (by first | assumption | exact Ne.symm (by assumption))).trans ?_) (by rfl) ?_
    refine v_aload_n (dk cd_Ha_showIfWhole 38 rfl) rfl ?_
    refine v_getf (dk cd_Ha_showIfWhole 39 rfl) fg_Ha_56_Ha (by repeat first | assumption | exact aset_same _ _ _ | refine (aset_ne _ _ (by first | assumption | exact Ne.symm (by assumption))).trans ?_) (by rfl) ?_
    refine v_iload (dk cd_Ha_showIfWhole 40 rfl) rfl ?_
    refine v_iastN (j := 0) (dk cd_Ha_showIfWhole 41 rfl) (by repeat first | assumption | exact aset_same _ _ _ | refine (aset_ne _ _ (by first | assumption | exact Ne.symm (by assumption))).trans ?_) (by decide) rfl (by omega) (by rw [List.length_append, List.length_map]; omega) ?_
    refine v_aload_n (dk cd_Ha_showIfWhole 42 rfl) rfl ?_
    refine v_getf (dk cd_Ha_showIfWhole 43 rfl) fg_Ha_53_Ha (by repeat first | assumption | exact aset_same _ _ _ | refine (aset_ne _ _ (by first | assumption | exact Ne.symm (by assumption))).trans ?_) (by rfl) ?_
    refine v_aload_n (dk cd_Ha_showIfWhole 44 rfl) rfl ?_
    refine v_getf (dk cd_Ha_showIfWhole 45 rfl) fg_Ha_56_Ha (by repeat first | assumption | exact aset_same _ _ _ | refine (aset_ne _ _ (by first | assumption | exact Ne.symm (by assumption))).trans ?_) (by rfl) ?_
    refine v_iload_n (dk cd_Ha_showIfWhole 46 rfl) rfl ?_
    refine v_iastN (j := 0) (dk cd_Ha_showIfWhole 47 rfl) (by repeat first | assumption | exact aset_same _ _ _ | refine (aset_ne _ _ (by first | assumption | exact Ne.symm (by assumption))).trans ?_) (by decide) rfl (by omega) (by rw [List.length_append, List.length_map]; omega) ?_
    refine v_aload_n (dk cd_Ha_showIfWhole 48 rfl) rfl ?_
    refine v_dup (dk cd_Ha_showIfWhole 49 rfl) rfl ?_
    refine v_getf (dk cd_Ha_showIfWhole 50 rfl) fg_Ha_56_Ha (by repeat first | assumption | exact aset_same _ _ _ | refine (aset_ne _ _ (by first | assumption | exact Ne.symm (by assumption))).trans ?_) (by rfl) ?_
    refine v_iconst (v := nI 1) (dk cd_Ha_showIfWhole 51 rfl) (by decide) ?_
    refine v_iaddN (dk cd_Ha_showIfWhole 52 rfl) ?_
    refine v_putf (dk cd_Ha_showIfWhole 53 rfl) fp_Ha_56_Ha (fun h => by cases h) (by repeat first | assumption | exact aset_same _ _ _ | refine (aset_ne _ _ (by first | assumption | exact Ne.symm (by assumption))).trans ?_) rfl rfl ?_
    refine v_aload_n (dk cd_Ha_showIfWhole 54 rfl) rfl ?_
    refine v_getf (dk cd_Ha_showIfWhole 55 rfl) fg_Ha_112_Sp (by repeat first | assumption | exact aset_same _ _ _ | refine (aset_ne _ _ (by first | assumption | exact Ne.symm (by assumption))).trans ?_) (by rfl) ?_
    refine v_aload_n (dk cd_Ha_showIfWhole 56 rfl) rfl ?_
    refine v_getf (dk cd_Ha_showIfWhole 57 rfl) fg_Ha_9_Ha (by repeat first | assumption | exact aset_same _ _ _ | refine (aset_ne _ _ (by first | assumption | exact Ne.symm (by assumption))).trans ?_) (by rfl) ?_
    refine v_icmp_lt (tgt := 118) (dk cd_Ha_showIfWhole 58 rfl) rfl (fun q105 => ?_) (fun q105 => ?_)
    · have hal : hAlm S (hPut h v ve.1 s clk) v = hPut h v ve.1 s clk := by unfold hAlm; rw [if_pos (by rw [hsv]; exact q105)]
      refine v_vret (dk cd_Ha_showIfWhole 65 rfl) rfl (ps_of ?_ rfl rfl)
      rw [hsw, hal]
      refine I.updHs hi rfl (fun q hq => ?_) (fun κ h1 h2 => ?_)
      · exact (aset_ne _ _ (hq 23 (by omega) (by omega))).trans ((aset_ne _ _ (hq 30 (by omega) (by omega))).trans ((aset_ne _ _ (hq 29 (by omega) (by omega))).trans ((aset_ne _ _ (hq 28 (by omega) (by omega))).trans (aset_ne _ _ (hq 27 (by omega) (by omega))))))
      · rcases k23 h1 h2 with rfl | rfl | rfl | rfl | rfl | rfl | rfl | rfl
        · refine ⟨_, aset_same _ _ _, ?_⟩
          simp [CHs, hPut, hWs, hSh, hAl]
        · obtain ⟨xx, hh1, hh2⟩ := I.hs (κ := 24) (by omega) (by omega) hh
          exact ⟨xx, (aset_ne _ _ (I.hne hi 24 23 (by omega) (by omega) (by omega) (by omega) (by omega))).trans ((aset_ne _ _ (I.hne hi 24 30 (by omega) (by omega) (by omega) (by omega) (by omega))).trans ((aset_ne _ _ (I.hne hi 24 29 (by omega) (by omega) (by omega) (by omega) (by omega))).trans ((aset_ne _ _ (I.hne hi 24 28 (by omega) (by omega) (by omega) (by omega) (by omega))).trans ((aset_ne _ _ (I.hne hi 24 27 (by omega) (by omega) (by omega) (by omega) (by omega))).trans (hh1))))), hh2⟩
        · obtain ⟨xx, hh1, hh2⟩ := I.hs (κ := 25) (by omega) (by omega) hh
          exact ⟨xx, (aset_ne _ _ (I.hne hi 25 23 (by omega) (by omega) (by omega) (by omega) (by omega))).trans ((aset_ne _ _ (I.hne hi 25 30 (by omega) (by omega) (by omega) (by omega) (by omega))).trans ((aset_ne _ _ (I.hne hi 25 29 (by omega) (by omega) (by omega) (by omega) (by omega))).trans ((aset_ne _ _ (I.hne hi 25 28 (by omega) (by omega) (by omega) (by omega) (by omega))).trans ((aset_ne _ _ (I.hne hi 25 27 (by omega) (by omega) (by omega) (by omega) (by omega))).trans (hh1))))), hh2⟩
        · obtain ⟨xx, hh1, hh2⟩ := I.hs (κ := 26) (by omega) (by omega) hh
          exact ⟨xx, (aset_ne _ _ (I.hne hi 26 23 (by omega) (by omega) (by omega) (by omega) (by omega))).trans ((aset_ne _ _ (I.hne hi 26 30 (by omega) (by omega) (by omega) (by omega) (by omega))).trans ((aset_ne _ _ (I.hne hi 26 29 (by omega) (by omega) (by omega) (by omega) (by omega))).trans ((aset_ne _ _ (I.hne hi 26 28 (by omega) (by omega) (by omega) (by omega) (by omega))).trans ((aset_ne _ _ (I.hne hi 26 27 (by omega) (by omega) (by omega) (by omega) (by omega))).trans (hh1))))), hh2⟩
        · refine ⟨_, (aset_ne _ _ (I.hne hi 27 23 (by omega) (by omega) (by omega) (by omega) (by omega))).trans ((aset_ne _ _ (I.hne hi 27 30 (by omega) (by omega) (by omega) (by omega) (by omega))).trans ((aset_ne _ _ (I.hne hi 27 29 (by omega) (by omega) (by omega) (by omega) (by omega))).trans ((aset_ne _ _ (I.hne hi 27 28 (by omega) (by omega) (by omega) (by omega) (by omega))).trans (aset_same _ _ _)))), ?_⟩
          simp [CHs, hPut, hWs, hSh, hAl, List.map_set, b2i]
        · refine ⟨_, (aset_ne _ _ (I.hne hi 28 23 (by omega) (by omega) (by omega) (by omega) (by omega))).trans ((aset_ne _ _ (I.hne hi 28 30 (by omega) (by omega) (by omega) (by omega) (by omega))).trans ((aset_ne _ _ (I.hne hi 28 29 (by omega) (by omega) (by omega) (by omega) (by omega))).trans (aset_same _ _ _))), ?_⟩
          have h9 := ArG.app (k := 108) (v := .ref (ad 21 v)) (show (h.2.2.2.map fun q => Value.ref (ad 21 q.1)).length + g28.length = 40 by simpa using l28) (by simpa using hsl)
          simpa [CHs, hPut, hWs, hSh, hAl] using h9
        · refine ⟨_, (aset_ne _ _ (I.hne hi 29 23 (by omega) (by omega) (by omega) (by omega) (by omega))).trans ((aset_ne _ _ (I.hne hi 29 30 (by omega) (by omega) (by omega) (by omega) (by omega))).trans (aset_same _ _ _)), ?_⟩
          have h9 := ArG.app (k := 100) (v := .int (nI (chs h.2.1 s.2.1.2))) (show (h.2.2.2.map fun q => Value.int q.2.1).length + g29.length = 40 by simpa using l29) (by simpa using hsl)
          simpa [CHs, hPut, hWs, hSh, hAl] using h9
        · refine ⟨_, (aset_ne _ _ (I.hne hi 30 23 (by omega) (by omega) (by omega) (by omega) (by omega))).trans (aset_same _ _ _), ?_⟩
          have h9 := ArG.app (k := 100) (v := .int clk) (show (h.2.2.2.map fun q => Value.int q.2.2).length + g30.length = 40 by simpa using l30) (by simpa using hsl)
          simpa [CHs, hPut, hWs, hSh, hAl] using h9
    · refine v_aload_n (dk cd_Ha_showIfWhole 59 rfl) rfl ?_
      refine v_dup (dk cd_Ha_showIfWhole 60 rfl) rfl ?_
      refine v_getf (dk cd_Ha_showIfWhole 61 rfl) fg_Ha_28_Ha (by repeat first | assumption | exact aset_same _ _ _ | refine (aset_ne _ _ (by first | assumption | exact Ne.symm (by assumption))).trans ?_) (by rfl) ?_
      refine v_iconst (v := 1) (dk cd_Ha_showIfWhole 62 rfl) (by decide) ?_
      refine v_iadd (dk cd_Ha_showIfWhole 63 rfl) ?_
      refine v_putf (dk cd_Ha_showIfWhole 64 rfl) fp_Ha_28_Ha (fun h => by cases h) (by repeat first | assumption | exact aset_same _ _ _ | refine (aset_ne _ _ (by first | assumption | exact Ne.symm (by assumption))).trans ?_) rfl rfl ?_
      have hal : hAlm S (hPut h v ve.1 s clk) v = hAl (hPut h v ve.1 s clk) (h.1.2.2.2 + 1) := by unfold hAlm; rw [if_neg (by rw [hsv]; exact q105)]; rfl
      refine v_vret (dk cd_Ha_showIfWhole 65 rfl) rfl (ps_of ?_ rfl rfl)
      rw [hsw, hal, aset_aset]
      refine I.updHs hi rfl (fun q hq => ?_) (fun κ h1 h2 => ?_)
      · exact (aset_ne _ _ (hq 23 (by omega) (by omega))).trans ((aset_ne _ _ (hq 30 (by omega) (by omega))).trans ((aset_ne _ _ (hq 29 (by omega) (by omega))).trans ((aset_ne _ _ (hq 28 (by omega) (by omega))).trans (aset_ne _ _ (hq 27 (by omega) (by omega))))))
      · rcases k23 h1 h2 with rfl | rfl | rfl | rfl | rfl | rfl | rfl | rfl
        · refine ⟨_, aset_same _ _ _, ?_⟩
          simp [CHs, hPut, hWs, hSh, hAl]
        · obtain ⟨xx, hh1, hh2⟩ := I.hs (κ := 24) (by omega) (by omega) hh
          exact ⟨xx, (aset_ne _ _ (I.hne hi 24 23 (by omega) (by omega) (by omega) (by omega) (by omega))).trans ((aset_ne _ _ (I.hne hi 24 30 (by omega) (by omega) (by omega) (by omega) (by omega))).trans ((aset_ne _ _ (I.hne hi 24 29 (by omega) (by omega) (by omega) (by omega) (by omega))).trans ((aset_ne _ _ (I.hne hi 24 28 (by omega) (by omega) (by omega) (by omega) (by omega))).trans ((aset_ne _ _ (I.hne hi 24 27 (by omega) (by omega) (by omega) (by omega) (by omega))).trans (hh1))))), hh2⟩
        · obtain ⟨xx, hh1, hh2⟩ := I.hs (κ := 25) (by omega) (by omega) hh
          exact ⟨xx, (aset_ne _ _ (I.hne hi 25 23 (by omega) (by omega) (by omega) (by omega) (by omega))).trans ((aset_ne _ _ (I.hne hi 25 30 (by omega) (by omega) (by omega) (by omega) (by omega))).trans ((aset_ne _ _ (I.hne hi 25 29 (by omega) (by omega) (by omega) (by omega) (by omega))).trans ((aset_ne _ _ (I.hne hi 25 28 (by omega) (by omega) (by omega) (by omega) (by omega))).trans ((aset_ne _ _ (I.hne hi 25 27 (by omega) (by omega) (by omega) (by omega) (by omega))).trans (hh1))))), hh2⟩
        · obtain ⟨xx, hh1, hh2⟩ := I.hs (κ := 26) (by omega) (by omega) hh
          exact ⟨xx, (aset_ne _ _ (I.hne hi 26 23 (by omega) (by omega) (by omega) (by omega) (by omega))).trans ((aset_ne _ _ (I.hne hi 26 30 (by omega) (by omega) (by omega) (by omega) (by omega))).trans ((aset_ne _ _ (I.hne hi 26 29 (by omega) (by omega) (by omega) (by omega) (by omega))).trans ((aset_ne _ _ (I.hne hi 26 28 (by omega) (by omega) (by omega) (by omega) (by omega))).trans ((aset_ne _ _ (I.hne hi 26 27 (by omega) (by omega) (by omega) (by omega) (by omega))).trans (hh1))))), hh2⟩
        · refine ⟨_, (aset_ne _ _ (I.hne hi 27 23 (by omega) (by omega) (by omega) (by omega) (by omega))).trans ((aset_ne _ _ (I.hne hi 27 30 (by omega) (by omega) (by omega) (by omega) (by omega))).trans ((aset_ne _ _ (I.hne hi 27 29 (by omega) (by omega) (by omega) (by omega) (by omega))).trans ((aset_ne _ _ (I.hne hi 27 28 (by omega) (by omega) (by omega) (by omega) (by omega))).trans (aset_same _ _ _)))), ?_⟩
          simp [CHs, hPut, hWs, hSh, hAl, List.map_set, b2i]
        · refine ⟨_, (aset_ne _ _ (I.hne hi 28 23 (by omega) (by omega) (by omega) (by omega) (by omega))).trans ((aset_ne _ _ (I.hne hi 28 30 (by omega) (by omega) (by omega) (by omega) (by omega))).trans ((aset_ne _ _ (I.hne hi 28 29 (by omega) (by omega) (by omega) (by omega) (by omega))).trans (aset_same _ _ _))), ?_⟩
          have h9 := ArG.app (k := 108) (v := .ref (ad 21 v)) (show (h.2.2.2.map fun q => Value.ref (ad 21 q.1)).length + g28.length = 40 by simpa using l28) (by simpa using hsl)
          simpa [CHs, hPut, hWs, hSh, hAl] using h9
        · refine ⟨_, (aset_ne _ _ (I.hne hi 29 23 (by omega) (by omega) (by omega) (by omega) (by omega))).trans ((aset_ne _ _ (I.hne hi 29 30 (by omega) (by omega) (by omega) (by omega) (by omega))).trans (aset_same _ _ _)), ?_⟩
          have h9 := ArG.app (k := 100) (v := .int (nI (chs h.2.1 s.2.1.2))) (show (h.2.2.2.map fun q => Value.int q.2.1).length + g29.length = 40 by simpa using l29) (by simpa using hsl)
          simpa [CHs, hPut, hWs, hSh, hAl] using h9
        · refine ⟨_, (aset_ne _ _ (I.hne hi 30 23 (by omega) (by omega) (by omega) (by omega) (by omega))).trans (aset_same _ _ _), ?_⟩
          have h9 := ArG.app (k := 100) (v := .int clk) (show (h.2.2.2.map fun q => Value.int q.2.2).length + g30.length = 40 by simpa using l30) (by simpa using hsl)
          simpa [CHs, hPut, hWs, hSh, hAl] using h9
  · have hsw : shw S h v ve.1 s clk = h := by exact if_neg q45
    rw [hsw, setHs_id hh]
    exact v_vret (dk cd_Ha_showIfWhole 24 rfl) rfl (ps_of I rfl rfl)
theorem Wf_setHs {S : SS} {i : Nat} {h : HaS} (W : Wf S) : Wf (setHs S i h) := by
  obtain ⟨w1, w2, w3, w4, w5, w6, w7, w8⟩ := W
  exact ⟨w1, w2, w3, w4, by rw [show (sHs (setHs S i h)).length = (sHs S).length from List.length_set]; exact w5, w6, w7, w8⟩
set_option maxRecDepth 100000 in
set_option maxHeartbeats 4000000 in
theorem Ha_hear_72 {i v : Nat} {h : HaS} {ve : VeS} {l n clk : Int32} (I : Inv F S ad A) (Wf : Wf S) (WV : WfV S) (W : HOK S h) (hh : (sHs S)[i]? = some h) (hve : (sVers S)[v]? = some ve) (hsl : h.2.2.1.2.2.getD ve.1 false = false → h.2.2.2.length < 40) : V (gg u) (d + 3) mm_Ha_hear 72 [some (.ref (ad 23 i)), some (.ref (ad 21 v)), some (.int l), some (.int n), some (.int clk), some (.int (nI ve.1)), none] [] A (Ps none F (setHs S i (hr2 S h v l n clk)) ad A) := by
  have hi := (List.getElem?_eq_some_iff.mp hh).1
  have h23 := I.hob hh
  have hva := vAt_of hve
  have hw9 := Wf.2.2.2.2.2.2.2 _ _ hve
  have h12 := Wf.2.1
  cases hs : ve.2.2 with
  | none =>
    have hv := I.verC hve hs
    have h2e : hr2 S h v l n clk = h := by simp [hr2, hva, hs]
    rw [h2e, setHs_id hh]
    refine v_aload_n (dk cd_Ha_hear 39 rfl) rfl ?_
    refine v_instNo (dk cd_Ha_hear 40 rfl) in_Ha_44_Ca (by assumption) ?_
    refine v_if_eq (tgt := 120) (dk cd_Ha_hear 41 rfl) rfl (fun _ => ?_) (fun q => absurd rfl q)
    exact v_vret (dk cd_Ha_hear 66 rfl) rfl (ps_of I rfl rfl)
  | some s =>
    have hv := I.verS hve hs
    have e26 := W.1.2.2.2.1
    have e27 := W.1.2.2.2.2.1
    obtain ⟨x26, h26, q26⟩ := I.hs (κ := 26) (by omega) (by omega) hh
    have q26 : x26 = _ := q26
    subst q26
    refine v_aload_n (dk cd_Ha_hear 39 rfl) rfl ?_
    refine v_instY (dk cd_Ha_hear 40 rfl) iy_Ha_44_Sp (by assumption) ?_
    refine v_if_eq (tgt := 120) (dk cd_Ha_hear 41 rfl) rfl (fun q => absurd q (by decide)) (fun _ => ?_)
    refine v_aload_n (dk cd_Ha_hear 42 rfl) rfl ?_
    refine v_castY (dk cd_Ha_hear 43 rfl) iy_Ha_44_Sp (by assumption) ?_
    refine v_astore (dk cd_Ha_hear 44 rfl) (by decide) rfl ?_
    refine v_aload_n (dk cd_Ha_hear 45 rfl) rfl ?_
    refine v_getf (dk cd_Ha_hear 46 rfl) fg_Ha_37_Ha (by assumption) (by rfl) ?_
    refine v_iload (dk cd_Ha_hear 47 rfl) rfl ?_
    refine v_dup2 (dk cd_Ha_hear 48 rfl) rfl rfl ?_
    refine v_ialdN (j := 0) (dk cd_Ha_hear 49 rfl) (by assumption) (by decide) rfl (by omega) (map_getD (e := (0 : Int32)) (by omega)) ?_
    refine v_iload_n (dk cd_Ha_hear 50 rfl) rfl ?_
    refine v_iconst (v := 1) (dk cd_Ha_hear 51 rfl) (by decide) ?_
    refine v_rs (dk cd_Ha_hear 52 rfl) cs_Ha_89 (as := [_, _]) rfl rfl (Nat.le_of_ble_eq_true rfl) (by simp [Value.category]) Ha_pageBits_ok ?_
    refine v_iload_n (dk cd_Ha_hear 53 rfl) rfl ?_
    refine v_ishl (dk cd_Ha_hear 54 rfl) ?_
    refine v_ior (dk cd_Ha_hear 55 rfl) ?_
    refine v_iastN (j := 0) (dk cd_Ha_hear 56 rfl) (by assumption) (by decide) rfl (by omega) (by simp; omega) ?_
    have I2 : Inv F (setHs S i (hAdd h ve.1 l n)) ad (aset A (ad 26 i) (100, (h.2.2.1.2.1.map fun b => Value.int b).set ve.1 (.int (h.2.2.1.2.1.getD ve.1 0 ||| pBits l 1 <<< (n &&& 31))))) := I.updH1 hh (κ0 := 26) (by omega) (by omega) (by simp [CHs, hAdd, hHl, List.map_set]) (fun κ y k1 k2 k3 hy => by rcases k23 k1 k2 with rfl | rfl | rfl | rfl | rfl | rfl | rfl | rfl; exact hy; exact hy; exact hy; exact absurd rfl k3; exact hy; exact hy; exact hy; exact hy)
    have hh2 := getHs (S := S) (c := hAdd h ve.1 l n) hi
    have e27b : (hAdd h ve.1 l n).2.2.1.2.2.length = 12 := e27
    have h23b := I2.hob hh2
    obtain ⟨x27, h27, q27⟩ := I2.hs (κ := 27) (by omega) (by omega) hh2
    have q27 : x27 = _ := q27
    subst q27
    refine v_aload_n (dk cd_Ha_hear 57 rfl) rfl ?_
    refine v_getf (dk cd_Ha_hear 58 rfl) fg_Ha_40_Ha (by assumption) (by rfl) ?_
    refine v_iload (dk cd_Ha_hear 59 rfl) rfl ?_
    refine v_zaldN (j := 1) (dk cd_Ha_hear 60 rfl) (by assumption) (by decide) rfl (by omega) (map_getD (e := false) (by omega)) ?_
    refine v_ifneB (tgt := 120) (dk cd_Ha_hear 61 rfl) rfl (fun q109 => ?_) (fun q109 => ?_)
    · have h2e : hr2 S h v l n clk = hAdd h ve.1 l n := by unfold hr2; rw [hva, hs]; exact if_pos q109
      rw [h2e]
      exact v_vret (dk cd_Ha_hear 66 rfl) rfl (ps_of I2 rfl rfl)
    · refine v_aload_n (dk cd_Ha_hear 62 rfl) rfl ?_
      refine v_aload (dk cd_Ha_hear 63 rfl) rfl ?_
      refine v_iload (dk cd_Ha_hear 64 rfl) rfl ?_
      refine v_callv (r := ("AreaWarnings$Handset", TT_Ha, 13)) (dk cd_Ha_hear 65 rfl) cv_Ha_93 rfl (by assumption) (as := [_, _]) rfl rfl (Nat.le_of_ble_eq_true rfl) (by simp [Value.category]) (Ha_showIfWhole_ok (S := setHs S i (hAdd h ve.1 l n)) I2 (Wf_setHs Wf) WV (W.held (l := h.2.2.1.2.1.set ve.1 _) (by simpa using e26)) hh2 hve hs (hsl q109)) ps_no (fun v9 A9 hq => ?_)
      obtain ⟨e9, I, hA2⟩ := hq
      cases e9
      rw [setHs2] at I
      have q109 : h.2.2.1.2.2.getD ve.1 false = false := q109
      have h2e : hr2 S h v l n clk = shw S (hAdd h ve.1 l n) v ve.1 s clk := by unfold hr2; rw [hva, hs]; exact if_neg (by rw [q109]; exact Bool.false_ne_true)
      rw [h2e]
      exact v_vret (dk cd_Ha_hear 66 rfl) rfl (ps_of I hA2 rfl)
set_option maxRecDepth 100000 in
set_option maxHeartbeats 4000000 in
theorem Ha_hear_48 {i v : Nat} {h : HaS} {ve : VeS} {l n clk : Int32} (I : Inv F S ad A) (Wf : Wf S) (WV : WfV S) (W : HOK S h) (W2 : HOK S (hRes h v ve.1)) (hh : (sHs S)[i]? = some h) (hve : (sVers S)[v]? = some ve) : V (gg u) (d + 3) mm_Ha_hear 48 [some (.ref (ad 23 i)), some (.ref (ad 21 v)), some (.int l), some (.int n), some (.int clk), some (.int (nI ve.1)), none] [] A (Ps none F (setHs S i (hr2 S (hRes h v ve.1) v l n clk)) ad A) := by
  have hi := (List.getElem?_eq_some_iff.mp hh).1
  have hvi := (List.getElem?_eq_some_iff.mp hve).1
  have h23 := I.hob hh
  have hva := vAt_of hve
  have hw9 := Wf.2.2.2.2.2.2.2 _ _ hve
  have h12 := Wf.2.1
  obtain ⟨vl, hv⟩ := I.verV hve
  have e25 := W.1.2.2.1
  have e26 := W.1.2.2.2.1
  have e27 := W.1.2.2.2.2.1
  obtain ⟨x25, h25, q25⟩ := I.hs (κ := 25) (by omega) (by omega) hh
  obtain ⟨x26, h26, q26⟩ := I.hs (κ := 26) (by omega) (by omega) hh
  obtain ⟨x27, h27, q27⟩ := I.hs (κ := 27) (by omega) (by omega) hh
  have q25 : x25 = _ := q25
  have q26 : x26 = _ := q26
  have q27 : x27 = _ := q27
  subst q25 q26 q27
  have n23_25 := I.hne hi 23 25 (by omega) (by omega) (by omega) (by omega) (by omega)
  have n23_26 := I.hne hi 23 26 (by omega) (by omega) (by omega) (by omega) (by omega)
  have n23_27 := I.hne hi 23 27 (by omega) (by omega) (by omega) (by omega) (by omega)
  have n25_26 := I.hne hi 25 26 (by omega) (by omega) (by omega) (by omega) (by omega)
  have n25_27 := I.hne hi 25 27 (by omega) (by omega) (by omega) (by omega) (by omega)
  have n26_27 := I.hne hi 26 27 (by omega) (by omega) (by omega) (by omega) (by omega)
  refine v_aload_n (dk cd_Ha_hear 24 rfl) rfl ?_
  refine v_getf (dk cd_Ha_hear 25 rfl) fg_Ha_33_Ha (by repeat first | assumption | exact aset_same _ _ _ | refine (aset_ne _ _ (by first | assumption | exact Ne.symm (by assumption))).trans ?_) (by rfl) ?_
  refine v_iload (dk cd_Ha_hear 26 rfl) rfl ?_
  refine v_aload_n (dk cd_Ha_hear 27 rfl) rfl ?_
  refine v_aastN (dk cd_Ha_hear 28 rfl) asV (by repeat first | assumption | exact aset_same _ _ _ | refine (aset_ne _ _ (by first | assumption | exact Ne.symm (by assumption))).trans ?_) (by repeat first | assumption | exact aset_same _ _ _ | refine (aset_ne _ _ (by first | assumption | exact Ne.symm (by assumption))).trans ?_) (by omega) (by simp; omega) ?_
  refine v_aload_n (dk cd_Ha_hear 29 rfl) rfl ?_
  refine v_getf (dk cd_Ha_hear 30 rfl) fg_Ha_37_Ha (by repeat first | assumption | exact aset_same _ _ _ | refine (aset_ne _ _ (by first | assumption | exact Ne.symm (by assumption))).trans ?_) (by rfl) ?_
  refine v_iload (dk cd_Ha_hear 31 rfl) rfl ?_
  refine v_iconst (v := 0) (dk cd_Ha_hear 32 rfl) (by decide) ?_
  refine v_iastN (j := 0) (dk cd_Ha_hear 33 rfl) (by repeat first | assumption | exact aset_same _ _ _ | refine (aset_ne _ _ (by first | assumption | exact Ne.symm (by assumption))).trans ?_) (by decide) rfl (by omega) (by simp; omega) ?_
  refine v_aload_n (dk cd_Ha_hear 34 rfl) rfl ?_
  refine v_getf (dk cd_Ha_hear 35 rfl) fg_Ha_40_Ha (by repeat first | assumption | exact aset_same _ _ _ | refine (aset_ne _ _ (by first | assumption | exact Ne.symm (by assumption))).trans ?_) (by rfl) ?_
  refine v_iload (dk cd_Ha_hear 36 rfl) rfl ?_
  refine v_iconst (v := 0) (dk cd_Ha_hear 37 rfl) (by decide) ?_
  refine v_zastN (j := 1) (dk cd_Ha_hear 38 rfl) (by repeat first | assumption | exact aset_same _ _ _ | refine (aset_ne _ _ (by first | assumption | exact Ne.symm (by assumption))).trans ?_) (by decide) rfl (by omega) (by simp; omega) rfl ?_
  have I2 : Inv F (setHs S i (hRes h v ve.1)) ad (aset (aset (aset A (ad 25 i) (107, (h.2.2.1.1.map (rfN ad 21)).set ve.1 (.ref (ad 21 v)))) (ad 26 i) (100, (h.2.2.1.2.1.map fun b => Value.int b).set ve.1 (.int 0))) (ad 27 i) (101, (h.2.2.1.2.2.map fun b => Value.int (b2i b)).set ve.1 (.int 0))) := by
    refine I.updHs hi rfl (fun q hq => ?_) (fun κ h1 h2 => ?_)
    · exact (aset_ne _ _ (hq 27 (by omega) (by omega))).trans ((aset_ne _ _ (hq 26 (by omega) (by omega))).trans (aset_ne _ _ (hq 25 (by omega) (by omega))))
    · rcases k23 h1 h2 with rfl | rfl | rfl | rfl | rfl | rfl | rfl | rfl
      · obtain ⟨xx, hh1, hh2⟩ := I.hs (κ := 23) (by omega) (by omega) hh
        exact ⟨xx, (aset_ne _ _ (I.hne hi 23 27 (by omega) (by omega) (by omega) (by omega) (by omega))).trans ((aset_ne _ _ (I.hne hi 23 26 (by omega) (by omega) (by omega) (by omega) (by omega))).trans ((aset_ne _ _ (I.hne hi 23 25 (by omega) (by omega) (by omega) (by omega) (by omega))).trans (hh1))), hh2⟩
      · obtain ⟨xx, hh1, hh2⟩ := I.hs (κ := 24) (by omega) (by omega) hh
        exact ⟨xx, (aset_ne _ _ (I.hne hi 24 27 (by omega) (by omega) (by omega) (by omega) (by omega))).trans ((aset_ne _ _ (I.hne hi 24 26 (by omega) (by omega) (by omega) (by omega) (by omega))).trans ((aset_ne _ _ (I.hne hi 24 25 (by omega) (by omega) (by omega) (by omega) (by omega))).trans (hh1))), hh2⟩
      · refine ⟨_, (aset_ne _ _ (I.hne hi 25 27 (by omega) (by omega) (by omega) (by omega) (by omega))).trans ((aset_ne _ _ (I.hne hi 25 26 (by omega) (by omega) (by omega) (by omega) (by omega))).trans (aset_same _ _ _)), ?_⟩
        simp [CHs, hRes, hWs, hHl, hHd, List.map_set, rfN]
      · refine ⟨_, (aset_ne _ _ (I.hne hi 26 27 (by omega) (by omega) (by omega) (by omega) (by omega))).trans (aset_same _ _ _), ?_⟩
        simp [CHs, hRes, hWs, hHl, hHd, List.map_set]
      · refine ⟨_, aset_same _ _ _, ?_⟩
        simp [CHs, hRes, hWs, hHl, hHd, List.map_set, b2i]
      · obtain ⟨xx, hh1, hh2⟩ := I.hs (κ := 28) (by omega) (by omega) hh
        exact ⟨xx, (aset_ne _ _ (I.hne hi 28 27 (by omega) (by omega) (by omega) (by omega) (by omega))).trans ((aset_ne _ _ (I.hne hi 28 26 (by omega) (by omega) (by omega) (by omega) (by omega))).trans ((aset_ne _ _ (I.hne hi 28 25 (by omega) (by omega) (by omega) (by omega) (by omega))).trans (hh1))), hh2⟩
      · obtain ⟨xx, hh1, hh2⟩ := I.hs (κ := 29) (by omega) (by omega) hh
        exact ⟨xx, (aset_ne _ _ (I.hne hi 29 27 (by omega) (by omega) (by omega) (by omega) (by omega))).trans ((aset_ne _ _ (I.hne hi 29 26 (by omega) (by omega) (by omega) (by omega) (by omega))).trans ((aset_ne _ _ (I.hne hi 29 25 (by omega) (by omega) (by omega) (by omega) (by omega))).trans (hh1))), hh2⟩
      · obtain ⟨xx, hh1, hh2⟩ := I.hs (κ := 30) (by omega) (by omega) hh
        exact ⟨xx, (aset_ne _ _ (I.hne hi 30 27 (by omega) (by omega) (by omega) (by omega) (by omega))).trans ((aset_ne _ _ (I.hne hi 30 26 (by omega) (by omega) (by omega) (by omega) (by omega))).trans ((aset_ne _ _ (I.hne hi 30 25 (by omega) (by omega) (by omega) (by omega) (by omega))).trans (hh1))), hh2⟩
  have h9 := Ha_hear_72 (u := u) (d := d) (S := setHs S i (hRes h v ve.1)) (v := v) (l := l) (n := n) (clk := clk) I2 (Wf_setHs Wf) WV W2 (getHs hi) hve (fun hq => (W2.room Wf.2.2.2.1 hvi (by rw [hva]; exact getD_set_self (by omega)) (by rw [hva]; exact hq)).2)
  rw [setHs2] at h9
  exact h9
set_option maxRecDepth 100000 in
set_option maxHeartbeats 4000000 in
theorem Ha_hear_ok {i v : Nat} {h : HaS} {ve : VeS} {l n clk : Int32} (I : Inv F S ad A) (Wf : Wf S) (WV : WfV S) (N : NumOK S) (W : HOK S h) (hh : (sHs S)[i]? = some h) (hve : (sVers S)[v]? = some ve) : V (gg u) (d + 3) mm_Ha_hear 0 [some (.ref (ad 23 i)), some (.ref (ad 21 v)), some (.int l), some (.int n), some (.int clk), none, none] [] A (Ps none F (setHs S i (hearS S h v l n clk)) ad A) := by
  have hi := (List.getElem?_eq_some_iff.mp hh).1
  have hvi := (List.getElem?_eq_some_iff.mp hve).1
  have h23 := I.hob hh
  have hva := vAt_of hve
  have hw9 := Wf.2.2.2.2.2.2.2 _ _ hve
  have h12 := Wf.2.1
  have hwr := I.warn (List.getElem?_eq_getElem hw9)
  obtain ⟨vl, hv⟩ := I.verV hve
  have e25 := W.1.2.2.1
  obtain ⟨x25, h25, q25⟩ := I.hs (κ := 25) (by omega) (by omega) hh
  have q25 : x25 = _ := q25
  subst q25
  have hwv : (vAt S v).1 < 12 := by rw [hva]; omega
  cases hd : h.2.2.1.1.getD ve.1 none with
  | none =>
    have hx : (h.2.2.1.1.map (rfN ad 21))[ve.1]? = some .null := by rw [map_getD (e := none) (by omega), hd]; rfl
    have hsk : hSkip S h v = false := by unfold hSkip; rw [hva, hd]
    have hrr : hr1 S h v = hRes h v ve.1 := by unfold hr1; rw [hva, hd]; rfl
    have W2 := W.hone N hvi hwv hsk
    have hee : hearS S h v l n clk = hr2 S (hRes h v ve.1) v l n clk := by unfold hearS; rw [hsk, hrr]; rfl
    rw [hrr] at W2
    rw [hee]
    refine v_aload_n (dk cd_Ha_hear 0 rfl) rfl ?_
    refine v_getf (dk cd_Ha_hear 1 rfl) (fgV fg_Ha_77_Sp fg_Ha_77_Ca _) (by assumption) (by rfl) ?_
    refine v_getf (dk cd_Ha_hear 2 rfl) fg_Ha_81_Wa (by assumption) (by rfl) ?_
    refine v_istore (dk cd_Ha_hear 3 rfl) (by decide) rfl ?_
    refine v_aload_n (dk cd_Ha_hear 4 rfl) rfl ?_
    refine v_getf (dk cd_Ha_hear 5 rfl) fg_Ha_33_Ha (by assumption) (by rfl) ?_
    refine v_iload (dk cd_Ha_hear 6 rfl) rfl ?_
    refine v_aaldN (j := 7) (dk cd_Ha_hear 7 rfl) (by assumption) (by decide) rfl rfl (by omega) hx ?_
    refine v_ifnullN (tgt := 37) (dk cd_Ha_hear 8 rfl) rfl ?_
    refine v_aload_n (dk cd_Ha_hear 18 rfl) rfl ?_
    refine v_getf (dk cd_Ha_hear 19 rfl) fg_Ha_33_Ha (by assumption) (by rfl) ?_
    refine v_iload (dk cd_Ha_hear 20 rfl) rfl ?_
    refine v_aaldN (j := 7) (dk cd_Ha_hear 21 rfl) (by assumption) (by decide) rfl rfl (by omega) hx ?_
    refine v_aload_n (dk cd_Ha_hear 22 rfl) rfl ?_
    refine v_acmp_eqNull (tgt := 72) (dk cd_Ha_hear 23 rfl) rfl ?_
    exact Ha_hear_48 I Wf WV W W2 hh hve
  | some v' =>
    have hx : (h.2.2.1.1.map (rfN ad 21))[ve.1]? = some (.ref (ad 21 v')) := by rw [map_getD (e := none) (by omega), hd]; rfl
    have hv2 := W.1.2.2.2.2.2.1 v' (getD_mem hd)
    have hve2 := List.getElem?_eq_getElem hv2
    have hva2 := vAt_of hve2
    obtain ⟨vl2, hvx⟩ := I.verV hve2
    refine v_aload_n (dk cd_Ha_hear 0 rfl) rfl ?_
    refine v_getf (dk cd_Ha_hear 1 rfl) (fgV fg_Ha_77_Sp fg_Ha_77_Ca _) (by assumption) (by rfl) ?_
    refine v_getf (dk cd_Ha_hear 2 rfl) fg_Ha_81_Wa (by assumption) (by rfl) ?_
    refine v_istore (dk cd_Ha_hear 3 rfl) (by decide) rfl ?_
    refine v_aload_n (dk cd_Ha_hear 4 rfl) rfl ?_
    refine v_getf (dk cd_Ha_hear 5 rfl) fg_Ha_33_Ha (by assumption) (by rfl) ?_
    refine v_iload (dk cd_Ha_hear 6 rfl) rfl ?_
    refine v_aaldN (j := 7) (dk cd_Ha_hear 7 rfl) (by assumption) (by decide) rfl rfl (by omega) hx ?_
    refine v_ifnull (dk cd_Ha_hear 8 rfl) ?_
    refine v_aload_n (dk cd_Ha_hear 9 rfl) rfl ?_
    refine v_getf (dk cd_Ha_hear 10 rfl) fg_Ha_33_Ha (by assumption) (by rfl) ?_
    refine v_iload (dk cd_Ha_hear 11 rfl) rfl ?_
    refine v_aaldN (j := 7) (dk cd_Ha_hear 12 rfl) (by assumption) (by decide) rfl rfl (by omega) hx ?_
    refine v_getf (dk cd_Ha_hear 13 rfl) (fgV fg_Ha_86_Sp fg_Ha_86_Ca _) (by assumption) (by rfl) ?_
    refine v_aload_n (dk cd_Ha_hear 14 rfl) rfl ?_
    refine v_getf (dk cd_Ha_hear 15 rfl) (fgV fg_Ha_86_Sp fg_Ha_86_Ca _) (by assumption) (by rfl) ?_
    refine v_icmp_le (tgt := 37) (dk cd_Ha_hear 16 rfl) rfl (fun q33 => ?_) (fun q33 => ?_)
    · have hsk : hSkip S h v = false := by unfold hSkip; rw [hva, hd]; simp only [vNum, hva, hva2]; rw [decide_eq_true q33]; rfl
      have hee : hearS S h v l n clk = hr2 S (hr1 S h v) v l n clk := by unfold hearS; rw [hsk]; rfl
      have W2 := W.hone N hvi hwv hsk
      rw [hee]
      refine v_aload_n (dk cd_Ha_hear 18 rfl) rfl ?_
      refine v_getf (dk cd_Ha_hear 19 rfl) fg_Ha_33_Ha (by assumption) (by rfl) ?_
      refine v_iload (dk cd_Ha_hear 20 rfl) rfl ?_
      refine v_aaldN (j := 7) (dk cd_Ha_hear 21 rfl) (by assumption) (by decide) rfl rfl (by omega) hx ?_
      refine v_aload_n (dk cd_Ha_hear 22 rfl) rfl ?_
      refine v_acmp_eqR (tgt := 72) (dk cd_Ha_hear 23 rfl) rfl (fun q45 => ?_) (fun q45 => ?_)
      · have hvv : v' = v := (I.1 21 v' 21 v (LV_ver hv2) (LV_ver hvi) q45).2
        have hrr : hr1 S h v = h := by unfold hr1; rw [hva, hd, hvv]; exact if_pos rfl
        rw [hrr]
        exact Ha_hear_72 I Wf WV W hh hve (fun hq => (W.room Wf.2.2.2.1 hvi (by rw [hva, hd, hvv]) (by rw [hva]; exact hq)).2)
      · have hrr : hr1 S h v = hRes h v ve.1 := by unfold hr1; rw [hva, hd]; exact if_neg (fun e => q45 (by cases e; rfl))
        rw [hrr] at W2 ⊢
        exact Ha_hear_48 I Wf WV W W2 hh hve
    · have hsk : hSkip S h v = true := by unfold hSkip; rw [hva, hd]; simp only [vNum, hva, hva2]; rw [decide_eq_false q33]; rfl
      have hee : hearS S h v l n clk = h := by unfold hearS; rw [hsk]; rfl
      rw [hee, setHs_id hh]
      exact v_vret (dk cd_Ha_hear 17 rfl) rfl (ps_of I rfl rfl)
theorem HOK.fold {S : SS} {clk : Int32} (N : NumOK S) (h40 : (sVers S).length ≤ 40) (hw : ∀ v, v < (sVers S).length → (vAt S v).1 < 12) (l : List (Nat × Int32 × Int32)) (hl : ∀ q ∈ l, q.1 < (sVers S).length) : ∀ h, HOK S h → HOK S (l.foldl (lisS S clk) h) := by
  induction l with
  | nil => exact fun h H => H
  | cons q r ih => exact fun h H => ih (fun x hx => hl x (List.mem_cons_of_mem _ hx)) _ (H.lis N h40 (hl q List.mem_cons_self) (hw _ (hl q List.mem_cons_self)))
theorem Wf.w12 {S : SS} (W : Wf S) {v : Nat} (hv : v < (sVers S).length) : (vAt S v).1 < 12 := by
  have h1 := List.getElem?_eq_getElem hv
  rw [vAt_of h1]
  have := W.2.2.2.2.2.2.2 _ _ h1
  have := W.2.1
  omega
theorem take_snoc {α : Type} {l : List α} {k : Nat} (h : k < l.length) : l.take (k + 1) = l.take k ++ [l[k]] := by rw [List.take_add_one, List.getElem?_eq_getElem h]; rfl
set_option maxRecDepth 100000 in
set_option maxHeartbeats 4000000 in
theorem Ha_listen_lp {i j : Nat} {h : HaS} {c : CeS} {clk : Int32} {A0 : AH} (Wf : Wf S) (WV : WfV S) (N : NumOK S) (W : HOK S h) (hi : i < (sHs S).length) (hc : (sCells S)[j]? = some c) (hp : ∀ q ∈ c.2.2.2, q.1 < (sVers S).length) (h108 : c.2.2.2.length ≤ 108) : ∀ k, ∀ A : AH, k ≤ c.2.2.2.length ∧ Inv F (setHs S i ((c.2.2.2.take k).foldl (lisS S clk) h)) ad A ∧ A.2 = A0.2 → V (gg u) (d + 4) mm_Ha_listen 2 [some (.ref (ad 23 i)), some (.ref (ad 14 j)), some (.int clk), some (.int (nI k))] [] A (Ps none F (setHs S i (c.2.2.2.foldl (lisS S clk) h)) ad A0) := by
  refine up_ind c.2.2.2.length ?_
  intro k ih A ⟨hk, I, hA⟩
  have h14 := I.cob (S := setHs S i ((c.2.2.2.take k).foldl (lisS S clk) h)) hc
  have W2 : HOK S ((c.2.2.2.take k).foldl (lisS S clk) h) := W.fold N Wf.2.2.2.1 (fun v hv => Wf.w12 hv) _ (fun q hq => hp q (List.mem_of_mem_take hq))
  have hh2 := getHs (S := S) (c := ((c.2.2.2.take k).foldl (lisS S clk) h)) hi
  generalize hg : ((c.2.2.2.take k).foldl (lisS S clk) h) = hk9 at I W2 hh2
  have h23 := I.hob hh2
  obtain ⟨x17, h17, g17, e17, l17⟩ := I.cell (S := setHs S i hk9) (κ := 17) (by omega) (by omega) hc
  obtain ⟨x18, h18, g18, e18, l18⟩ := I.cell (S := setHs S i hk9) (κ := 18) (by omega) (by omega) hc
  obtain ⟨x19, h19, g19, e19, l19⟩ := I.cell (S := setHs S i hk9) (κ := 19) (by omega) (by omega) hc
  subst e17 e18 e19
  refine v_iload_n (dk cd_Ha_listen 2 rfl) rfl ?_
  refine v_aload_n (dk cd_Ha_listen 3 rfl) rfl ?_
  refine v_getf (dk cd_Ha_listen 4 rfl) fg_Ha_59_Ce (by assumption) (by rfl) ?_
  refine v_icmp_geN (tgt := 59) (dk cd_Ha_listen 5 rfl) rfl (by omega) (by omega) (fun q7 => ?_) (fun q7 => ?_)
  · have hke : k = c.2.2.2.length := by omega
    subst hke
    rw [List.take_length] at hg
    rw [hg]
    exact v_vret (dk cd_Ha_listen 33 rfl) rfl (ps_of I hA rfl)
  · have hts : (c.2.2.2.take (k + 1)).foldl (lisS S clk) h = lisS S clk hk9 c.2.2.2[k] := by rw [take_snoc q7, List.foldl_append, hg]; rfl
    refine v_aload_n (dk cd_Ha_listen 6 rfl) rfl ?_
    refine v_getf (dk cd_Ha_listen 7 rfl) fg_Ha_25_Ha (by assumption) (by rfl) ?_
    refine v_if_le (tgt := 30) (dk cd_Ha_listen 8 rfl) rfl (fun q14 => ?_) (fun q14 => ?_)
    · have hvn := hp _ (List.getElem_mem q7)
      have hve := List.getElem?_eq_getElem hvn
      obtain ⟨vl, hv⟩ := I.verV (S := setHs S i hk9) hve
      refine v_aload_n (dk cd_Ha_listen 16 rfl) rfl ?_
      refine v_aload_n (dk cd_Ha_listen 17 rfl) rfl ?_
      refine v_getf (dk cd_Ha_listen 18 rfl) fg_Ha_64_Ce (by assumption) (by rfl) ?_
      refine v_iload_n (dk cd_Ha_listen 19 rfl) rfl ?_
      refine v_aaldN (j := 7) (dk cd_Ha_listen 20 rfl) (by assumption) (by decide) rfl rfl (by omega) (map_app q7) ?_
      refine v_aload_n (dk cd_Ha_listen 21 rfl) rfl ?_
      refine v_getf (dk cd_Ha_listen 22 rfl) fg_Ha_67_Ce (by assumption) (by rfl) ?_
      refine v_iload_n (dk cd_Ha_listen 23 rfl) rfl ?_
      refine v_ialdN (j := 0) (dk cd_Ha_listen 24 rfl) (by assumption) (by decide) rfl (by omega) (map_app q7) ?_
      refine v_aload_n (dk cd_Ha_listen 25 rfl) rfl ?_
      refine v_getf (dk cd_Ha_listen 26 rfl) fg_Ha_70_Ce (by assumption) (by rfl) ?_
      refine v_iload_n (dk cd_Ha_listen 27 rfl) rfl ?_
      refine v_ialdN (j := 0) (dk cd_Ha_listen 28 rfl) (by assumption) (by decide) rfl (by omega) (map_app q7) ?_
      refine v_iload_n (dk cd_Ha_listen 29 rfl) rfl ?_
      refine v_callv (r := ("AreaWarnings$Handset", TT_Ha, 13)) (dk cd_Ha_listen 30 rfl) cv_Ha_73 rfl (by assumption) (as := [_, _, _, _]) rfl rfl (Nat.le_of_ble_eq_true rfl) (by simp [Value.category]) (Ha_hear_ok (S := setHs S i hk9) I (Wf_setHs Wf) WV N W2 hh2 hve) ps_no (fun v9 A9 hq => ?_)
      obtain ⟨e9, I3, hA2⟩ := hq
      cases e9
      rw [setHs2] at I3
      refine v_iincN (dk cd_Ha_listen 31 rfl) rfl (by decide) rfl ?_
      refine v_goto (tgt := 2) (dk cd_Ha_listen 32 rfl) rfl ?_
      exact ih q7 _ ⟨by omega, by rw [hts, show lisS S clk hk9 c.2.2.2[k] = hearS S hk9 c.2.2.2[k].1 c.2.2.2[k].2.1 c.2.2.2[k].2.2 clk from if_pos q14]; exact I3, hA2.trans hA⟩
    · refine v_aload_n (dk cd_Ha_listen 9 rfl) rfl ?_
      refine v_dup (dk cd_Ha_listen 10 rfl) rfl ?_
      refine v_getf (dk cd_Ha_listen 11 rfl) fg_Ha_25_Ha (by assumption) (by rfl) ?_
      refine v_iconst (v := 1) (dk cd_Ha_listen 12 rfl) (by decide) ?_
      refine v_isub (dk cd_Ha_listen 13 rfl) ?_
      have I2 := I.updH1 hh2 (h' := hMs hk9 (hk9.1.2.2.1 - 1)) (κ0 := 23) (by omega) (by omega) (x := _) rfl (fun κ y k1 k2 k3 hy => by rcases k23 k1 k2 with rfl | rfl | rfl | rfl | rfl | rfl | rfl | rfl; exact absurd rfl k3; exact hy; exact hy; exact hy; exact hy; exact hy; exact hy; exact hy)
      rw [setHs2] at I2
      refine v_putf (dk cd_Ha_listen 14 rfl) fp_Ha_25_Ha (fun h => by cases h) (by assumption) rfl rfl ?_
      refine v_goto (tgt := 53) (dk cd_Ha_listen 15 rfl) rfl ?_
      refine v_iincN (dk cd_Ha_listen 31 rfl) rfl (by decide) rfl ?_
      refine v_goto (tgt := 2) (dk cd_Ha_listen 32 rfl) rfl ?_
      exact ih q7 _ ⟨by omega, by rw [hts, show lisS S clk hk9 c.2.2.2[k] = hMs hk9 (hk9.1.2.2.1 - 1) from if_neg q14]; exact I2, hA⟩
set_option maxRecDepth 100000 in
set_option maxHeartbeats 4000000 in
theorem Ha_listen_ok {i j : Nat} {h : HaS} {c : CeS} {clk : Int32} (I : Inv F S ad A) (Wf : Wf S) (WV : WfV S) (N : NumOK S) (W : HOK S h) (hh : (sHs S)[i]? = some h) (hc : (sCells S)[j]? = some c) (hp : ∀ q ∈ c.2.2.2, q.1 < (sVers S).length) (h108 : c.2.2.2.length ≤ 108) : V (gg u) (d + 4) mm_Ha_listen 0 [some (.ref (ad 23 i)), some (.ref (ad 14 j)), some (.int clk), none] [] A (Ps none F (setHs S i (c.2.2.2.foldl (lisS S clk) h)) ad A) := by
  refine v_iconst (v := nI 0) (dk cd_Ha_listen 0 rfl) (by decide) ?_
  refine v_istore_n (dk cd_Ha_listen 1 rfl) (by decide) rfl ?_
  exact Ha_listen_lp Wf WV N W (List.getElem?_eq_some_iff.mp hh).1 hc hp h108 0 A ⟨by omega, by rw [List.take_zero, List.foldl_nil, setHs_id hh]; exact I, rfl⟩
end H3
end
section
/-! the minute -/
def cMid (S : SS) (i : Nat) (c : CeS) : CeS := if c.2.1.1 = true then cLs c (mkList S i c (sClock S)) (!c.2.1.2) else cLs c (c.2.2.1.filter (goesOn S (sClock S))) c.2.1.2
def cMin (S : SS) (i : Nat) (c : CeS) : CeS := cPg (cMid S i c) (pSev S (sClock S) (cMid S i c).2.2.1 5)
def cellsTo (S : SS) : Nat → List CeS
  | 0 => sCells S
  | k + 1 => (cellsTo S k).set k (cMin S k ((sCells S).getD k cD))
def minTo (S : SS) (k : Nat) : SS := (S.1, cellsTo S k, S.2.2)
def pgSum (S : SS) : Nat → Nat
  | 0 => 0
  | k + 1 => pgSum S k + (cMin S k ((sCells S).getD k cD)).2.2.2.length
def hMin (S : SS) (h : HaS) : HaS := if pIx h.1.2.1 (sCells S).length = true then (cAt S h.1.2.1).2.2.2.foldl (lisS S (sClock S)) h else h
def hsTo (S : SS) : Nat → List HaS
  | 0 => sHs S
  | k + 1 => (hsTo S k).set k (hMin S ((sHs S).getD k hD))
def minH (S : SS) (k : Nat) : SS := (S.1, S.2.1, S.2.2.1, S.2.2.2.1, S.2.2.2.2.1, hsTo S k)
def minC (S : SS) : SS := minTo (setCk S (sClock S + 1)) (sCells S).length
def spMinute (S : SS) : SS × (Value ⊕ Nat) := (minH (minC S) (sHs S).length, .inl (.int (nI (pgSum (setCk S (sClock S + 1)) (sCells S).length))))
theorem cellsTo_len (S : SS) (k : Nat) : (cellsTo S k).length = (sCells S).length := by
  induction k with
  | zero => rfl
  | succ k ih => simp [cellsTo, ih]
theorem cellsTo_ge (S : SS) (k : Nat) : ∀ j, k ≤ j → (cellsTo S k)[j]? = (sCells S)[j]? := by
  induction k with
  | zero => exact fun j _ => rfl
  | succ k ih =>
    intro j hj
    simp only [cellsTo]
    rw [List.getElem?_set_ne (by omega), ih j (by omega)]
theorem cellsTo_lt (S : SS) (k : Nat) : ∀ j c, j < k → (sCells S)[j]? = some c → (cellsTo S k)[j]? = some (cMin S j c) := by
  induction k with
  | zero => exact fun j c h => absurd h (Nat.not_lt_zero j)
  | succ k ih =>
    intro j c hj hc
    simp only [cellsTo]
    by_cases e : j = k
    · subst e
      rw [List.getElem?_set_self (by rw [cellsTo_len]; exact (List.getElem?_eq_some_iff.mp hc).1)]
      simp [hc]
    · rw [List.getElem?_set_ne (fun q => e q.symm), ih j c (by omega) hc]
theorem hsTo_len (S : SS) (k : Nat) : (hsTo S k).length = (sHs S).length := by
  induction k with
  | zero => rfl
  | succ k ih => simp [hsTo, ih]
theorem hsTo_ge (S : SS) (k : Nat) : ∀ j, k ≤ j → (hsTo S k)[j]? = (sHs S)[j]? := by
  induction k with
  | zero => exact fun j _ => rfl
  | succ k ih =>
    intro j hj
    simp only [hsTo]
    rw [List.getElem?_set_ne (by omega), ih j (by omega)]
theorem hsTo_lt (S : SS) (k : Nat) : ∀ j c, j < k → (sHs S)[j]? = some c → (hsTo S k)[j]? = some (hMin S c) := by
  induction k with
  | zero => exact fun j c h => absurd h (Nat.not_lt_zero j)
  | succ k ih =>
    intro j c hj hc
    simp only [hsTo]
    by_cases e : j = k
    · subst e
      rw [List.getElem?_set_self (by rw [hsTo_len]; exact (List.getElem?_eq_some_iff.mp hc).1)]
      simp [hc]
    · rw [List.getElem?_set_ne (fun q => e q.symm), ih j c (by omega) hc]
/-- what holds of one cell -/
def CO (S : SS) (c : CeS) : Prop := c.2.2.1.length ≤ 12 ∧ (∀ v ∈ c.2.2.1, v < (sVers S).length) ∧ c.2.2.2.length ≤ 108 ∧ ∀ p ∈ c.2.2.2, p.1 < (sVers S).length ∧ ((vAt S p.1).2.2.isSome = true → ∃ l, l < 3 ∧ p.2.1 = nI l)
theorem nwI_lt {S : SS} {w : Nat} (W : Wf S) (h : w ∈ sOrd S) : nwI S w < (sVers S).length := by
  have h1 := W.2.2.2.2.2.1 w h
  obtain ⟨v, h2, h3⟩ := W.2.2.2.2.2.2.1 w _ (List.getElem?_eq_getElem h1)
  unfold nwI
  rw [List.getD_eq_getElem?_getD, List.getElem?_eq_getElem h1]
  simp [h2, h3]
theorem cMid_ok {S : SS} {i : Nat} {c : CeS} (W : Wf S) (C : CO S c) : (cMid S i c).2.2.1.length ≤ 12 ∧ ∀ v ∈ (cMid S i c).2.2.1, v < (sVers S).length := by
  unfold cMid
  split
  · refine ⟨?_, ?_⟩
    · have h1 := List.length_filter_le (keepL S i c (sClock S)) ((sOrd S).map (nwI S))
      have h2 := W.1
      have h3 := W.2.1
      simp only [cLs, mkList]
      simp only [List.length_map] at h1
      omega
    · intro v hv
      obtain ⟨w, hw, rfl⟩ := List.mem_map.mp (List.mem_filter.mp hv).1
      exact nwI_lt W hw
  · exact ⟨Nat.le_trans (List.length_filter_le _ _) C.1, fun v hv => C.2.1 v (List.mem_filter.mp hv).1⟩
theorem pgTo_mem {v l n : Nat} {q : Nat × Int32 × Int32} (h : q ∈ pgTo v l n) : q.1 = v ∧ q.2.1 = nI l ∧ ∃ k, k < n ∧ q.2.2 = nI k := by
  induction n with
  | zero => cases h
  | succ n ih =>
    rcases List.mem_append.mp h with h | h
    · obtain ⟨a, b, k, c, e⟩ := ih h
      exact ⟨a, b, k, by omega, e⟩
    · rw [List.mem_singleton.mp h]; exact ⟨rfl, rfl, n, by omega, rfl⟩
theorem txTo_mem {v n : Nat} {t : Tx} {q : Nat × Int32 × Int32} (h : q ∈ txTo v t n) : q.1 = v ∧ ∃ l, l < n ∧ q.2.1 = nI l ∧ ∃ k, k < pgs (tl t l) ∧ q.2.2 = nI k := by
  induction n with
  | zero => cases h
  | succ n ih =>
    rcases List.mem_append.mp h with h | h
    · obtain ⟨a, l, b, c⟩ := ih h
      exact ⟨a, l, by omega, c⟩
    · obtain ⟨a, b, c⟩ := pgTo_mem h
      exact ⟨a, n, by omega, b, c⟩
theorem vPages_mem {S : SS} {v : Nat} {clk : Int32} {q : Nat × Int32 × Int32} (h : q ∈ vPages S v clk) : q.1 = v ∧ ((vAt S v).2.2.isSome = true → ∃ l, l < 3 ∧ q.2.1 = nI l) := by
  unfold vPages at h
  cases hs : (vAt S v).2.2 with
  | none =>
    rw [hs] at h
    rw [List.mem_singleton.mp h]
    exact ⟨rfl, fun e => by cases e⟩
  | some s =>
    rw [hs] at h
    simp only at h
    split at h
    · obtain ⟨a, l, b, c, -⟩ := txTo_mem h
      exact ⟨a, fun _ => ⟨l, b, c⟩⟩
    · cases h
theorem pSev_mem {S : SS} {clk : Int32} {l : List Nat} {n : Nat} {q : Nat × Int32 × Int32} (h : q ∈ pSev S clk l n) : ∃ v, v ∈ l ∧ q ∈ vPages S v clk := by
  induction n with
  | zero => cases h
  | succ n ih =>
    rcases List.mem_append.mp h with h | h
    · exact ih h
    · obtain ⟨v, hv, h⟩ := List.mem_flatMap.mp h
      split at h
      · exact ⟨v, hv, h⟩
      · cases h
theorem cMin_ok {S : SS} {i : Nat} {c : CeS} (W : Wf S) (WV : WfV S) (C : CO S c) : CO S (cMin S i c) := by
  obtain ⟨h1, h2⟩ := cMid_ok (i := i) W C
  refine ⟨h1, h2, ?_, ?_⟩
  · have h3 := pSev_len (clk := sClock S) WV h2 5
    have h4 := cS_le (S := S) (n := 5) (cMid S i c).2.2.1 (by omega)
    simp only [cMin, cPg]
    omega
  · intro q hq
    obtain ⟨v, hv, hq⟩ := pSev_mem hq
    obtain ⟨e, h5⟩ := vPages_mem hq
    rw [e]
    exact ⟨h2 v hv, h5⟩
theorem pgSum_le {S : SS} (W : Wf S) (WV : WfV S) (WC : WfC S) : ∀ k, k ≤ (sCells S).length → pgSum S k ≤ 108 * k := by
  intro k
  induction k with
  | zero => simp [pgSum]
  | succ k ih =>
    intro hk
    have h1 := ih (by omega)
    have hc := List.getElem?_eq_getElem (show k < (sCells S).length by omega)
    have h2 := (cMin_ok (i := k) W WV (WC k _ hc)).2.2.1
    simp only [pgSum, List.getD_eq_getElem?_getD, hc, Option.getD_some]
    omega
theorem WfC_minTo {S : SS} (W : Wf S) (WV : WfV S) (WC : WfC S) : WfC (minTo S (sCells S).length) := by
  intro i c hc
  have hc : (cellsTo S (sCells S).length)[i]? = some c := hc
  have hi := (List.getElem?_eq_some_iff.mp hc).1
  rw [cellsTo_len] at hi
  rw [cellsTo_lt S _ i _ hi (List.getElem?_eq_getElem hi)] at hc
  cases hc
  exact cMin_ok W WV (WC i _ (List.getElem?_eq_getElem hi))
theorem Wf_minTo {S : SS} {k : Nat} (W : Wf S) : Wf (minTo S k) := by
  obtain ⟨w1, w2, w3, w4, w5, w6, w7, w8⟩ := W
  exact ⟨w1, w2, by show (cellsTo S k).length ≤ 8; rw [cellsTo_len]; exact w3, w4, w5, w6, w7, w8⟩
theorem Wf_minH {S : SS} {k : Nat} (W : Wf S) : Wf (minH S k) := by
  obtain ⟨w1, w2, w3, w4, w5, w6, w7, w8⟩ := W
  exact ⟨w1, w2, w3, w4, by show (hsTo S k).length ≤ 3; rw [hsTo_len]; exact w5, w6, w7, w8⟩
section MI
variable {u : Ux} {d : Nat} {A : AH} {F : Nat → Option AC} {S : SS} {ad : Nat → Nat → Nat}
set_option maxRecDepth 100000 in
set_option maxHeartbeats 4000000 in
theorem AW_minute_63 {A0 : AH} {Φ : Out → AH → Prop} (Wf : Wf S) (WV : WfV S) (WC : WfC S) {k : Nat} {c : CeS} (hc : (sCells S)[k]? = some c) (kont : ∀ A : AH, Inv F (minTo S (k + 1)) ad A ∧ A.2 = A0.2 → V (gg u) (d + 6) mm_AW_minute 14 [some (.ref (ad 0 0)), some (.int (nI (pgSum S (k + 1)))), some (.int (nI (k + 1))), none] [] A Φ) (I : Inv F (setCe (minTo S k) k (cMid S k c)) ad A) (hA : A.2 = A0.2) : V (gg u) (d + 6) mm_AW_minute 63 [some (.ref (ad 0 0)), some (.int (nI (pgSum S k))), some (.int (nI k)), some (.ref (ad 14 k))] [] A Φ := by
  have hi := (List.getElem?_eq_some_iff.mp hc).1
  have hi2 : k < (sCells (minTo S k)).length := by show k < (cellsTo S k).length; rw [cellsTo_len]; exact hi
  have hcc := getCe (c := cMid S k c) hi2
  have h0 := I.aw
  have h14 := I.cob hcc
  obtain ⟨m1, m2⟩ := cMid_ok (i := k) Wf (WC k c hc)
  have hgd : (sCells S).getD k cD = c := by simp [hc]
  have hbd := (cMin_ok (i := k) Wf WV (WC k c hc)).2.2.1
  have hsl := pgSum_le Wf WV WC k (by omega)
  have hk8 := Wf.2.2.1
  refine v_aload_n (dk cd_AW_minute 35 rfl) rfl ?_
  refine v_aload_n (dk cd_AW_minute 36 rfl) rfl ?_
  refine v_getf (dk cd_AW_minute 37 rfl) fg_AW_9_AW (by assumption) (by rfl) ?_
  refine v_callv (r := ("AreaWarnings$Cell", TT_Ce, 12)) (dk cd_AW_minute 38 rfl) cv_AW_177 rfl (by assumption) (as := [_]) rfl rfl (Nat.le_of_ble_eq_true rfl) (by simp [Value.category]) (Ce_sendPages_ok (S := setCe (minTo S k) k (cMid S k c)) Wf.2.2.2.1 WV m2 m1 I hcc) ps_no (fun v9 A9 hq => ?_)
  obtain ⟨e9, I3, hA2⟩ := hq
  cases e9
  rw [setCe2] at I3
  have I3 : Inv F (setCe (minTo S k) k (cMin S k c)) ad A9 := I3
  have h14 := I3.cob (getCe (c := cMin S k c) hi2)
  refine v_iload_n (dk cd_AW_minute 39 rfl) rfl ?_
  refine v_aload_n (dk cd_AW_minute 40 rfl) rfl ?_
  refine v_getf (dk cd_AW_minute 41 rfl) fg_AW_180_Ce (by assumption) (by rfl) ?_
  refine v_iaddN (dk cd_AW_minute 42 rfl) ?_
  refine v_istore_n (dk cd_AW_minute 43 rfl) (by decide) rfl ?_
  refine v_iincN (dk cd_AW_minute 44 rfl) rfl (by decide) rfl ?_
  refine v_goto (tgt := 14) (dk cd_AW_minute 45 rfl) rfl ?_
  refine V.drop 3 ?_
  have h9 := kont A9 ⟨by show Inv F (S.1, (cellsTo S k).set k (cMin S k ((sCells S).getD k cD)), S.2.2) ad A9; rw [hgd]; exact I3, hA2.trans hA⟩
  simp only [pgSum, hgd] at h9
  exact h9
set_option maxRecDepth 100000 in
set_option maxHeartbeats 4000000 in
theorem AW_minute_c {A0 : AH} {Φ : Out → AH → Prop} (Wf : Wf S) (WV : WfV S) (WC : WfC S) (kont : ∀ A : AH, Inv F (minTo S (sCells S).length) ad A ∧ A.2 = A0.2 → V (gg u) (d + 6) mm_AW_minute 84 [some (.ref (ad 0 0)), some (.int (nI (pgSum S (sCells S).length))), none, none] [] A Φ) : ∀ k, ∀ A : AH, k ≤ (sCells S).length ∧ Inv F (minTo S k) ad A ∧ A.2 = A0.2 → V (gg u) (d + 6) mm_AW_minute 14 [some (.ref (ad 0 0)), some (.int (nI (pgSum S k))), some (.int (nI k)), none] [] A Φ := by
  refine up_ind (sCells S).length ?_
  intro k ih A ⟨hk, I, hA⟩
  have h0 := I.aw
  have hcl : (sCells (minTo S k)).length = (sCells S).length := cellsTo_len S k
  rw [hcl] at h0
  obtain ⟨x1, h1, g1, e1, l1⟩ := I.top (κ := 1) (by omega)
  subst e1
  have hk8 := Wf.2.2.1
  refine v_iload_n (dk cd_AW_minute 10 rfl) rfl ?_
  refine v_aload_n (dk cd_AW_minute 11 rfl) rfl ?_
  refine v_getf (dk cd_AW_minute 12 rfl) fg_AW_19_AW (by assumption) (by rfl) ?_
  refine v_icmp_geN (tgt := 84) (dk cd_AW_minute 13 rfl) rfl (by omega) (by omega) (fun q19 => ?_) (fun q19 => ?_)
  · have hke : k = (sCells S).length := by omega
    subst hke
    exact V.drop 2 (kont A ⟨I, hA⟩)
  · obtain ⟨c, hc⟩ : ∃ c, (sCells S)[k]? = some c := ⟨_, List.getElem?_eq_getElem q19⟩
    have hcc : (sCells (minTo S k))[k]? = some c := (cellsTo_ge S k k (Nat.le_refl k)).trans hc
    have h14 := I.cob hcc
    have hgd : (sCells S).getD k cD = c := by simp [hc]
    refine v_aload_n (dk cd_AW_minute 14 rfl) rfl ?_
    refine v_getf (dk cd_AW_minute 15 rfl) fg_AW_15_AW (by assumption) (by rfl) ?_
    refine v_iload_n (dk cd_AW_minute 16 rfl) rfl ?_
    refine v_aaldN (j := 4) (dk cd_AW_minute 17 rfl) (by assumption) (by decide) rfl rfl (by omega) (rng_at (by rw [hcl]; exact q19)) ?_
    refine v_astore_n (dk cd_AW_minute 18 rfl) (by decide) rfl ?_
    refine v_aload_n (dk cd_AW_minute 19 rfl) rfl ?_
    refine v_getf (dk cd_AW_minute 20 rfl) fg_AW_165_Ce (by assumption) (by rfl) ?_
    refine v_ifeqB (tgt := 55) (dk cd_AW_minute 21 rfl) rfl (fun q33 => ?_) (fun q33 => ?_)
    · refine v_aload_n (dk cd_AW_minute 31 rfl) rfl ?_
      refine v_aload_n (dk cd_AW_minute 32 rfl) rfl ?_
      refine v_getf (dk cd_AW_minute 33 rfl) fg_AW_9_AW (by assumption) (by rfl) ?_
      refine v_callv (r := ("AreaWarnings$Cell", TT_Ce, 12)) (dk cd_AW_minute 34 rfl) cv_AW_173 rfl (by assumption) (as := [_]) rfl rfl (Nat.le_of_ble_eq_true rfl) (by simp [Value.category]) (Ce_dropEnded_ok (S := minTo S k) I hcc (WC k c hc).2.1 (WC k c hc).1) ps_no (fun v9 A9 hq => ?_)
      obtain ⟨e9, I3, hA2⟩ := hq
      cases e9
      have I3 : Inv F (setCe (minTo S k) k (cMid S k c)) ad A9 := by rw [show cMid S k c = cLs c (c.2.2.1.filter (goesOn S (sClock S))) c.2.1.2 from if_neg (by rw [q33]; exact Bool.false_ne_true)]; exact I3
      exact AW_minute_63 Wf WV WC hc (fun A1 ⟨I1, hA1⟩ => ih q19 A1 ⟨by omega, I1, hA1⟩) I3 (hA2.trans hA)
    · refine v_aload_n (dk cd_AW_minute 22 rfl) rfl ?_
      refine v_aload_n (dk cd_AW_minute 23 rfl) rfl ?_
      refine v_getf (dk cd_AW_minute 24 rfl) fg_AW_24_AW (by assumption) (by rfl) ?_
      refine v_aload_n (dk cd_AW_minute 25 rfl) rfl ?_
      refine v_getf (dk cd_AW_minute 26 rfl) fg_AW_28_AW (by assumption) (by rfl) ?_
      refine v_aload_n (dk cd_AW_minute 27 rfl) rfl ?_
      refine v_getf (dk cd_AW_minute 28 rfl) fg_AW_9_AW (by assumption) (by rfl) ?_
      refine v_callv (r := ("AreaWarnings$Cell", TT_Ce, 12)) (dk cd_AW_minute 29 rfl) cv_AW_169 rfl (by assumption) (as := [_, _, _]) rfl rfl (Nat.le_of_ble_eq_true rfl) (by simp [Value.category]) (Ce_makeListAnew_ok (S := minTo S k) I (Wf_minTo Wf) WV hcc (WC k c hc).2.1) ps_no (fun v9 A9 hq => ?_)
      obtain ⟨e9, I3, hA2⟩ := hq
      cases e9
      have I3 : Inv F (setCe (minTo S k) k (cMid S k c)) ad A9 := by rw [show cMid S k c = cLs c (mkList S k c (sClock S)) (!c.2.1.2) from if_pos q33]; exact I3
      refine v_goto (tgt := 63) (dk cd_AW_minute 30 rfl) rfl ?_
      exact AW_minute_63 Wf WV WC hc (fun A1 ⟨I1, hA1⟩ => ih q19 A1 ⟨by omega, I1, hA1⟩) I3 (hA2.trans hA)
theorem setHs_to {S : SS} {k : Nat} {h : HaS} (hh : (sHs S)[k]? = some h) : setHs (minH S k) k (hMin S h) = minH S (k + 1) := by
  show _ = (S.1, S.2.1, S.2.2.1, S.2.2.2.1, S.2.2.2.2.1, (hsTo S k).set k (hMin S ((sHs S).getD k hD)))
  rw [show (sHs S).getD k hD = h by simp [hh]]
  rfl
set_option maxRecDepth 100000 in
set_option maxHeartbeats 4000000 in
theorem AW_minute_h {A0 : AH} {z : Int32} (Wf : Wf S) (WV : WfV S) (WC : WfC S) (N : NumOK S) (WH : ∀ (i : Nat) (h : HaS), (sHs S)[i]? = some h → HOK S h) : ∀ k, ∀ A : AH, k ≤ (sHs S).length ∧ Inv F (minH S k) ad A ∧ A.2 = A0.2 → V (gg u) (d + 6) mm_AW_minute 86 [some (.ref (ad 0 0)), some (.int z), some (.int (nI k)), none] [] A (Ps (some (.int z)) F (minH S (sHs S).length) ad A0) := by
  refine up_ind (sHs S).length ?_
  intro k ih A ⟨hk, I, hA⟩
  have h0 := I.aw
  have hcl : (sHs (minH S k)).length = (sHs S).length := hsTo_len S k
  rw [hcl] at h0
  obtain ⟨x1, h1, g1, e1, l1⟩ := I.top (κ := 1) (by omega)
  obtain ⟨x3, h3, g3, e3, l3⟩ := I.top (κ := 3) (by omega)
  subst e1 e3
  have hk3 := Wf.2.2.2.2.1
  have hk8 := Wf.2.2.1
  refine v_iload_n (dk cd_AW_minute 48 rfl) rfl ?_
  refine v_aload_n (dk cd_AW_minute 49 rfl) rfl ?_
  refine v_getf (dk cd_AW_minute 50 rfl) fg_AW_40_AW (by assumption) (by rfl) ?_
  refine v_icmp_geN (tgt := 135) (dk cd_AW_minute 51 rfl) rfl (by omega) (by omega) (fun q91 => ?_) (fun q91 => ?_)
  · have hke : k = (sHs S).length := by omega
    subst hke
    refine v_iload_n (dk cd_AW_minute 73 rfl) rfl ?_
    exact v_iret (dk cd_AW_minute 74 rfl) rfl (ps_of I hA rfl)
  · obtain ⟨h, hh⟩ : ∃ h, (sHs S)[k]? = some h := ⟨_, List.getElem?_eq_getElem q91⟩
    have hhh : (sHs (minH S k))[k]? = some h := (hsTo_ge S k k (Nat.le_refl k)).trans hh
    have h23 := I.hob hhh
    refine v_aload_n (dk cd_AW_minute 52 rfl) rfl ?_
    refine v_getf (dk cd_AW_minute 53 rfl) fg_AW_36_AW (by assumption) (by rfl) ?_
    refine v_iload_n (dk cd_AW_minute 54 rfl) rfl ?_
    refine v_aaldN (j := 6) (dk cd_AW_minute 55 rfl) (by assumption) (by decide) rfl rfl (by omega) (rng_at (by rw [hcl]; exact q91)) ?_
    refine v_astore_n (dk cd_AW_minute 56 rfl) (by decide) rfl ?_
    refine v_aload_n (dk cd_AW_minute 57 rfl) rfl ?_
    refine v_aload_n (dk cd_AW_minute 58 rfl) rfl ?_
    refine v_getf (dk cd_AW_minute 59 rfl) fg_AW_183_Ha (by assumption) (by rfl) ?_
    refine v_rv (r := ("AreaWarnings", TT_AW, 9)) (dk cd_AW_minute 60 rfl) cv_AW_186 rfl (by assumption) (as := [_]) rfl rfl (Nat.le_of_ble_eq_true rfl) (by simp [Value.category]) (AW_isCell_ok I) ?_
    refine v_ifeqB (tgt := 129) (dk cd_AW_minute 61 rfl) rfl (fun q109 => ?_) (fun q109 => ?_)
    · refine v_iincN (dk cd_AW_minute 71 rfl) rfl (by decide) rfl ?_
      refine v_goto (tgt := 86) (dk cd_AW_minute 72 rfl) rfl ?_
      have hmi : hMin S h = h := if_neg (fun e => Bool.false_ne_true (q109.symm.trans e))
      have I3 : Inv F (setHs (minH S k) k (hMin S h)) ad A := by rw [hmi, setHs_id hhh]; exact I
      rw [setHs_to hh] at I3
      exact V.drop 3 (ih q91 A ⟨by omega, I3, hA⟩)
    · have q109 : pIx h.1.2.1 (sCells S).length = true := q109
      obtain ⟨j, hj, hpl⟩ := pIx_nat q109 (by omega)
      rw [hpl] at h23
      obtain ⟨c, hc⟩ : ∃ c, (sCells S)[j]? = some c := ⟨_, List.getElem?_eq_getElem hj⟩
      have h14 := I.cob (S := minH S k) hc
      have hca : cAt S h.1.2.1 = c := by unfold cAt; rw [hpl, nI_clamp (by omega)]; simp [hc]
      refine v_aload_n (dk cd_AW_minute 62 rfl) rfl ?_
      refine v_aload_n (dk cd_AW_minute 63 rfl) rfl ?_
      refine v_getf (dk cd_AW_minute 64 rfl) fg_AW_15_AW (by assumption) (by rfl) ?_
      refine v_aload_n (dk cd_AW_minute 65 rfl) rfl ?_
      refine v_getf (dk cd_AW_minute 66 rfl) fg_AW_183_Ha (by assumption) (by rfl) ?_
      refine v_aaldN (j := 4) (dk cd_AW_minute 67 rfl) (by assumption) (by decide) rfl rfl (by omega) (rng_at hj) ?_
      refine v_aload_n (dk cd_AW_minute 68 rfl) rfl ?_
      refine v_getf (dk cd_AW_minute 69 rfl) fg_AW_9_AW (by assumption) (by rfl) ?_
      refine v_callv (r := ("AreaWarnings$Handset", TT_Ha, 13)) (dk cd_AW_minute 70 rfl) cv_AW_189 rfl (by assumption) (as := [_, _]) rfl rfl (Nat.le_of_ble_eq_true rfl) (by simp [Value.category]) (Ha_listen_ok (S := minH S k) I (Wf_minH Wf) WV N (WH k h hh) hhh hc (fun q hq => ((WC j c hc).2.2.2 q hq).1) (WC j c hc).2.2.1) ps_no (fun v9 A9 hq => ?_)
      obtain ⟨e9, I3, hA2⟩ := hq
      cases e9
      have hmi : hMin S h = c.2.2.2.foldl (lisS S (sClock S)) h := by unfold hMin; rw [hca]; exact if_pos q109
      have I3 : Inv F (setHs (minH S k) k (hMin S h)) ad A9 := by rw [hmi]; exact I3
      rw [setHs_to hh] at I3
      refine v_iincN (dk cd_AW_minute 71 rfl) rfl (by decide) rfl ?_
      refine v_goto (tgt := 86) (dk cd_AW_minute 72 rfl) rfl ?_
      exact V.drop 3 (ih q91 _ ⟨by omega, I3, hA2.trans hA⟩)
set_option maxRecDepth 100000 in
set_option maxHeartbeats 4000000 in
theorem AW_minute_ok (I : Inv F S ad A) (Wf : Wf S) (hgl : A.2.1 + 16 ≤ gL (gg u)) (hgs : A.2.2 + 400 ≤ gS (gg u)) (WV : WfV S) (WC : WfC S) (N : NumOK S) (WH : ∀ (i : Nat) (h : HaS), (sHs S)[i]? = some h → HOK S h) : V (gg u) (d + 6) mm_AW_minute 0 [some (.ref (ad 0 0)), none, none, none] [] A (PubR F ad A (spMinute S)) := by
  have h0 := I.aw
  refine v_aload_n (dk cd_AW_minute 0 rfl) rfl ?_
  refine v_dup (dk cd_AW_minute 1 rfl) rfl ?_
  refine v_getf (dk cd_AW_minute 2 rfl) fg_AW_9_AW (by assumption) (by rfl) ?_
  refine v_iconst (v := 1) (dk cd_AW_minute 3 rfl) (by decide) ?_
  refine v_iadd (dk cd_AW_minute 4 rfl) ?_
  refine v_putf (dk cd_AW_minute 5 rfl) fp_AW_9_AW (fun h => by cases h) (by assumption) rfl rfl ?_
  refine v_iconst (v := nI 0) (dk cd_AW_minute 6 rfl) (by decide) ?_
  refine v_istore_n (dk cd_AW_minute 7 rfl) (by decide) rfl ?_
  refine v_iconst (v := nI 0) (dk cd_AW_minute 8 rfl) (by decide) ?_
  refine v_istore_n (dk cd_AW_minute 9 rfl) (by decide) rfl ?_
  refine AW_minute_c (S := setCk S (sClock S + 1)) (A0 := A) Wf WV WC (fun A1 ⟨I1, hA1⟩ => ?_) 0 _ ⟨by omega, I.updCk rfl, rfl⟩
  refine v_iconst (v := nI 0) (dk cd_AW_minute 46 rfl) (by decide) ?_
  refine v_istore_n (dk cd_AW_minute 47 rfl) (by decide) rfl ?_
  refine (AW_minute_h (S := minC S) (A0 := A1) (Wf_minTo (S := setCk S (sClock S + 1)) Wf) WV (WfC_minTo (S := setCk S (sClock S + 1)) Wf WV WC) N WH 0 A1 ⟨by omega, I1, rfl⟩).mono (fun r A' hr => ?_)
  obtain ⟨rfl, I2, h2⟩ := hr
  exact pub_ret I2 (h2.trans hA1) rfl
end MI
end
section
/-! laws of the machine that these rows need: the word on an array of arrays; what 'multianewarray' makes; a throw that is caught behind rows that it passes -/
theorem ov_arr {s : State} {args : Array Value} {t : FieldType} (h : (Cond.arrayOver (.array t)).before args s = true) :
    ∃ cI cA kA, s.vm.findClass (FieldType.array t).toString = some cI ∧ s.vm.classes[cA]? = some kA ∧ kA.kind = .array cI (.array t) ∧ s.vm.findClass ("[" ++ (FieldType.array t).toString) = some cA := by
  have h1 : (Cond.arrayOver (.array t)).holds args s none s [] = true := h
  rw [Cond.holds] at h1
  have h2 := eq_of_beq h1
  simp only [Cond.value] at h2
  obtain ⟨cI, e1, h2⟩ := Option.bind_eq_some_iff.mp h2
  obtain ⟨cA, e2, h2⟩ := Option.bind_eq_some_iff.mp h2
  obtain ⟨kA, e3, h2⟩ := Option.map_eq_some_iff.mp h2
  have e4 := (Array.findIdx?_eq_some_iff_getElem.mp e2).2.1
  rw [(Array.getElem?_eq_some_iff.mp e3).2] at e4
  rcases hq : kA.kind with _ | _ | ⟨co, ty⟩ <;> rw [hq] at e4 h2 <;> simp only [Bool.and_eq_true, decide_eq_true_eq, beq_iff_eq] at e4 h2 <;> try exact absurd h2 (by decide)
  exact ⟨cI, cA, kA, e1, e3, by rw [hq, e4, h2.1], h2.2⟩
/-- the outer array when i of its N places are laid; an inner array; the state then -/
def mnO (cA : ClassId) (N h i : Nat) : Cell := { cls := cA, slots := ((List.range N).map fun k => if k < i then Value.ref (h + 1 + k) else .null).toArray, vm := .none }
def mnI (cI : ClassId) (K : Nat) : Cell := { cls := cI, slots := Array.replicate K (.int 0), vm := .none }
def mnS (S : State) (cA cI : ClassId) (N K : Nat) : Nat → State
  | 0 => S.pushCell (mnO cA N S.heap.size 0)
  | i + 1 => ((mnS S cA cI N K i).pushCell (mnI cI K)).setCell S.heap.size (mnO cA N S.heap.size (i + 1))
theorem mnO_nil (cA : ClassId) (N h : Nat) : mnO cA N h 0 = { cls := cA, slots := Array.replicate N .null, vm := .none } := by
  unfold mnO
  congr 1
  apply Array.ext'
  rw [Array.toList_replicate]
  exact List.ext_getElem (by simp) (fun q _ _ => by simp)
theorem mnO_put (cA : ClassId) (N h i : Nat) : (mnO cA N h i).setSlot i (.ref (h + 1 + i)) = mnO cA N h (i + 1) := by
  unfold mnO
  simp only [Cell.setSlot]
  congr 1
  apply Array.ext'
  simp only [Array.toList_setIfInBounds]
  refine List.ext_getElem (by simp) (fun q q1 q2 => ?_)
  simp only [List.getElem_set, List.getElem_map, List.getElem_range]
  rcases Nat.lt_trichotomy i q with hq | hq | hq
  · rw [if_neg (by omega), if_neg (by omega), if_neg (by omega)]
  · subst hq; rw [if_pos rfl, if_pos (by omega)]
  · rw [if_neg (by omega), if_pos hq, if_pos (by omega)]
theorem mn_get (U : State) (x z : Cell) (h q : Nat) (hh : h < U.heap.size) : ((U.pushCell x).setCell h z).heap[q]? = if q = h then some z else if q = U.heap.size then some x else U.heap[q]? := by
  show ((U.heap.push x).setIfInBounds h z)[q]? = _
  rw [Array.getElem?_setIfInBounds, Array.getElem?_push, Array.size_push]
  by_cases e : h = q
  · rw [if_pos e, if_pos e.symm, if_pos (by omega)]
  · rw [if_neg e, if_neg (show ¬ q = h from fun h9 => e h9.symm)]
theorem mnS_all (S : State) (cA cI : ClassId) (N K : Nat) : ∀ i, (mnS S cA cI N K i).heap.size = S.heap.size + 1 + i ∧ (mnS S cA cI N K i).vm = S.vm ∧ (mnS S cA cI N K i).slotsUsed = S.slotsUsed + N + i * K ∧
    ∀ q : Nat, (mnS S cA cI N K i).heap[q]? = if q = S.heap.size then some (mnO cA N S.heap.size i) else if S.heap.size < q ∧ q < S.heap.size + 1 + i then some (mnI cI K) else S.heap[q]? := by
  intro i
  induction i with
  | zero =>
    refine ⟨by simp [mnS], rfl, by simp [mnS, mnO], fun q => ?_⟩
    show (S.heap.push _)[q]? = _
    rw [Array.getElem?_push]
    by_cases e : q = S.heap.size
    · rw [if_pos e, if_pos e]
    · rw [if_neg e, if_neg e, if_neg (by omega)]
  | succ i ih =>
    obtain ⟨h1, h2, h3, h4⟩ := ih
    refine ⟨?_, h2, ?_, fun q => ?_⟩
    · show ((mnS S cA cI N K i).heap.push _ |>.setIfInBounds _ _).size = _
      rw [Array.size_setIfInBounds, Array.size_push, h1]; omega
    · show (mnS S cA cI N K i).slotsUsed + (mnI cI K).slots.size = _
      rw [h3, Nat.add_mul]; simp [mnI]; omega
    · have h5 := mn_get (mnS S cA cI N K i) (mnI cI K) (mnO cA N S.heap.size (i + 1)) S.heap.size q (by omega)
      rw [h4 q, h1] at h5
      refine h5.trans ?_
      by_cases e : q = S.heap.size
      · rw [if_pos e, if_pos e]
      · rw [if_neg e, if_neg e, if_neg e]
        by_cases e2 : q = S.heap.size + 1 + i
        · rw [if_pos e2, if_pos (by omega)]
        · rw [if_neg e2]
          by_cases e3 : S.heap.size < q ∧ q < S.heap.size + 1 + i
          · rw [if_pos e3, if_pos (by omega)]
          · rw [if_neg e3, if_neg (by omega)]
theorem mnS_top (S : State) (f : JFrame) (cA cI : ClassId) (N K : Nat) : ∀ i, mnS (S.setTop f) cA cI N K i = (mnS S cA cI N K i).setTop f := by
  intro i
  induction i with
  | zero => show (S.setTop f).pushCell _ = (S.pushCell _).setTop f; rw [State.pushCell_setTop, State.heap_setTop]
  | succ i ih =>
    show ((mnS (S.setTop f) cA cI N K i).pushCell _).setCell _ _ = (((mnS S cA cI N K i).pushCell _).setCell _ _).setTop f
    rw [ih, State.pushCell_setTop, State.setCell_setTop, State.heap_setTop]
section MW
variable {E : CtlPost} {e : Env} {b : Bool} {acts : List Action} {S : State} {cA cI cc : ClassId} {kA kI : Class} {n k : Int32}
theorem mn_one {Q : Addr → Pre} (hI : S.vm.classes[cI]? = some kI) (hIk : kI.kind = .array cc .int) (hk : ¬ k < 0) (l1 : k.toNatClampNeg ≤ e.platform.arrayLengthLimit) (l2 : k.toNatClampNeg * 4 ≤ e.platform.maxHeapBytes)
    (r1 : S.heap.size < e.platform.maxCells) (r2 : S.slotsUsed + k.toNatClampNeg ≤ e.platform.maxSlots) (q : ∀ acts', Q S.heap.size b acts' (S.pushCell (mnI cI k.toNatClampNeg))) : wp (Jvm.Op.multianewarray.make cI [k]) Q E e b acts S := by
  rw [Jvm.Op.multianewarray.make]
  simp only [wp_bind', W.ite, hk, if_false, wp_pure', W.theClass, hI, hIk, Option.some.injEq, exists_eq_left']
  exact Jvm.W.newArray_of hI hIk (by omega) (by show ¬ k.toNatClampNeg * 4 > _; omega) r1 r2 rfl q
theorem mn_two {Q : Addr → Pre} (hA : S.vm.classes[cA]? = some kA) (hAk : kA.kind = .array cI (.array .int)) (hI : S.vm.classes[cI]? = some kI) (hIk : kI.kind = .array cc .int) (hn : ¬ n < 0) (hk : ¬ k < 0)
    (l1 : n.toNatClampNeg ≤ e.platform.arrayLengthLimit) (l2 : n.toNatClampNeg * 4 ≤ e.platform.maxHeapBytes) (l3 : k.toNatClampNeg ≤ e.platform.arrayLengthLimit) (l4 : k.toNatClampNeg * 4 ≤ e.platform.maxHeapBytes)
    (r1 : S.heap.size + (1 + n.toNatClampNeg) ≤ e.platform.maxCells) (r2 : S.slotsUsed + (n.toNatClampNeg + n.toNatClampNeg * k.toNatClampNeg) ≤ e.platform.maxSlots)
    (q : ∀ b' acts', Q S.heap.size b' acts' (mnS S cA cI n.toNatClampNeg k.toNatClampNeg n.toNatClampNeg)) : wp (Jvm.Op.multianewarray.make cA [n, k]) Q E e b acts S := by
  have hno : ([k].find? fun z => decide (z < 0)) = none := by simp [hk]
  rw [Jvm.Op.multianewarray.make]
  simp only [wp_bind', W.ite, hn, if_false, wp_pure', W.theClass, hA, hAk, Option.some.injEq, exists_eq_left']
  refine Jvm.W.newArray_of hA hAk (by omega) (by show ¬ n.toNatClampNeg * 4 > _; omega) (by omega) (by omega) rfl (fun acts1 => ?_)
  have e0 : S.pushCell { cls := cA, slots := Array.replicate n.toNatClampNeg .null } = mnS S cA cI n.toNatClampNeg k.toNatClampNeg 0 := by
    show _ = S.pushCell (mnO cA n.toNatClampNeg S.heap.size 0)
    rw [mnO_nil]
  rw [e0]
  simp only [hno]
  rw [ite_self, wp_bind', Std.Legacy.Range.forIn_eq_forIn_range']
  refine wp_forIn_inv (fun rest U => ∃ i, i + rest.length = n.toNatClampNeg ∧ rest = List.range' i rest.length ∧ U = mnS S cA cI n.toNatClampNeg k.toNatClampNeg i) _ _ ⟨0, by simp [Std.Legacy.Range.size], by simp [Std.Legacy.Range.size], rfl⟩ ?_ ?_
  · rintro x rest U b1 acts2 Q1 ⟨i, hi, hr, rfl⟩ hgo
    rw [List.length_cons] at hi hr
    rw [List.range'_succ] at hr
    obtain ⟨rfl, hr⟩ := List.cons.inj hr
    obtain ⟨f1, f2, f3, f4⟩ := mnS_all S cA cI n.toNatClampNeg k.toNatClampNeg x
    have hm : (x + 1) * k.toNatClampNeg ≤ n.toNatClampNeg * k.toNatClampNeg := Nat.mul_le_mul_right _ (by omega)
    rw [Nat.add_mul, Nat.one_mul] at hm
    simp only [wp_bind']
    refine mn_one (by rw [f2]; exact hI) hIk hk l3 l4 (by omega) (by omega) (fun acts3 => ?_)
    simp only [wp_bind', W.writeLoc, wp_pure']
    refine ⟨mnO cA n.toNatClampNeg S.heap.size x, ?_, by simp [mnO], by simp [mnO]; omega, ?_, hgo _ _ _ ⟨x + 1, by omega, hr, ?_⟩⟩
    · rw [State.heap_pushCell_of_lt (h := show S.heap.size < (mnS S cA cI n.toNatClampNeg k.toNatClampNeg x).heap.size by omega), f4, if_pos rfl]
    · simp [State.fitsSlot, State.slotType?, mnO, f2, hA, hAk, fits]
    · rw [f1, mnO_put]; rfl
  · rintro U b1 acts2 ⟨i, hi, -, rfl⟩
    have hi : i = n.toNatClampNeg := by simpa using hi
    subst hi
    simp only [wp_pure']
    exact q _ _
end MW
section MX
variable {p : Program} {l : Launch} {e : Env} {R : Room} {s : State} {m : MethodId} {args : Array Value} {below : List Frame} {meth : Method} {c : Code} {T : State} {locs : List Loc} {cells slots : Nat}
theorem mn_stand (X : Stand p l e R s m args below meth c T locs cells slots) (cA cI : ClassId) (N K : Nat) : ∀ i, Stand p l e R s m args below meth c (mnS T cA cI N K i) locs (cells + 1 + i) (slots + N + i * K) := by
  intro i
  induction i with
  | zero =>
    have h := X.pushed (mnO cA N T.heap.size 0)
    have e1 : (mnO cA N T.heap.size 0).slots.size = N := by simp [mnO]
    rw [e1] at h
    rw [Nat.zero_mul]
    exact h
  | succ i ih =>
    obtain ⟨f1, -, -, f4⟩ := mnS_all T cA cI N K i
    have hc : ((mnS T cA cI N K i).pushCell (mnI cI K)).heap[T.heap.size]? = some (mnO cA N T.heap.size i) := by rw [State.heap_pushCell_of_lt (h := show T.heap.size < (mnS T cA cI N K i).heap.size by omega), f4, if_pos rfl]
    have h := ((ih.pushed (mnI cI K)).stored hc i (.ref (T.heap.size + 1 + i))).dropFresh (fun x hx => by rw [List.mem_singleton.mp hx]; exact X.heapGrown)
    rw [mnO_put, show (mnI cI K).slots.size = K by simp [mnI]] at h
    rw [show slots + N + (i + 1) * K = slots + N + i * K + K by rw [Nat.add_mul, Nat.one_mul]; omega]
    exact h
theorem mn_law (X : Stand p l e R s m args below meth c T locs cells slots) (hexec : p.tables.exec = Jvm.exec) {own : String} {idx : Nat} (hown : s.vm.findClass own = some m.cls) (w1 : (Cond.classLink own idx "[[I").before args s = true)
    (w2 : (Cond.arrayOver (.array .int)).before args s = true) (w3 : (Cond.arrayClass .int).before args s = true) {f : JFrame} (hf : f.method = m) (hd : decode c.code f.pc = .ok (.multianewarray idx 2, 4)) {n k : Int32} {st : List Value}
    (hst : f.stack = .int k :: .int n :: st) (hn : ¬ n < 0) (hk : ¬ k < 0) (b1 : n.toNatClampNeg * 4 ≤ 536870912) (b2 : k.toNatClampNeg * 4 ≤ 536870912) (hc : cells + (1 + n.toNatClampNeg) ≤ R.cells)
    (hs : slots + (n.toNatClampNeg + n.toNatClampNeg * k.toNatClampNeg) ≤ R.slots) :
    ∃ (vm : Vm) (cA cI : ClassId), s.vm.findClass "[[I" = some cA ∧ s.vm.findClass "[I" = some cI ∧
      Stand p l e R s m args below meth c (mnS (T.setVm vm) cA cI n.toNatClampNeg k.toNatClampNeg n.toNatClampNeg) locs (cells + 1 + n.toNatClampNeg) (slots + n.toNatClampNeg + n.toNatClampNeg * k.toNatClampNeg) ∧
      ∀ t, Steps p.tables e below ((mnS (T.setVm vm) cA cI n.toNatClampNeg k.toNatClampNeg n.toNatClampNeg).setTop { f with pc := f.pc + 4, stack := .ref T.heap.size :: st }) t → Steps p.tables e below (T.setTop f) t := by
  subst hf
  obtain ⟨cI, cA, kA, o1, o2, o3, o4⟩ := ov_arr w2
  obtain ⟨cI', kI, cc, a1, a2, a3⟩ := Cond.arrayClass_spec w3
  cases (show some cI' = some cI from a1.symm.trans o1)
  obtain ⟨cA', k1, k2⟩ := Cond.classLink_spec hown w1 e.platform (by rw [X.admits.platform])
  cases (show some cA' = some cA from k1.symm.trans o4)
  obtain ⟨g1, g2, -⟩ := State.classEntry (e := e) X.warmed k2
  generalize T.vm.noted f.method.cls idx (.cls cA) = vm at g1 g2
  obtain ⟨jA, jA1, jA2⟩ := g2.alike.2.2 _ _ o2
  obtain ⟨jI, jI1, jI2⟩ := g2.alike.2.2 _ _ a2
  have X1 := X.noted g2
  have X2 := mn_stand X1 cA cI n.toNatClampNeg k.toNatClampNeg n.toNatClampNeg
  obtain ⟨q1, q2⟩ := X.roomAbove hc hs
  have p1 := Launch.admits_arrayLengthLimit X.admits
  have p2 := Launch.admits_maxHeapBytes X.admits
  refine ⟨vm, cA, cI, o4, o1, X2, fun t ht => ?_⟩
  jvm_step X.here [hexec, hd]
  simp only [Jvm.Op.multianewarray.sem, wp_bind', W.resolveClassAt_links (State.method?_setTop f X.here.top) g1]
  rw [W.popN, if_neg (by decide)]
  refine ⟨f, State.topJava?_setTop' (s := T.setVm vm) f X.here.top, [.int n, .int k], st, rfl, hst, ?_⟩
  simp only [List.mapM_cons, List.mapM_nil, wp_bind', wp_pure']
  have e1 : ((T.setTop f).setVm vm).setTop { f with stack := st } = (T.setVm vm).setTop { f with stack := st } := by
    show ((T.setVm vm).setTop f).setTop _ = _
    rw [State.setTop_setTop]
  rw [e1]
  refine mn_two (kA := jA) (kI := jI) (cI := cI) (cc := cc) (by rw [State.vm_setTop]; exact jA1) (by rw [jA2]; exact o3) (by rw [State.vm_setTop]; exact jI1) (by rw [jI2]; exact a3) hn hk (by rw [p1]; omega) (by rw [p2]; omega) (by rw [p1]; omega) (by rw [p2]; omega)
    (by rw [State.heap_setTop]; exact q1) (by show T.slotsUsed + _ ≤ _; exact q2) (fun b' acts' => ?_)
  rw [mnS_top]
  simp only [wp_bind', W.mark, W.pushRef, State.topJava?_setTop' _ X2.here.top, Option.some.injEq, exists_eq_left', State.setTop_setTop, State.heap_setTop]
  intro acts2
  simp [jvm, X2.here.top]
  exact ht
end MX
/-- a row that covers the place and names a class that links: the search notes the class, and takes the object or goes on -/
theorem ko_row {e : Env} {S : State} {f : JFrame} {a : Addr} {w : ExceptionTableEntry} {t : List ExceptionTableEntry} {cw : ClassId} {cell : Cell} (r : Bool) (hc : covers w f.pc = true) (h0 : w.catchType ≠ 0)
    (hl : S.vm.ClassLinks e.platform f.method.cls w.catchType cw) (hcell : S.heap[a]? = some cell) (hob : ∀ k, cell.vm ≠ .statics k) (k1 : ∃ k, S.vm.classes[cell.cls]? = some k) (k2 : ∃ k, S.vm.classes[cw]? = some k)
    (hr : S.vm.assignable cell.cls cw = r) (Q : Handler → Pre) (E : CtlPost) (b : Bool) (acts : List Action) :
    wp (findHandler.go f a (w :: t)) Q E e b acts S ↔ (if r = true then Q (.found w.handlerPc) b acts (S.setVm (S.vm.noted f.method.cls w.catchType (.cls cw))) else wp (findHandler.go f a t) Q E e b acts (S.setVm (S.vm.noted f.method.cls w.catchType (.cls cw)))) := by
  have al : S.vm.Alike (S.vm.noted f.method.cls w.catchType (.cls cw)) := (Vm.Alike.refl S.vm).noted _ _ _
  obtain ⟨x1, hx1⟩ := k1
  obtain ⟨x2, hx2⟩ := k2
  obtain ⟨z1, hz1, -⟩ := al.2.2 _ _ hx1
  obtain ⟨z2, hz2, -⟩ := al.2.2 _ _ hx2
  obtain ⟨r1, r2⟩ := (resolveClass_links e.toSetting hl).op (op := VmOp.resolveClass f.method.cls w.catchType) rfl
  rw [← al.assignable] at hr
  simp only [covers] at hc
  cases r <;> simp [findHandler.go, hc, h0, r1, r2, hcell, hob, hz1, hz2, hr, VmOp.dirties, VmOp.acts]
/-- a row that an object of class cx passes; one that takes it -/
def KoP (pl : Platform) (s : State) (cm : ClassId) (pc : Nat) (cx : ClassId) (w : ExceptionTableEntry) : Prop := covers w pc = false ∨ (w.catchType ≠ 0 ∧ ∃ cw, s.vm.ClassLinks pl cm w.catchType cw ∧ s.vm.assignable cx cw = false)
def KoC (pl : Platform) (s : State) (cm : ClassId) (pc : Nat) (cx : ClassId) (w : ExceptionTableEntry) : Prop := covers w pc = true ∧ w.catchType ≠ 0 ∧ ∃ cw, s.vm.ClassLinks pl cm w.catchType cw ∧ s.vm.assignable cx cw = true
theorem ko_search {e : Env} {s : State} {f : JFrame} {a : Addr} {cell : Cell} {z : ExceptionTableEntry} {rest : List ExceptionTableEntry} (hob : ∀ k, cell.vm ≠ .statics k) (hk : ∃ k, s.vm.classes[cell.cls]? = some k)
    (hz : KoC e.platform s f.method.cls f.pc cell.cls z) (pre : List ExceptionTableEntry) : ∀ S : State, s.WarmedH S.vm → S.heap[a]? = some cell → (∀ w ∈ pre, KoP e.platform s f.method.cls f.pc cell.cls w) →
      ∃ vm, s.WarmedH vm ∧ ∀ (Q : Handler → Pre) (E : CtlPost) (b : Bool) (acts : List Action), wp (findHandler.go f a (pre ++ z :: rest)) Q E e b acts S ↔ Q (.found z.handlerPc) b acts (S.setVm vm) := by
  have key : ∀ (w : ExceptionTableEntry) (t : List ExceptionTableEntry) (cw : ClassId) (r : Bool) (S : State), s.WarmedH S.vm → S.heap[a]? = some cell → covers w f.pc = true → w.catchType ≠ 0 → s.vm.ClassLinks e.platform f.method.cls w.catchType cw → s.vm.assignable cell.cls cw = r →
      ∃ vm, s.WarmedH vm ∧ ∀ (Q : Handler → Pre) (E : CtlPost) (b : Bool) (acts : List Action), wp (findHandler.go f a (w :: t)) Q E e b acts S ↔ (if r = true then Q (.found w.handlerPc) b acts (S.setVm vm) else wp (findHandler.go f a t) Q E e b acts (S.setVm vm)) := by
    intro w t cw r S hW hcell hcov h0 hl hr
    obtain ⟨x0, h0k⟩ := hk
    obtain ⟨y0, h0y, -⟩ := hW.alike.2.2 _ _ h0k
    obtain ⟨dk, _, _, kt, hd, _, _, _, _, hkt, _, hopen⟩ := hl.here
    obtain ⟨y1, h1y, -⟩ := hW.alike.2.2 _ _ hkt
    exact ⟨_, hW.noted hd hopen (State.rightAt_cls hl), ko_row r hcov h0 (hW.classLinks hl) hcell hob ⟨y0, h0y⟩ ⟨y1, h1y⟩ (by rw [hW.alike.assignable]; exact hr)⟩
  induction pre with
  | nil =>
    intro S hW hcell _
    obtain ⟨z1, z2, cw, z3, z4⟩ := hz
    obtain ⟨vm, v1, v2⟩ := key z rest cw true S hW hcell z1 z2 z3 z4
    exact ⟨vm, v1, fun Q E b acts => (v2 Q E b acts).trans (by rw [if_pos rfl])⟩
  | cons w t ih =>
    intro S hW hcell hp
    have hp' : ∀ w ∈ t, KoP e.platform s f.method.cls f.pc cell.cls w := fun x hx => hp x (List.mem_cons_of_mem _ hx)
    cases hc : covers w f.pc with
    | false =>
      obtain ⟨vm, v1, v2⟩ := ih S hW hcell hp'
      exact ⟨vm, v1, fun Q E b acts => (W.findHandler_go_skip hc).trans (v2 Q E b acts)⟩
    | true =>
      rcases hp w (List.mem_cons_self ..) with h | ⟨h0, cw, hl, hr⟩
      · rw [hc] at h; cases h
      · obtain ⟨vm, v1, v2⟩ := key w (t ++ z :: rest) cw false S hW hcell hc h0 hl hr
        obtain ⟨vm2, u1, u2⟩ := ih (S.setVm vm) v1 hcell hp'
        exact ⟨vm2, u1, fun Q E b acts => (v2 Q E b acts).trans (by rw [if_neg (by decide)]; exact u2 Q E b acts)⟩
theorem ko_step {e : Env} {S : State} {a : Addr} {f : JFrame} {r : List Frame} {pc : Nat} {vm : Vm} (h : ∀ (Q : Handler → Pre) (E : CtlPost) (b : Bool) (acts : List Action), wp (findHandler f a) Q E e b acts S ↔ Q (.found pc) b acts (S.setVm vm)) :
    (stepThrowing e S a (.java f :: r)).1 = (S.setVm vm).setFrames (.java { f with pc := pc, stack := [.ref a] } :: r) := by
  simp only [stepThrowing, searchFrame, vmDo]
  generalize hr : Sem.go _ e false [] S = res
  obtain ⟨as, rfl, -⟩ := Sem.eq_ok_of hr (a := Handler.found pc) (s' := S.setVm vm) (acts' := []) (by simp [h])
  rfl
section KX
variable {p : Program} {l : Launch} {e : Env} {R : Room} {s : State} {m : MethodId} {args : Array Value} {below : List Frame} {meth : Method} {c : Code} {T : State} {locs : List Loc} {cells slots : Nat}
theorem ko_caught (X : Stand p l e R s m args below meth c T locs cells slots) {f : JFrame} (hf : f.method = m) {a : Addr} {cell : Cell} (hcell : T.heap[a]? = some cell) (hob : cell.vm.isStatics = false) (hk : ∃ k, s.vm.classes[cell.cls]? = some k)
    {pre rest : List ExceptionTableEntry} {z : ExceptionTableEntry} (htab : c.exceptionTable.toList = pre ++ z :: rest) (hpre : ∀ w ∈ pre, KoP e.platform s m.cls f.pc cell.cls w) (hz : KoC e.platform s m.cls f.pc cell.cls z) :
    ∃ vm, Stand p l e R s m args below meth c (T.setVm vm) locs cells slots ∧ ∀ t, Steps p.tables e below ((T.setVm vm).setTop { f with pc := z.handlerPc, stack := [.ref a] }) t → Steps p.tables e below ((T.setTop f).pushFrame (.throwing a)) t := by
  subst hf
  have hv : ((T.setTop f).pushFrame (.throwing a)).vm = T.vm := Stand.throwing_vm T f a
  obtain ⟨vm, w1, w2⟩ := ko_search (e := e) (a := a) (rest := rest) (VmData.ne_statics_of hob) hk hz pre ((T.setTop f).pushFrame (.throwing a)) (by rw [hv]; exact X.warmed) (by rw [Stand.throwing_heap]; exact hcell) hpre
  refine ⟨vm, X.noted w1, fun t ht => ?_⟩
  obtain ⟨go, wi⟩ := X.here.throwing a
  refine Steps.head go wi ?_
  obtain ⟨g0, hfr⟩ := X.frames_eq
  have hfr' : (T.setVm vm).frames = .java g0 :: below := hfr
  rw [stepThread_throwing (frames_entered X.here.top _), ko_step (fun Q E b acts => (W.findHandler_eq (by rw [hv]; exact X.method') X.code).trans (by rw [htab]; exact w2 Q E b acts)), X.tail]
  rw [State.setTop_of_frames _ hfr'] at ht
  rw [State.pushFrame, State.setTop_of_frames _ hfr, State.setFrames_setFrames]
  show Steps p.tables e below (((T.setVm vm).setFrames _).setFrames _) t
  rw [State.setFrames_setFrames]
  exact ht
end KX
end
section
/-! an array of arrays; what a constructor makes -/
def amna (A : AH) (j0 j : Nat) (N K : Nat) (v : Value) : AH := (fun q => if q = A.2.1 then some (100 + j0, (List.range N).map fun i => .ref (A.2.1 + 1 + i)) else if A.2.1 < q ∧ q < A.2.1 + 1 + N then some (100 + j, List.replicate K v) else A.1 q, A.2.1 + 1 + N, A.2.2 + (N + N * K))
section MN
variable {g : Gx} {d : Nat} {y : MT} {pc : Nat} {L : Lo} {st : List Value} {A : AH} {Φ : Out → AH → Prop}
theorem v_mna {j0 j N K idx : Nat} {n k : Int32} (hd : decode y.2.1 pc = .ok (.multianewarray idx 2, 4)) (hj0 : j0 < 100) (hj : j < 100) (ht0 : (gT g)[j0]? = some (.array .int)) (ht : (gT g)[j]? = some .int) (hw1 : Cond.classLink y.1.cls idx "[[I" ∈ gW g) (hw2 : Cond.arrayOver (.array .int) ∈ gW g) (hw3 : Cond.arrayClass .int ∈ gW g) (hn : ¬ n < 0) (hk : ¬ k < 0) (hN : n.toNatClampNeg = N) (hK : k.toNatClampNeg = K) (hb1 : N * 4 ≤ 536870912) (hb2 : K * 4 ≤ 536870912)
    (hl : A.2.1 + 1 + N ≤ gL g) (hs : A.2.2 + (N + N * K) ≤ gS g) (h : V g d y (pc + 4) L (.ref A.2.1 :: st) (amna A j0 j N K (.int 0)) Φ) : V g d y pc L (.int k :: .int n :: st) A Φ := by
  intro p l e R s m args below meth c z C H locs cells slots ls X
  have kk := h p l e R s m args below meth c z C
  obtain ⟨hx, hb, -, -, -, hown, -, -, hT, -, -, hgl, hgs, -⟩ := C
  have hc1 := X.2.2.1
  have hz1 := X.2.2.2.1
  have hsz := X.2.1.1
  subst hN hK
  intro T hTh Xs
  obtain ⟨vm₁, cA, comp, fA, fC, X', step⟩ := mn_law Xs hx hown (hT.1 _ hw1) (hT.1 _ hw2) (hT.1 _ hw3) (f := F0 m pc ls (.int k :: .int n :: st)) rfl (by rw [hb]; exact hd) rfl hn hk hb1 hb2 (by omega) (by omega)
  have e0 : cA = gA g j0 := by
    have h1 := (hT.2.2.2.1 j0 _ ht0).2
    exact Option.some.inj (fA.symm.trans h1)
  have e1 : comp = gA g j := by
    have h1 := (hT.2.2.2.1 j _ ht).2
    exact Option.some.inj (fC.symm.trans h1)
  subst e0 e1
  have hTh2 : (T.setVm vm₁).heap = H := hTh
  obtain ⟨f1, -, -, f4⟩ := mnS_all (T.setVm vm₁) (gA g j0) (gA g j) n.toNatClampNeg k.toNatClampNeg n.toNatClampNeg
  generalize mnS (T.setVm vm₁) (gA g j0) (gA g j) n.toNatClampNeg k.toNatClampNeg n.toNatClampNeg = F at X' step f1 f4
  rw [hTh2, hsz] at f1
  simp only [hTh2, hsz] at f4
  have hHR : HR g (amna A j0 j n.toNatClampNeg k.toNatClampNeg (.int 0)) F.heap := by
    obtain ⟨r1, r2, r3, r4, r5, r6⟩ := X.2.1
    refine ⟨f1, by rw [f1]; omega, fun q hq => ?_, hl, hs, fun a x hax => ?_⟩
    · rw [f4, if_neg (by omega), if_neg (by omega)]; exact r3 q hq
    · simp only [amna] at hax
      split at hax
      · rename_i ha
        cases hax
        refine ⟨by omega, _, by rw [f4, if_pos ha], Or.inr (Or.inl ⟨by simp, by simp only; omega, ?_⟩)⟩
        simp only [mnO]
        congr 2
        · simp
        · refine List.map_congr_left (fun i hi => ?_)
          rw [if_pos (List.mem_range.mp hi)]
      · split at hax
        · rename_i ha0 ha
          cases hax
          refine ⟨by omega, _, by rw [f4, if_neg ha0, if_pos ha], Or.inr (Or.inl ⟨by simp, by simp only; omega, ?_⟩)⟩
          simp [mnI]
        · rename_i ha0 ha
          obtain ⟨p1, cb, p2, p3⟩ := r6 a x hax
          exact ⟨p1, cb, by rw [f4, if_neg ha0, if_neg ha]; exact p2, p3⟩
  obtain ⟨t, a1, b1⟩ := kk F.heap locs (cells + 1 + n.toNatClampNeg) (slots + n.toNatClampNeg + n.toNatClampNeg * k.toNatClampNeg) ls ⟨X.1, hHR, by simp only [amna]; omega, by simp only [amna]; omega, X.2.2.2.2⟩ F rfl X'
  refine ⟨t, step t ?_, b1⟩
  have e : T.heap.size = A.2.1 := by rw [hTh]; exact hsz
  rw [e]
  exact a1
end MN
end
section
/-! a call whose throw is caught in the caller's own table -/
theorem asg_refl (vm : Vm) (c : ClassId) : vm.assignable c c = true := by
  show vm.assignableAux (255 + 1) c c = true
  rw [Vm.assignableAux]
  simp
/-- a row of the table that this exception passes -/
def RwP (g : Gx) (own : String) (pc : Nat) (cn : String) (z : ExceptionTableEntry) : Prop := covers z pc = false ∨ (z.catchType ≠ 0 ∧ ∃ nm, Cond.classLink own z.catchType nm ∈ gW g ∧ Cond.not (.castable cn nm) ∈ gW g)
def RwC (g : Gx) (own : String) (pc : Nat) (cn : String) (z : ExceptionTableEntry) : Prop := covers z pc = true ∧ z.catchType ≠ 0 ∧ Cond.classLink own z.catchType cn ∈ gW g
section VK
variable {g : Gx} {d : Nat} {y : MT} {pc : Nat} {L : Lo} {st : List Value} {A : AH} {Φ Ψ : Out → AH → Prop}
set_option maxHeartbeats 4000000 in
theorem v_callvC {y' : MT} {idx np ci b : Nat} {fs as st0 : List Value} {r : vw_C} (hd : decode y.2.1 pc = .ok (.invokevirtual idx, 3)) (hw : CW (gW g) y.1.cls idx y' np ∧ Cond.instanceMethod y'.1 ∈ gW g ∧ Cond.selects r.1 y'.1 y'.1 ∈ gW g ∧ ci < 100) (hlk : Cond.methodLink y.1.cls idx y'.1 ∈ gW g) (hr : (gC g)[ci]? = some r) (hB : A.1 b = some (ci, fs)) (hs : st0 = as.reverse ++ .ref b :: st) (hnp : as.length = np) (has : (lg_sl (.ref b :: as)).length ≤ y'.2.2.1) (hst : (st.map fun v => v.category).sum ≤ 9)
    (hv : V g d y' 0 (lo0 (.ref b :: as) y'.2.2.1) [] A Ψ) (kk : ∀ v A', Ψ (.inl v) A' → V g (d + 1) y (pc + 3) L (v.toList ++ st) A' Φ)
    (kc : ∀ a A' k, Ψ (.inr a) A' → A'.1 a = some (200 + k, []) → ∃ (q : String × ClassId) (pre : List ExceptionTableEntry) (z : ExceptionTableEntry) (rest : List ExceptionTableEntry), (gE g)[k]? = some q ∧ tableOf y.2.2.2.2 = pre ++ z :: rest ∧ (∀ w ∈ pre, RwP g y.1.cls pc q.1 w) ∧ RwC g y.1.cls pc q.1 z ∧ V g (d + 1) y z.handlerPc L [.ref a] A' Φ) : V g (d + 1) y pc L st0 A Φ := by
  intro p l e R s m args below meth c z C H locs cells slots ls X T hTh Y
  have C0 := C
  obtain ⟨hx, hb, hml, -, -, hown, -, htab, hT, hfr, hlo, hgl, hgs, htr⟩ := C
  obtain ⟨hcw, w1, w2, hci⟩ := hw
  have hsz : (F0 m pc ls st0).locals.size = c.maxLocals := by rw [hml]; exact X.1.1
  obtain ⟨-, cellB, hcB, hokB⟩ := X.2.1.2.2.2.2.2 b _ hB
  obtain ⟨r', hr', hcls, hvm, -, -⟩ := hokB.obj hci
  cases hr.symm.trans hr'
  obtain ⟨-, hCA⟩ := hT.2.2.1.1 ci _ hr
  have hcB' : T.heap[b]? = some cellB := by rw [hTh]; exact hcB
  have hob : cellB.vm.isStatics = false := by rw [hvm]; rfl
  have hclB : s.vm.findClass r.1 = some cellB.cls := by rw [hcls]; exact hCA.1
  obtain ⟨mk, methM, hnamed, hmethM, hstM, habM⟩ := Cond.instanceMethod_spec (hT.1 _ w1)
  obtain ⟨methM', cM, hmethM', -, -, -, -, -, -, hsigM⟩ := Cond.code_spec hnamed (hT.1 _ hcw.2.1)
  cases hmethM.symm.trans hmethM'
  obtain ⟨c2, r2, m2, q1, q2, q3, q4, kP, hkP, hkPi⟩ := Cond.selects_spec (hT.1 _ w2)
  cases hclB.symm.trans q1
  have hy := hcw.2.2.2.2.2.1
  cases (State.methodFound?_of_named hnamed hy).symm.trans q2
  cases hnamed.symm.trans q3
  have hselP : selectMethod e.platform s.vm cellB.cls mk = .method mk := by rw [Launch.admits_selectMethod Y.admits]; exact q4
  obtain ⟨vm₁, X₁, hstep₁⟩ := Y.invokevirtual hx hown (hT.1 _ hlk) hnamed hmethM hstM hkP hkPi hy (a := b) (cell := cellB) hcB'
    (fun z h => by rw [h] at hob; cases hob) hselP hmethM habM hkP hkPi (g := F0 m pc ls st0) rfl (argsL := as) (rest := st) (hcw.len hnp _ hsigM) hs (by rw [hb]; exact hd)
  have hHR : HR g A (T.setVm vm₁).heap := by show HR g A T.heap; rw [hTh]; exact X.2.1
  obtain ⟨t, o, K, k, n, ro, A', hsteps, hend, hW, hsame, hK, hΨ, hH', hk, hn', ho⟩ := v_into (f := { F0 m pc ls st0 with stack := st }) hx hT hfr hlo hgl hgs htr X₁ hHR X.2.2.1 X.2.2.2.1 hcw.mw (X₁.named hnamed) rfl hsz (by rw [hb]; exact hd) (by
    show 2 * 0 + (st.map fun v => v.category).sum + y'.2.2.1 ≤ 29
    have := hcw.2.2.2.2.1
    omega) has hv
  have hcA := X.2.2.1
  have hsA := X.2.2.2.1
  cases ro with
  | inl v =>
    cases ho
    obtain ⟨T', X', -, -, ht⟩ := X₁.outOf (g := { F0 m pc ls st0 with stack := st }) rfl (by rw [hb]; exact hd) hend hW hsame
    have e1 : t.heap = T'.heap := by rw [ht]; rfl
    obtain ⟨t2, a2, b2⟩ := kk v A' hΨ p l e R s m args below meth c z C0 T'.heap (locs ++ K) (cells + k) (slots + n) ls ⟨X.1, by rw [← e1]; exact hH', by omega, by omega, t_lL X.2.2.2.2 hK⟩ T' rfl X'
    refine ⟨t2, hstep₁ _ fun acts => ?_, b2⟩
    rw [doInvoke_state]
    refine (hsteps []).trans ?_
    rw [ht]; exact a2
  | inr a =>
    obtain ⟨rfl, kx, hax⟩ := ho
    obtain ⟨T', X', -, -, ht⟩ := X₁.outOfThrown (g := { F0 m pc ls st0 with stack := st }) rfl hend hW hsame
    have e1 : t.heap = T'.heap := by rw [ht, Stand.throwing_heap]
    obtain ⟨q, pre, zz, rest, hq, htb, hpre, ⟨hz1, hz2, hz3⟩, hcont⟩ := kc a A' kx hΨ hax
    have hHT : HR g A' T'.heap := by rw [← e1]; exact hH'
    obtain ⟨-, cell, hcell, hok⟩ := hHT.2.2.2.2.2 a _ hax
    obtain ⟨hcvm, hccls⟩ : cell.vm = .none ∧ cell.cls = q.2 := by
      rcases hok with h | h | h
      · have := h.1; simp only [] at this; omega
      · have := h.2.1; simp only [] at this; omega
      · obtain ⟨-, h2, q', h3, h4⟩ := h
        have e9 : (gE g)[200 + kx - 200]? = some q' := h3
        rw [Nat.add_sub_cancel_left, hq] at e9
        cases e9
        exact ⟨h2, h4⟩
    have hfc : s.vm.findClass q.1 = some cell.cls := by rw [hccls]; exact hT.2.2.2.2.1 kx q hq
    have hpl : e.platform.magicAccessors = ({} : Platform).magicAccessors := by rw [Y.admits.platform]
    have hpass : ∀ w ∈ pre, KoP e.platform s m.cls pc cell.cls w := by
      intro w hw
      rcases hpre w hw with h | ⟨h0, nm, h1, h2⟩
      · exact Or.inl h
      · obtain ⟨c', hc', hcl⟩ := Cond.classLink_spec hown (hT.1 _ h1) e.platform hpl
        have hv := Cond.holds_not_iff.mp (hT.1 _ h2)
        simp only [Cond.value, hfc, hc'] at hv
        exact Or.inr ⟨h0, c', hcl, Option.some.inj hv⟩
    have hends : KoC e.platform s m.cls pc cell.cls zz := by
      obtain ⟨c', hc', hcl⟩ := Cond.classLink_spec hown (hT.1 _ hz3) e.platform hpl
      cases hfc.symm.trans hc'
      exact ⟨hz1, hz2, _, hcl, asg_refl _ _⟩
    obtain ⟨vm', XV, hst'⟩ := ko_caught X' (f := { F0 m pc ls st0 with stack := st }) rfl hcell (by rw [hcvm]; rfl) (Vm.classAt_of_findClass hfc) (by rw [htab]; exact htb) hpass hends
    obtain ⟨t2, a2, b2⟩ := hcont p l e R s m args below meth c z C0 T'.heap (locs ++ K) (cells + k) (slots + n) ls ⟨X.1, hHT, by omega, by omega, t_lL X.2.2.2.2 hK⟩ (T'.setVm vm') rfl XV
    refine ⟨t2, hstep₁ _ fun acts => ?_, b2⟩
    rw [doInvoke_state]
    refine (hsteps []).trans ?_
    rw [ht]
    exact hst' _ a2
end VK
end
