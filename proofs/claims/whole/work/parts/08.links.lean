/-! ===== links of fields and calls, by the tables ===== -/
theorem in_pos {C : String} {T : u_T} {N : Nat} (ps : List Nat) (h : u_ws C T N = ps.filterMap (fun i => lw_tbl[i]?)) (hg : (u_ws C T N).all goodWord = true) : ∀ w ∈ u_ws C T N, w ∈ GL := by
  intro w hw
  have h1 := List.all_eq_true.mp hg w hw
  rw [h] at hw
  obtain ⟨i, -, hi⟩ := List.mem_filterMap.mp hw
  exact gl_of i hi h1
theorem inX0 : ∀ w ∈ u_ws RX0 TX0 4, w ∈ GL := in_pos [191, 193, 195, 197] (by decide +kernel) (by decide +kernel)
theorem inX1 : ∀ w ∈ u_ws RX1 TX1 7, w ∈ GL := in_pos [244, 246, 248, 250, 252, 254, 256] (by decide +kernel) (by decide +kernel)
theorem inX2 : ∀ w ∈ u_ws RX2 TX2 3, w ∈ GL := in_pos [225, 227, 229] (by decide +kernel) (by decide +kernel)
theorem inX3 : ∀ w ∈ u_ws RX3 TX3 8, w ∈ GL := in_pos [292, 294, 296, 298, 300, 302, 304, 306] (by decide +kernel) (by decide +kernel)
theorem inX4 : ∀ w ∈ u_ws RX4 TX4 2, w ∈ GL := in_pos [318, 320] (by decide +kernel) (by decide +kernel)
theorem inX5 : ∀ w ∈ u_ws RX5 TX5 2, w ∈ GL := in_pos [210, 212] (by decide +kernel) (by decide +kernel)
theorem inX6 : ∀ w ∈ u_ws RX6 TX6 2, w ∈ GL := in_pos [271, 273] (by decide +kernel) (by decide +kernel)
theorem inX7 : ∀ w ∈ u_ws RX7 TX7 7, w ∈ GL := in_pos [165, 167, 169, 171, 173, 175, 177] (by decide +kernel) (by decide +kernel)
theorem inX8 : ∀ w ∈ u_ws RX8 TX8 5, w ∈ GL := in_pos [328, 330, 332, 334, 336] (by decide +kernel) (by decide +kernel)
theorem inX9 : ∀ w ∈ u_ws RX9 TX9 19, w ∈ GL := in_pos [1379, 1381, 1383, 1385, 1387, 1389, 1391, 1393, 1395, 1397, 1399, 1401, 1403, 1405, 1407, 1409, 1411, 1413, 1415] (by decide +kernel) (by decide +kernel)
theorem gs_0 : Cond.selects "SectionDesk$OrderText" ⟨"SectionDesk$OrderText", "takes", "(I)Z"⟩ ⟨"SectionDesk$OrderText", "takes", "(I)Z"⟩ ∈ GL := gl_of 0 (by decide +kernel) (by decide +kernel)
theorem gs_1 : Cond.selects "SectionDesk$OrderText" ⟨"SectionDesk$OrderText", "takesLetter", "(I)Z"⟩ ⟨"SectionDesk$OrderText", "takesLetter", "(I)Z"⟩ ∈ GL := gl_of 1 (by decide +kernel) (by decide +kernel)
theorem gs_2 : Cond.selects "SectionDesk$OrderText" ⟨"SectionDesk$OrderText", "takesSpace", "(I)Z"⟩ ⟨"SectionDesk$OrderText", "takesSpace", "(I)Z"⟩ ∈ GL := gl_of 2 (by decide +kernel) (by decide +kernel)
theorem gs_3 : Cond.selects "SectionDesk$OrderText" ⟨"SectionDesk$OrderText", "setNumber", "(III)V"⟩ ⟨"SectionDesk$OrderText", "setNumber", "(III)V"⟩ ∈ GL := gl_of 3 (by decide +kernel) (by decide +kernel)
theorem gs_4 : Cond.selects "SectionDesk$OrderText" ⟨"SectionDesk$OrderText", "takesDigit", "(I)Z"⟩ ⟨"SectionDesk$OrderText", "takesDigit", "(I)Z"⟩ ∈ GL := gl_of 4 (by decide +kernel) (by decide +kernel)
theorem gs_5 : Cond.selects "SectionDesk$OrderText" ⟨"SectionDesk$OrderText", "takesInNumber", "(I)Z"⟩ ⟨"SectionDesk$OrderText", "takesInNumber", "(I)Z"⟩ ∈ GL := gl_of 5 (by decide +kernel) (by decide +kernel)
theorem gs_6 : Cond.selects "SectionDesk" ⟨"SectionDesk", "runOrder", "(I)Z"⟩ ⟨"SectionDesk", "runOrder", "(I)Z"⟩ ∈ GL := gl_of 6 (by decide +kernel) (by decide +kernel)
theorem gs_7 : Cond.selects "SectionDesk" ⟨"SectionDesk", "orderFault", "(IIIII)I"⟩ ⟨"SectionDesk", "orderFault", "(IIIII)I"⟩ ∈ GL := gl_of 7 (by decide +kernel) (by decide +kernel)
theorem gs_8 : Cond.selects "SectionDesk$Desk" ⟨"SectionDesk$Desk", "holdsAround", "(IIZ)Z"⟩ ⟨"SectionDesk$Desk", "holdsAround", "(IIZ)Z"⟩ ∈ GL := gl_of 8 (by decide +kernel) (by decide +kernel)
theorem gs_9 : Cond.selects "SectionDesk$Desk" ⟨"SectionDesk$Desk", "sectionsOf", "(I)I"⟩ ⟨"SectionDesk$Desk", "sectionsOf", "(I)I"⟩ ∈ GL := gl_of 9 (by decide +kernel) (by decide +kernel)
theorem gs_10 : Cond.selects "SectionDesk$Desk" ⟨"SectionDesk$Desk", "isHeldAround", "(I)Z"⟩ ⟨"SectionDesk$Desk", "isHeldAround", "(I)Z"⟩ ∈ GL := gl_of 10 (by decide +kernel) (by decide +kernel)
theorem gs_11 : Cond.selects "SectionDesk$Desk" ⟨"SectionDesk$Desk", "isConflict", "(II)Z"⟩ ⟨"SectionDesk$Desk", "isConflict", "(II)Z"⟩ ∈ GL := gl_of 11 (by decide +kernel) (by decide +kernel)
theorem gs_12 : Cond.selects "SectionDesk$Queue" ⟨"SectionDesk$Queue", "setFact", "(III)V"⟩ ⟨"SectionDesk$Queue", "setFact", "(III)V"⟩ ∈ GL := gl_of 12 (by decide +kernel) (by decide +kernel)
theorem gs_13 : Cond.selects "SectionDesk$Desk" ⟨"SectionDesk$Desk", "lookAt", "(I)I"⟩ ⟨"SectionDesk$Desk", "lookAt", "(I)I"⟩ ∈ GL := gl_of 13 (by decide +kernel) (by decide +kernel)
theorem gs_14 : Cond.selects "SectionDesk$Desk" ⟨"SectionDesk$Desk", "absorbedBy", "(I)I"⟩ ⟨"SectionDesk$Desk", "absorbedBy", "(I)I"⟩ ∈ GL := gl_of 14 (by decide +kernel) (by decide +kernel)
theorem gs_15 : Cond.selects "SectionDesk$Desk" ⟨"SectionDesk$Desk", "hinderersOf", "(II)I"⟩ ⟨"SectionDesk$Desk", "hinderersOf", "(II)I"⟩ ∈ GL := gl_of 15 (by decide +kernel) (by decide +kernel)
theorem gs_16 : Cond.selects "SectionDesk$Desk" ⟨"SectionDesk$Desk", "blockersOf", "(I)I"⟩ ⟨"SectionDesk$Desk", "blockersOf", "(I)I"⟩ ∈ GL := gl_of 16 (by decide +kernel) (by decide +kernel)
theorem gs_17 : Cond.selects "SectionDesk$Desk" ⟨"SectionDesk$Desk", "startCopy", "(III)V"⟩ ⟨"SectionDesk$Desk", "startCopy", "(III)V"⟩ ∈ GL := gl_of 17 (by decide +kernel) (by decide +kernel)
theorem gs_18 : Cond.selects "SectionDesk$CheckOuts" ⟨"SectionDesk$CheckOuts", "setBase", "(III)V"⟩ ⟨"SectionDesk$CheckOuts", "setBase", "(III)V"⟩ ∈ GL := gl_of 18 (by decide +kernel) (by decide +kernel)
theorem gs_19 : Cond.selects "SectionDesk$CheckOuts" ⟨"SectionDesk$CheckOuts", "setFact", "(III)V"⟩ ⟨"SectionDesk$CheckOuts", "setFact", "(III)V"⟩ ∈ GL := gl_of 19 (by decide +kernel) (by decide +kernel)
theorem gs_20 : Cond.selects "SectionDesk$Desk" ⟨"SectionDesk$Desk", "wantPresent", "()V"⟩ ⟨"SectionDesk$Desk", "wantPresent", "()V"⟩ ∈ GL := gl_of 20 (by decide +kernel) (by decide +kernel)
theorem gs_21 : Cond.selects "SectionDesk$Desk" ⟨"SectionDesk$Desk", "wantReturned", "(II)V"⟩ ⟨"SectionDesk$Desk", "wantReturned", "(II)V"⟩ ∈ GL := gl_of 21 (by decide +kernel) (by decide +kernel)
theorem gs_22 : Cond.selects "SectionDesk$Desk" ⟨"SectionDesk$Desk", "returnedValue", "(III)I"⟩ ⟨"SectionDesk$Desk", "returnedValue", "(III)I"⟩ ∈ GL := gl_of 22 (by decide +kernel) (by decide +kernel)
theorem gs_23 : Cond.selects "SectionDesk$Desk" ⟨"SectionDesk$Desk", "want", "(II)V"⟩ ⟨"SectionDesk$Desk", "want", "(II)V"⟩ ∈ GL := gl_of 23 (by decide +kernel) (by decide +kernel)
theorem gs_24 : Cond.selects "SectionDesk$Desk" ⟨"SectionDesk$Desk", "changeToWanted", "(I)I"⟩ ⟨"SectionDesk$Desk", "changeToWanted", "(I)I"⟩ ∈ GL := gl_of 24 (by decide +kernel) (by decide +kernel)
theorem gs_25 : Cond.selects "SectionDesk$Desk" ⟨"SectionDesk$Desk", "changeCell", "(II)I"⟩ ⟨"SectionDesk$Desk", "changeCell", "(II)I"⟩ ∈ GL := gl_of 25 (by decide +kernel) (by decide +kernel)
theorem gs_26 : Cond.selects "SectionDesk$History" ⟨"SectionDesk$History", "setFact", "(III)V"⟩ ⟨"SectionDesk$History", "setFact", "(III)V"⟩ ∈ GL := gl_of 26 (by decide +kernel) (by decide +kernel)
theorem gs_27 : Cond.selects "SectionDesk$History" ⟨"SectionDesk$History", "indexOf", "(II)I"⟩ ⟨"SectionDesk$History", "indexOf", "(II)I"⟩ ∈ GL := gl_of 27 (by decide +kernel) (by decide +kernel)
theorem gs_28 : Cond.selects "SectionDesk$Desk" ⟨"SectionDesk$Desk", "ticksToExpiry", "(I)I"⟩ ⟨"SectionDesk$Desk", "ticksToExpiry", "(I)I"⟩ ∈ GL := gl_of 28 (by decide +kernel) (by decide +kernel)
theorem gs_29 : Cond.selects "SectionDesk$Desk" ⟨"SectionDesk$Desk", "countUse", "(I)V"⟩ ⟨"SectionDesk$Desk", "countUse", "(I)V"⟩ ∈ GL := gl_of 29 (by decide +kernel) (by decide +kernel)
theorem gs_30 : Cond.selects "SectionDesk$Desk" ⟨"SectionDesk$Desk", "loseExpired", "()V"⟩ ⟨"SectionDesk$Desk", "loseExpired", "()V"⟩ ∈ GL := gl_of 30 (by decide +kernel) (by decide +kernel)
theorem gs_31 : Cond.selects "SectionDesk$SavedStates" ⟨"SectionDesk$SavedStates", "dropOldest", "()V"⟩ ⟨"SectionDesk$SavedStates", "dropOldest", "()V"⟩ ∈ GL := gl_of 31 (by decide +kernel) (by decide +kernel)
theorem gs_32 : Cond.selects "SectionDesk$Tree" ⟨"SectionDesk$Tree", "hashSection", "(JI)J"⟩ ⟨"SectionDesk$Tree", "hashSection", "(JI)J"⟩ ∈ GL := gl_of 32 (by decide +kernel) (by decide +kernel)
theorem gs_33 : Cond.selects "SectionDesk$CheckOuts" ⟨"SectionDesk$CheckOuts", "hashCopy", "(JII)J"⟩ ⟨"SectionDesk$CheckOuts", "hashCopy", "(JII)J"⟩ ∈ GL := gl_of 33 (by decide +kernel) (by decide +kernel)
theorem gs_34 : Cond.selects "SectionDesk$Desk" ⟨"SectionDesk$Desk", "isCovered", "(I)Z"⟩ ⟨"SectionDesk$Desk", "isCovered", "(I)Z"⟩ ∈ GL := gl_of 34 (by decide +kernel) (by decide +kernel)
theorem gs_35 : Cond.selects "SectionDesk$Desk" ⟨"SectionDesk$Desk", "claims", "()I"⟩ ⟨"SectionDesk$Desk", "claims", "()I"⟩ ∈ GL := gl_of 35 (by decide +kernel) (by decide +kernel)
theorem gs_37 : Cond.selects "SectionDesk$Tree" ⟨"SectionDesk$Tree", "lowestFree", "()I"⟩ ⟨"SectionDesk$Tree", "lowestFree", "()I"⟩ ∈ GL := gl_of 37 (by decide +kernel) (by decide +kernel)
theorem gs_38 : Cond.selects "SectionDesk$Tree" ⟨"SectionDesk$Tree", "findOverlaps", "()V"⟩ ⟨"SectionDesk$Tree", "findOverlaps", "()V"⟩ ∈ GL := gl_of 38 (by decide +kernel) (by decide +kernel)
theorem gs_39 : Cond.selects "SectionDesk$Desk" ⟨"SectionDesk$Desk", "isTouched", "(I)Z"⟩ ⟨"SectionDesk$Desk", "isTouched", "(I)Z"⟩ ∈ GL := gl_of 39 (by decide +kernel) (by decide +kernel)
theorem gs_41 : Cond.selects "SectionDesk$Outline" ⟨"SectionDesk$Outline", "put", "(I)V"⟩ ⟨"SectionDesk$Outline", "put", "(I)V"⟩ ∈ GL := gl_of 41 (by decide +kernel) (by decide +kernel)
theorem gs_42 : Cond.selects "SectionDeskModel" ⟨"SectionDeskModel", "refused", "(I)Z"⟩ ⟨"SectionDeskModel", "refused", "(I)Z"⟩ ∈ GL := gl_of 42 (by decide +kernel) (by decide +kernel)
theorem gs_43 : Cond.selects "SectionDeskModel" ⟨"SectionDeskModel", "isSection", "(I)Z"⟩ ⟨"SectionDeskModel", "isSection", "(I)Z"⟩ ∈ GL := gl_of 43 (by decide +kernel) (by decide +kernel)
theorem gs_44 : Cond.selects "SectionDeskModel" ⟨"SectionDeskModel", "many", "()I"⟩ ⟨"SectionDeskModel", "many", "()I"⟩ ∈ GL := gl_of 44 (by decide +kernel) (by decide +kernel)
theorem gs_45 : Cond.selects "SectionDeskModel" ⟨"SectionDeskModel", "isCovered", "(I)Z"⟩ ⟨"SectionDeskModel", "isCovered", "(I)Z"⟩ ∈ GL := gl_of 45 (by decide +kernel) (by decide +kernel)
theorem gs_46 : Cond.selects "SectionDeskModel" ⟨"SectionDeskModel", "isCheck", "(I)Z"⟩ ⟨"SectionDeskModel", "isCheck", "(I)Z"⟩ ∈ GL := gl_of 46 (by decide +kernel) (by decide +kernel)
theorem gs_47 : Cond.selects "SectionDeskModel" ⟨"SectionDeskModel", "get", "(II)I"⟩ ⟨"SectionDeskModel", "get", "(II)I"⟩ ∈ GL := gl_of 47 (by decide +kernel) (by decide +kernel)
theorem gs_48 : Cond.selects "SectionDeskModel" ⟨"SectionDeskModel", "isIn", "(II)Z"⟩ ⟨"SectionDeskModel", "isIn", "(II)Z"⟩ ∈ GL := gl_of 48 (by decide +kernel) (by decide +kernel)
theorem gs_49 : Cond.selects "SectionDeskModel" ⟨"SectionDeskModel", "waits", "()I"⟩ ⟨"SectionDeskModel", "waits", "()I"⟩ ∈ GL := gl_of 49 (by decide +kernel) (by decide +kernel)
theorem gs_50 : Cond.selects "SectionDeskModel" ⟨"SectionDeskModel", "saves", "()V"⟩ ⟨"SectionDeskModel", "saves", "()V"⟩ ∈ GL := gl_of 50 (by decide +kernel) (by decide +kernel)
theorem gs_51 : Cond.selects "SectionDeskModel" ⟨"SectionDeskModel", "isTouched", "(I)Z"⟩ ⟨"SectionDeskModel", "isTouched", "(I)Z"⟩ ∈ GL := gl_of 51 (by decide +kernel) (by decide +kernel)
theorem gs_52 : Cond.selects "SectionDeskModel" ⟨"SectionDeskModel", "isWaitedFor", "(I)Z"⟩ ⟨"SectionDeskModel", "isWaitedFor", "(I)Z"⟩ ∈ GL := gl_of 52 (by decide +kernel) (by decide +kernel)
theorem gs_53 : Cond.selects "SectionDeskModel" ⟨"SectionDeskModel", "overlap", "(II)Z"⟩ ⟨"SectionDeskModel", "overlap", "(II)Z"⟩ ∈ GL := gl_of 53 (by decide +kernel) (by decide +kernel)
theorem gs_54 : Cond.selects "SectionDeskModel" ⟨"SectionDeskModel", "below", "(I)I"⟩ ⟨"SectionDeskModel", "below", "(I)I"⟩ ∈ GL := gl_of 54 (by decide +kernel) (by decide +kernel)
theorem gs_55 : Cond.selects "SectionDeskModel" ⟨"SectionDeskModel", "depth", "(I)I"⟩ ⟨"SectionDeskModel", "depth", "(I)I"⟩ ∈ GL := gl_of 55 (by decide +kernel) (by decide +kernel)
theorem gs_56 : Cond.selects "SectionDeskModel" ⟨"SectionDeskModel", "tellSection", "(II)I"⟩ ⟨"SectionDeskModel", "tellSection", "(II)I"⟩ ∈ GL := gl_of 56 (by decide +kernel) (by decide +kernel)
theorem gs_57 : Cond.selects "SectionDeskModel" ⟨"SectionDeskModel", "childMany", "(I)I"⟩ ⟨"SectionDeskModel", "childMany", "(I)I"⟩ ∈ GL := gl_of 57 (by decide +kernel) (by decide +kernel)
theorem gs_58 : Cond.selects "SectionDeskModel" ⟨"SectionDeskModel", "isChild", "(II)Z"⟩ ⟨"SectionDeskModel", "isChild", "(II)Z"⟩ ∈ GL := gl_of 58 (by decide +kernel) (by decide +kernel)
theorem gs_59 : Cond.selects "SectionDeskModel" ⟨"SectionDeskModel", "childAt", "(II)I"⟩ ⟨"SectionDeskModel", "childAt", "(II)I"⟩ ∈ GL := gl_of 59 (by decide +kernel) (by decide +kernel)
theorem gs_60 : Cond.selects "SectionDeskModel" ⟨"SectionDeskModel", "isLine", "(II)Z"⟩ ⟨"SectionDeskModel", "isLine", "(II)Z"⟩ ∈ GL := gl_of 60 (by decide +kernel) (by decide +kernel)
theorem gs_61 : Cond.selects "SectionDeskModel" ⟨"SectionDeskModel", "holdersOf", "(I)I"⟩ ⟨"SectionDeskModel", "holdersOf", "(I)I"⟩ ∈ GL := gl_of 61 (by decide +kernel) (by decide +kernel)
theorem gs_62 : Cond.selects "SectionDeskModel" ⟨"SectionDeskModel", "isHeld", "(I)Z"⟩ ⟨"SectionDeskModel", "isHeld", "(I)Z"⟩ ∈ GL := gl_of 62 (by decide +kernel) (by decide +kernel)
theorem gs_63 : Cond.selects "SectionDeskModel" ⟨"SectionDeskModel", "laysThen", "()V"⟩ ⟨"SectionDeskModel", "laysThen", "()V"⟩ ∈ GL := gl_of 63 (by decide +kernel) (by decide +kernel)
theorem gs_64 : Cond.selects "SectionDeskModel" ⟨"SectionDeskModel", "becomes", "(I)I"⟩ ⟨"SectionDeskModel", "becomes", "(I)I"⟩ ∈ GL := gl_of 64 (by decide +kernel) (by decide +kernel)
theorem gs_65 : Cond.selects "SectionDeskModel" ⟨"SectionDeskModel", "enters", "(IIIII)V"⟩ ⟨"SectionDeskModel", "enters", "(IIIII)V"⟩ ∈ GL := gl_of 65 (by decide +kernel) (by decide +kernel)
theorem gs_66 : Cond.selects "SectionDeskModel" ⟨"SectionDeskModel", "barRequest", "(IIII)I"⟩ ⟨"SectionDeskModel", "barRequest", "(IIII)I"⟩ ∈ GL := gl_of 66 (by decide +kernel) (by decide +kernel)
theorem gs_67 : Cond.selects "SectionDeskModel" ⟨"SectionDeskModel", "placeOf", "(I)I"⟩ ⟨"SectionDeskModel", "placeOf", "(I)I"⟩ ∈ GL := gl_of 67 (by decide +kernel) (by decide +kernel)
theorem gs_68 : Cond.selects "SectionDeskModel" ⟨"SectionDeskModel", "requests", "(IIII)I"⟩ ⟨"SectionDeskModel", "requests", "(IIII)I"⟩ ∈ GL := gl_of 68 (by decide +kernel) (by decide +kernel)
theorem gs_69 : Cond.selects "SectionDeskModel" ⟨"SectionDeskModel", "canGrant", "(III)Z"⟩ ⟨"SectionDeskModel", "canGrant", "(III)Z"⟩ ∈ GL := gl_of 69 (by decide +kernel) (by decide +kernel)
theorem gs_70 : Cond.selects "SectionDeskModel" ⟨"SectionDeskModel", "bars", "(IIII)Z"⟩ ⟨"SectionDeskModel", "bars", "(IIII)Z"⟩ ∈ GL := gl_of 70 (by decide +kernel) (by decide +kernel)
theorem gs_71 : Cond.selects "SectionDeskModel" ⟨"SectionDeskModel", "absorbs", "(IIII)Z"⟩ ⟨"SectionDeskModel", "absorbs", "(IIII)Z"⟩ ∈ GL := gl_of 71 (by decide +kernel) (by decide +kernel)
theorem gs_72 : Cond.selects "SectionDeskModel" ⟨"SectionDeskModel", "isBlockedAhead", "(III)Z"⟩ ⟨"SectionDeskModel", "isBlockedAhead", "(III)Z"⟩ ∈ GL := gl_of 72 (by decide +kernel) (by decide +kernel)
theorem gs_73 : Cond.selects "SectionDeskModel" ⟨"SectionDeskModel", "isBlocked", "(III)Z"⟩ ⟨"SectionDeskModel", "isBlocked", "(III)Z"⟩ ∈ GL := gl_of 73 (by decide +kernel) (by decide +kernel)
theorem gs_74 : Cond.selects "SectionDeskModel" ⟨"SectionDeskModel", "grants", "(IIII)I"⟩ ⟨"SectionDeskModel", "grants", "(IIII)I"⟩ ∈ GL := gl_of 74 (by decide +kernel) (by decide +kernel)
theorem gs_75 : Cond.selects "SectionDeskModel" ⟨"SectionDeskModel", "takesOver", "(I)V"⟩ ⟨"SectionDeskModel", "takesOver", "(I)V"⟩ ∈ GL := gl_of 75 (by decide +kernel) (by decide +kernel)
theorem gs_76 : Cond.selects "SectionDeskModel" ⟨"SectionDeskModel", "leavesLine", "(I)V"⟩ ⟨"SectionDeskModel", "leavesLine", "(I)V"⟩ ∈ GL := gl_of 76 (by decide +kernel) (by decide +kernel)
theorem gs_77 : Cond.selects "SectionDeskModel" ⟨"SectionDeskModel", "serves", "()V"⟩ ⟨"SectionDeskModel", "serves", "()V"⟩ ∈ GL := gl_of 77 (by decide +kernel) (by decide +kernel)
theorem gs_78 : Cond.selects "SectionDeskModel" ⟨"SectionDeskModel", "barBreak", "(I)I"⟩ ⟨"SectionDeskModel", "barBreak", "(I)I"⟩ ∈ GL := gl_of 78 (by decide +kernel) (by decide +kernel)
theorem gs_79 : Cond.selects "SectionDeskModel" ⟨"SectionDeskModel", "breaks", "(I)I"⟩ ⟨"SectionDeskModel", "breaks", "(I)I"⟩ ∈ GL := gl_of 79 (by decide +kernel) (by decide +kernel)
theorem gs_80 : Cond.selects "SectionDeskModel" ⟨"SectionDeskModel", "loses", "(I)V"⟩ ⟨"SectionDeskModel", "loses", "(I)V"⟩ ∈ GL := gl_of 80 (by decide +kernel) (by decide +kernel)
theorem gs_81 : Cond.selects "SectionDeskModel" ⟨"SectionDeskModel", "discards", "(I)I"⟩ ⟨"SectionDeskModel", "discards", "(I)I"⟩ ∈ GL := gl_of 81 (by decide +kernel) (by decide +kernel)
theorem gs_82 : Cond.selects "SectionDeskModel" ⟨"SectionDeskModel", "edited", "(I)I"⟩ ⟨"SectionDeskModel", "edited", "(I)I"⟩ ∈ GL := gl_of 82 (by decide +kernel) (by decide +kernel)
theorem gs_83 : Cond.selects "SectionDeskModel" ⟨"SectionDeskModel", "barEdit", "(IIII)I"⟩ ⟨"SectionDeskModel", "barEdit", "(IIII)I"⟩ ∈ GL := gl_of 83 (by decide +kernel) (by decide +kernel)
theorem gs_84 : Cond.selects "SectionDeskModel" ⟨"SectionDeskModel", "isCopied", "(III)Z"⟩ ⟨"SectionDeskModel", "isCopied", "(III)Z"⟩ ∈ GL := gl_of 84 (by decide +kernel) (by decide +kernel)
theorem gs_85 : Cond.selects "SectionDeskModel" ⟨"SectionDeskModel", "edits", "(IIII)I"⟩ ⟨"SectionDeskModel", "edits", "(IIII)I"⟩ ∈ GL := gl_of 85 (by decide +kernel) (by decide +kernel)
theorem gs_86 : Cond.selects "SectionDeskModel" ⟨"SectionDeskModel", "merges", "(II)I"⟩ ⟨"SectionDeskModel", "merges", "(II)I"⟩ ∈ GL := gl_of 86 (by decide +kernel) (by decide +kernel)
theorem gs_87 : Cond.selects "SectionDeskModel" ⟨"SectionDeskModel", "barGive", "(II)I"⟩ ⟨"SectionDeskModel", "barGive", "(II)I"⟩ ∈ GL := gl_of 87 (by decide +kernel) (by decide +kernel)
theorem gs_88 : Cond.selects "SectionDeskModel" ⟨"SectionDeskModel", "isHeldAround", "(I)Z"⟩ ⟨"SectionDeskModel", "isHeldAround", "(I)Z"⟩ ∈ GL := gl_of 88 (by decide +kernel) (by decide +kernel)
theorem gs_89 : Cond.selects "SectionDeskModel" ⟨"SectionDeskModel", "gives", "(II)I"⟩ ⟨"SectionDeskModel", "gives", "(II)I"⟩ ∈ GL := gl_of 89 (by decide +kernel) (by decide +kernel)
theorem gs_90 : Cond.selects "SectionDeskModel" ⟨"SectionDeskModel", "tellCheck", "(II)I"⟩ ⟨"SectionDeskModel", "tellCheck", "(II)I"⟩ ∈ GL := gl_of 90 (by decide +kernel) (by decide +kernel)
theorem gs_91 : Cond.selects "SectionDeskModel" ⟨"SectionDeskModel", "laysAside", "()V"⟩ ⟨"SectionDeskModel", "laysAside", "()V"⟩ ∈ GL := gl_of 91 (by decide +kernel) (by decide +kernel)
theorem gs_92 : Cond.selects "SectionDeskModel" ⟨"SectionDeskModel", "takesBack", "()V"⟩ ⟨"SectionDeskModel", "takesBack", "()V"⟩ ∈ GL := gl_of 92 (by decide +kernel) (by decide +kernel)
theorem gs_93 : Cond.selects "SectionDeskModel" ⟨"SectionDeskModel", "tickOn", "()V"⟩ ⟨"SectionDeskModel", "tickOn", "()V"⟩ ∈ GL := gl_of 93 (by decide +kernel) (by decide +kernel)
theorem gs_94 : Cond.selects "SectionDeskModel" ⟨"SectionDeskModel", "isTick", "(I)Z"⟩ ⟨"SectionDeskModel", "isTick", "(I)Z"⟩ ∈ GL := gl_of 94 (by decide +kernel) (by decide +kernel)
theorem gs_95 : Cond.selects "SectionDeskModel" ⟨"SectionDeskModel", "was", "(III)I"⟩ ⟨"SectionDeskModel", "was", "(III)I"⟩ ∈ GL := gl_of 95 (by decide +kernel) (by decide +kernel)
theorem gs_96 : Cond.selects "SectionDeskModel" ⟨"SectionDeskModel", "passes", "(I)I"⟩ ⟨"SectionDeskModel", "passes", "(I)I"⟩ ∈ GL := gl_of 96 (by decide +kernel) (by decide +kernel)
theorem gs_97 : Cond.selects "SectionDeskModel" ⟨"SectionDeskModel", "reads", "()Z"⟩ ⟨"SectionDeskModel", "reads", "()Z"⟩ ∈ GL := gl_of 97 (by decide +kernel) (by decide +kernel)
theorem gs_98 : Cond.selects "SectionDeskModel" ⟨"SectionDeskModel", "readsOrder", "()Z"⟩ ⟨"SectionDeskModel", "readsOrder", "()Z"⟩ ∈ GL := gl_of 98 (by decide +kernel) (by decide +kernel)
theorem gs_99 : Cond.selects "SectionDeskModel" ⟨"SectionDeskModel", "readsNumber", "(I)Z"⟩ ⟨"SectionDeskModel", "readsNumber", "(I)Z"⟩ ∈ GL := gl_of 99 (by decide +kernel) (by decide +kernel)
theorem gs_100 : Cond.selects "SectionDeskModel" ⟨"SectionDeskModel", "isAt", "(II)Z"⟩ ⟨"SectionDeskModel", "isAt", "(II)Z"⟩ ∈ GL := gl_of 100 (by decide +kernel) (by decide +kernel)
theorem gs_101 : Cond.selects "SectionDeskModel" ⟨"SectionDeskModel", "doesOrder", "(I)Z"⟩ ⟨"SectionDeskModel", "doesOrder", "(I)Z"⟩ ∈ GL := gl_of 101 (by decide +kernel) (by decide +kernel)
theorem gs_102 : Cond.selects "SectionDeskModel" ⟨"SectionDeskModel", "outlines", "()V"⟩ ⟨"SectionDeskModel", "outlines", "()V"⟩ ∈ GL := gl_of 102 (by decide +kernel) (by decide +kernel)
theorem gs_103 : Cond.selects "SectionDeskModel" ⟨"SectionDeskModel", "putsNumber", "(I)V"⟩ ⟨"SectionDeskModel", "putsNumber", "(I)V"⟩ ∈ GL := gl_of 103 (by decide +kernel) (by decide +kernel)
theorem gs_104 : Cond.selects "SectionDeskModel" ⟨"SectionDeskModel", "puts", "(I)V"⟩ ⟨"SectionDeskModel", "puts", "(I)V"⟩ ∈ GL := gl_of 104 (by decide +kernel) (by decide +kernel)
theorem gs_105 : Cond.selects "SectionDeskModel" ⟨"SectionDeskModel", "mix", "(I)V"⟩ ⟨"SectionDeskModel", "mix", "(I)V"⟩ ∈ GL := gl_of 105 (by decide +kernel) (by decide +kernel)
theorem gs_106 : Cond.selects "SectionDeskModel" ⟨"SectionDeskModel", "mixSection", "(I)V"⟩ ⟨"SectionDeskModel", "mixSection", "(I)V"⟩ ∈ GL := gl_of 106 (by decide +kernel) (by decide +kernel)
theorem gs_107 : Cond.selects "SectionDeskModel" ⟨"SectionDeskModel", "mixAll", "(II)V"⟩ ⟨"SectionDeskModel", "mixAll", "(II)V"⟩ ∈ GL := gl_of 107 (by decide +kernel) (by decide +kernel)
theorem gs_108 : Cond.selects "SectionDeskModel" ⟨"SectionDeskModel", "mixCheck", "(I)V"⟩ ⟨"SectionDeskModel", "mixCheck", "(I)V"⟩ ∈ GL := gl_of 108 (by decide +kernel) (by decide +kernel)
theorem gw_1 : (Cond.initialized "SectionDesk") ∈ GL := gl_of 110 (by decide +kernel) (by decide +kernel)
theorem gw_2 : (Cond.initialized "SectionDesk$Desk") ∈ GL := gl_of 111 (by decide +kernel) (by decide +kernel)
theorem gw_3 : (Cond.initialized "SectionDesk$Tree") ∈ GL := gl_of 112 (by decide +kernel) (by decide +kernel)
theorem gw_4 : (Cond.initialized "java/util/Arrays") ∈ GL := gl_of 113 (by decide +kernel) (by decide +kernel)
theorem gw_5 : (Cond.initialized "SectionDesk$CheckOuts") ∈ GL := gl_of 114 (by decide +kernel) (by decide +kernel)
theorem gw_6 : (Cond.initialized "SectionDesk$Queue") ∈ GL := gl_of 115 (by decide +kernel) (by decide +kernel)
theorem gw_7 : (Cond.initialized "SectionDesk$History") ∈ GL := gl_of 116 (by decide +kernel) (by decide +kernel)
theorem gw_8 : (Cond.initialized "SectionDesk$SavedStates") ∈ GL := gl_of 117 (by decide +kernel) (by decide +kernel)
theorem gw_9 : (Cond.initialized "SectionDesk$OrderText") ∈ GL := gl_of 118 (by decide +kernel) (by decide +kernel)
theorem gw_10 : (Cond.initialized "SectionDesk$Outline") ∈ GL := gl_of 119 (by decide +kernel) (by decide +kernel)
theorem gw_11 : (Cond.initialized "SectionDeskModel") ∈ GL := gl_of 120 (by decide +kernel) (by decide +kernel)
theorem gw_18 : (Cond.initialized "java/lang/Math") ∈ GL := gl_of 127 (by decide +kernel) (by decide +kernel)
theorem gw_19 : (Cond.initialized "java/lang/System") ∈ GL := gl_of 128 (by decide +kernel) (by decide +kernel)
theorem gw_21 : (Cond.initialized "java/lang/Integer") ∈ GL := gl_of 130 (by decide +kernel) (by decide +kernel)
theorem gw_22 : (Cond.initialized "java/lang/Float") ∈ GL := gl_of 131 (by decide +kernel) (by decide +kernel)
theorem gw_43 : (Cond.methodLink "SectionDesk$Tree" (30 : Nat) ({ cls := "java/util/Arrays", name := "fill", desc := "([II)V" } : MethodName)) ∈ GL := gl_of 152 (by decide +kernel) (by decide +kernel)
theorem gw_44 : (Cond.static ({ cls := "java/util/Arrays", name := "fill", desc := "([II)V" } : MethodName)) ∈ GL := gl_of 153 (by decide +kernel) (by decide +kernel)
theorem gw_45 : (Cond.code ({ cls := "java/util/Arrays", name := "fill", desc := "([II)V" } : MethodName) prog_24_method_103_code (4 : Nat) (Option.none : Option FieldType)) ∈ GL := gl_of 154 (by decide +kernel) (by decide +kernel)
theorem gw_46 : (Cond.fieldLink "SectionDesk$Tree" (9 : Nat) "SectionDesk$Tree" "parents" "[I") ∈ GL := gl_of 155 (by decide +kernel) (by decide +kernel)
theorem gw_47 : (Cond.fieldLink "SectionDesk$Tree" (15 : Nat) "SectionDesk$Tree" "sequence" "[I") ∈ GL := gl_of 156 (by decide +kernel) (by decide +kernel)
theorem gw_48 : (Cond.fieldLink "SectionDesk$Tree" (18 : Nat) "SectionDesk$Tree" "versions" "[I") ∈ GL := gl_of 157 (by decide +kernel) (by decide +kernel)
theorem gw_49 : (Cond.fieldLink "SectionDesk$Tree" (21 : Nat) "SectionDesk$Tree" "values" "[I") ∈ GL := gl_of 158 (by decide +kernel) (by decide +kernel)
theorem gw_51 : (Cond.fieldLink "SectionDesk$Tree" (24 : Nat) "SectionDesk$Tree" "subtrees" "[I") ∈ GL := gl_of 160 (by decide +kernel) (by decide +kernel)
theorem gw_52 : (Cond.fieldLink "SectionDesk$Tree" (27 : Nat) "SectionDesk$Tree" "lineages" "[I") ∈ GL := gl_of 161 (by decide +kernel) (by decide +kernel)
theorem gw_53 : (Cond.fieldLink "SectionDesk$Tree" (36 : Nat) "SectionDesk$Tree" "size" "I") ∈ GL := gl_of 162 (by decide +kernel) (by decide +kernel)
theorem gw_78 : (Cond.fieldLink "SectionDesk$CheckOuts" (11 : Nat) "SectionDesk$CheckOuts" "facts" "[I") ∈ GL := gl_of 187 (by decide +kernel) (by decide +kernel)
theorem gw_79 : (Cond.fieldLink "SectionDesk$CheckOuts" (15 : Nat) "SectionDesk$CheckOuts" "bases" "[I") ∈ GL := gl_of 188 (by decide +kernel) (by decide +kernel)
theorem gw_80 : (Cond.fieldLink "SectionDesk$CheckOuts" (18 : Nat) "SectionDesk$CheckOuts" "owns" "[I") ∈ GL := gl_of 189 (by decide +kernel) (by decide +kernel)
theorem gw_81 : (Cond.fieldLink "SectionDesk$CheckOuts" (25 : Nat) "SectionDesk$CheckOuts" "used" "I") ∈ GL := gl_of 190 (by decide +kernel) (by decide +kernel)
theorem gw_97 : (Cond.fieldLink "SectionDesk$Queue" (11 : Nat) "SectionDesk$Queue" "facts" "[I") ∈ GL := gl_of 206 (by decide +kernel) (by decide +kernel)
theorem gw_98 : (Cond.fieldLink "SectionDesk$Queue" (19 : Nat) "SectionDesk$Queue" "count" "I") ∈ GL := gl_of 207 (by decide +kernel) (by decide +kernel)
theorem gw_112 : (Cond.fieldLink "SectionDesk$History" (11 : Nat) "SectionDesk$History" "facts" "[I") ∈ GL := gl_of 221 (by decide +kernel) (by decide +kernel)
theorem gw_113 : (Cond.fieldLink "SectionDesk$History" (19 : Nat) "SectionDesk$History" "first" "I") ∈ GL := gl_of 222 (by decide +kernel) (by decide +kernel)
theorem gw_114 : (Cond.fieldLink "SectionDesk$History" (23 : Nat) "SectionDesk$History" "count" "I") ∈ GL := gl_of 223 (by decide +kernel) (by decide +kernel)
theorem gw_123 : (Cond.fieldLink "SectionDesk$Desk" (12 : Nat) "SectionDesk$Desk" "tree" "LSectionDesk$Tree;") ∈ GL := gl_of 232 (by decide +kernel) (by decide +kernel)
theorem gw_125 : (Cond.fieldLink "SectionDesk$Desk" (21 : Nat) "SectionDesk$Desk" "outs" "LSectionDesk$CheckOuts;") ∈ GL := gl_of 234 (by decide +kernel) (by decide +kernel)
theorem gw_127 : (Cond.fieldLink "SectionDesk$Desk" (28 : Nat) "SectionDesk$Desk" "queue" "LSectionDesk$Queue;") ∈ GL := gl_of 236 (by decide +kernel) (by decide +kernel)
theorem gw_129 : (Cond.fieldLink "SectionDesk$Desk" (35 : Nat) "SectionDesk$Desk" "history" "LSectionDesk$History;") ∈ GL := gl_of 238 (by decide +kernel) (by decide +kernel)
theorem gw_131 : (Cond.fieldLink "SectionDesk$Desk" (39 : Nat) "SectionDesk$Desk" "heldTicks" "[I") ∈ GL := gl_of 240 (by decide +kernel) (by decide +kernel)
theorem gw_132 : (Cond.fieldLink "SectionDesk$Desk" (43 : Nat) "SectionDesk$Desk" "wanted" "[I") ∈ GL := gl_of 241 (by decide +kernel) (by decide +kernel)
theorem gw_133 : (Cond.fieldLink "SectionDesk$Desk" (63 : Nat) "SectionDesk$Desk" "tick" "I") ∈ GL := gl_of 242 (by decide +kernel) (by decide +kernel)
theorem gw_159 : (Cond.fieldLink "SectionDesk$SavedStates" (11 : Nat) "SectionDesk$SavedStates" "states" "[LSectionDesk$Desk;") ∈ GL := gl_of 268 (by decide +kernel) (by decide +kernel)
theorem gw_160 : (Cond.fieldLink "SectionDesk$SavedStates" (18 : Nat) "SectionDesk$SavedStates" "count" "I") ∈ GL := gl_of 269 (by decide +kernel) (by decide +kernel)
theorem gw_173 : (Cond.fieldLink "SectionDesk$OrderText" (9 : Nat) "SectionDesk$OrderText" "bytes" "[I") ∈ GL := gl_of 282 (by decide +kernel) (by decide +kernel)
theorem gw_174 : (Cond.fieldLink "SectionDesk$OrderText" (21 : Nat) "SectionDesk$OrderText" "length" "I") ∈ GL := gl_of 283 (by decide +kernel) (by decide +kernel)
theorem gw_176 : (Cond.fieldLink "SectionDesk$OrderText" (15 : Nat) "SectionDesk$OrderText" "letters" "[I") ∈ GL := gl_of 285 (by decide +kernel) (by decide +kernel)
theorem gw_177 : (Cond.fieldLink "SectionDesk$OrderText" (18 : Nat) "SectionDesk$OrderText" "numbers" "[I") ∈ GL := gl_of 286 (by decide +kernel) (by decide +kernel)
theorem gw_178 : (Cond.fieldLink "SectionDesk$OrderText" (29 : Nat) "SectionDesk$OrderText" "orders" "I") ∈ GL := gl_of 287 (by decide +kernel) (by decide +kernel)
theorem gw_180 : (Cond.fieldLink "SectionDesk$OrderText" (32 : Nat) "SectionDesk$OrderText" "state" "I") ∈ GL := gl_of 289 (by decide +kernel) (by decide +kernel)
theorem gw_181 : (Cond.fieldLink "SectionDesk$OrderText" (55 : Nat) "SectionDesk$OrderText" "read" "I") ∈ GL := gl_of 290 (by decide +kernel) (by decide +kernel)
theorem gw_182 : (Cond.fieldLink "SectionDesk$OrderText" (62 : Nat) "SectionDesk$OrderText" "digits" "I") ∈ GL := gl_of 291 (by decide +kernel) (by decide +kernel)
theorem gw_206 : (Cond.fieldLink "SectionDesk$Outline" (9 : Nat) "SectionDesk$Outline" "bytes" "[I") ∈ GL := gl_of 315 (by decide +kernel) (by decide +kernel)
theorem gw_207 : (Cond.fieldLink "SectionDesk$Outline" (15 : Nat) "SectionDesk$Outline" "length" "I") ∈ GL := gl_of 316 (by decide +kernel) (by decide +kernel)
theorem gw_214 : (Cond.fieldLink "SectionDesk" (12 : Nat) "SectionDesk" "desk" "LSectionDesk$Desk;") ∈ GL := gl_of 323 (by decide +kernel) (by decide +kernel)
theorem gw_215 : (Cond.fieldLink "SectionDesk" (16 : Nat) "SectionDesk" "trial" "LSectionDesk$Desk;") ∈ GL := gl_of 324 (by decide +kernel) (by decide +kernel)
theorem gw_216 : (Cond.fieldLink "SectionDesk" (22 : Nat) "SectionDesk" "saved" "LSectionDesk$SavedStates;") ∈ GL := gl_of 325 (by decide +kernel) (by decide +kernel)
theorem gw_217 : (Cond.fieldLink "SectionDesk" (29 : Nat) "SectionDesk" "text" "LSectionDesk$OrderText;") ∈ GL := gl_of 326 (by decide +kernel) (by decide +kernel)
theorem gw_250 : (Cond.methodLink "SectionDesk" (277 : Nat) ({ cls := "SectionDesk$OrderText", name := "parse", desc := "()I" } : MethodName)) ∈ GL := gl_of 359 (by decide +kernel) (by decide +kernel)
theorem gw_251 : (Cond.instanceMethod ({ cls := "SectionDesk$OrderText", name := "parse", desc := "()I" } : MethodName)) ∈ GL := gl_of 360 (by decide +kernel) (by decide +kernel)
theorem gw_252 : (Cond.selects "SectionDesk$OrderText" ({ cls := "SectionDesk$OrderText", name := "parse", desc := "()I" } : MethodName) ({ cls := "SectionDesk$OrderText", name := "parse", desc := "()I" } : MethodName)) ∈ GL := gl_of 361 (by decide +kernel) (by decide +kernel)
theorem gw_253 : (Cond.code ({ cls := "SectionDesk$OrderText", name := "parse", desc := "()I" } : MethodName) prog_5_method_3_code (2 : Nat) (Option.some FieldType.int)) ∈ GL := gl_of 362 (by decide +kernel) (by decide +kernel)
theorem gw_254 : (Cond.methodLink "SectionDesk$OrderText" (35 : Nat) ({ cls := "SectionDesk$OrderText", name := "takes", desc := "(I)Z" } : MethodName)) ∈ GL := gl_of 363 (by decide +kernel) (by decide +kernel)
theorem gw_256 : (Cond.instanceMethod ({ cls := "SectionDesk$OrderText", name := "takes", desc := "(I)Z" } : MethodName)) ∈ GL := gl_of 365 (by decide +kernel) (by decide +kernel)
theorem gw_257 : (Cond.code ({ cls := "SectionDesk$OrderText", name := "takes", desc := "(I)Z" } : MethodName) prog_5_method_4_code (2 : Nat) (Option.some FieldType.boolean)) ∈ GL := gl_of 366 (by decide +kernel) (by decide +kernel)
theorem gw_258 : (Cond.methodLink "SectionDesk$OrderText" (39 : Nat) ({ cls := "SectionDesk$OrderText", name := "takesLetter", desc := "(I)Z" } : MethodName)) ∈ GL := gl_of 367 (by decide +kernel) (by decide +kernel)
theorem gw_260 : (Cond.instanceMethod ({ cls := "SectionDesk$OrderText", name := "takesLetter", desc := "(I)Z" } : MethodName)) ∈ GL := gl_of 369 (by decide +kernel) (by decide +kernel)
theorem gw_261 : (Cond.code ({ cls := "SectionDesk$OrderText", name := "takesLetter", desc := "(I)Z" } : MethodName) prog_5_method_5_code (2 : Nat) (Option.some FieldType.boolean)) ∈ GL := gl_of 370 (by decide +kernel) (by decide +kernel)
theorem gw_262 : (Cond.methodLink "SectionDesk$OrderText" (51 : Nat) ({ cls := "SectionDesk$OrderText", name := "numbersAfter", desc := "(I)I" } : MethodName)) ∈ GL := gl_of 371 (by decide +kernel) (by decide +kernel)
theorem gw_263 : (Cond.static ({ cls := "SectionDesk$OrderText", name := "numbersAfter", desc := "(I)I" } : MethodName)) ∈ GL := gl_of 372 (by decide +kernel) (by decide +kernel)
theorem gw_264 : (Cond.code ({ cls := "SectionDesk$OrderText", name := "numbersAfter", desc := "(I)I" } : MethodName) prog_5_method_6_code (1 : Nat) (Option.some FieldType.int)) ∈ GL := gl_of 373 (by decide +kernel) (by decide +kernel)
theorem gw_266 : (Cond.static ({ cls := "SectionDesk", name := "isWithin", desc := "(III)Z" } : MethodName)) ∈ GL := gl_of 375 (by decide +kernel) (by decide +kernel)
theorem gw_267 : (Cond.code ({ cls := "SectionDesk", name := "isWithin", desc := "(III)Z" } : MethodName) prog_1_method_43_code (3 : Nat) (Option.some FieldType.boolean)) ∈ GL := gl_of 376 (by decide +kernel) (by decide +kernel)
theorem gw_268 : (Cond.methodLink "SectionDesk$OrderText" (42 : Nat) ({ cls := "SectionDesk$OrderText", name := "takesSpace", desc := "(I)Z" } : MethodName)) ∈ GL := gl_of 377 (by decide +kernel) (by decide +kernel)
theorem gw_270 : (Cond.instanceMethod ({ cls := "SectionDesk$OrderText", name := "takesSpace", desc := "(I)Z" } : MethodName)) ∈ GL := gl_of 379 (by decide +kernel) (by decide +kernel)
theorem gw_271 : (Cond.code ({ cls := "SectionDesk$OrderText", name := "takesSpace", desc := "(I)Z" } : MethodName) prog_5_method_7_code (2 : Nat) (Option.some FieldType.boolean)) ∈ GL := gl_of 380 (by decide +kernel) (by decide +kernel)
theorem gw_272 : (Cond.methodLink "SectionDesk$OrderText" (58 : Nat) ({ cls := "SectionDesk$OrderText", name := "setNumber", desc := "(III)V" } : MethodName)) ∈ GL := gl_of 381 (by decide +kernel) (by decide +kernel)
theorem gw_274 : (Cond.instanceMethod ({ cls := "SectionDesk$OrderText", name := "setNumber", desc := "(III)V" } : MethodName)) ∈ GL := gl_of 383 (by decide +kernel) (by decide +kernel)
theorem gw_275 : (Cond.code ({ cls := "SectionDesk$OrderText", name := "setNumber", desc := "(III)V" } : MethodName) prog_5_method_12_code (4 : Nat) (Option.none : Option FieldType)) ∈ GL := gl_of 384 (by decide +kernel) (by decide +kernel)
theorem gw_276 : (Cond.methodLink "SectionDesk$OrderText" (45 : Nat) ({ cls := "SectionDesk$OrderText", name := "takesDigit", desc := "(I)Z" } : MethodName)) ∈ GL := gl_of 385 (by decide +kernel) (by decide +kernel)
theorem gw_278 : (Cond.instanceMethod ({ cls := "SectionDesk$OrderText", name := "takesDigit", desc := "(I)Z" } : MethodName)) ∈ GL := gl_of 387 (by decide +kernel) (by decide +kernel)
theorem gw_279 : (Cond.code ({ cls := "SectionDesk$OrderText", name := "takesDigit", desc := "(I)Z" } : MethodName) prog_5_method_8_code (2 : Nat) (Option.some FieldType.boolean)) ∈ GL := gl_of 388 (by decide +kernel) (by decide +kernel)
theorem gw_280 : (Cond.methodLink "SectionDesk$OrderText" (65 : Nat) ({ cls := "SectionDesk$OrderText", name := "numberOf", desc := "(II)I" } : MethodName)) ∈ GL := gl_of 389 (by decide +kernel) (by decide +kernel)
theorem gw_281 : (Cond.instanceMethod ({ cls := "SectionDesk$OrderText", name := "numberOf", desc := "(II)I" } : MethodName)) ∈ GL := gl_of 390 (by decide +kernel) (by decide +kernel)
theorem gw_282 : (Cond.selects "SectionDesk$OrderText" ({ cls := "SectionDesk$OrderText", name := "numberOf", desc := "(II)I" } : MethodName) ({ cls := "SectionDesk$OrderText", name := "numberOf", desc := "(II)I" } : MethodName)) ∈ GL := gl_of 391 (by decide +kernel) (by decide +kernel)
theorem gw_283 : (Cond.code ({ cls := "SectionDesk$OrderText", name := "numberOf", desc := "(II)I" } : MethodName) prog_5_method_11_code (4 : Nat) (Option.some FieldType.int)) ∈ GL := gl_of 392 (by decide +kernel) (by decide +kernel)
theorem gw_284 : (Cond.methodLink "SectionDesk$OrderText" (48 : Nat) ({ cls := "SectionDesk$OrderText", name := "takesInNumber", desc := "(I)Z" } : MethodName)) ∈ GL := gl_of 393 (by decide +kernel) (by decide +kernel)
theorem gw_286 : (Cond.instanceMethod ({ cls := "SectionDesk$OrderText", name := "takesInNumber", desc := "(I)Z" } : MethodName)) ∈ GL := gl_of 395 (by decide +kernel) (by decide +kernel)
theorem gw_287 : (Cond.code ({ cls := "SectionDesk$OrderText", name := "takesInNumber", desc := "(I)Z" } : MethodName) prog_5_method_9_code (3 : Nat) (Option.some FieldType.boolean)) ∈ GL := gl_of 396 (by decide +kernel) (by decide +kernel)
theorem gw_288 : (Cond.methodLink "SectionDesk$OrderText" (69 : Nat) ({ cls := "SectionDesk$OrderText", name := "letterOf", desc := "(I)I" } : MethodName)) ∈ GL := gl_of 397 (by decide +kernel) (by decide +kernel)
theorem gw_289 : (Cond.instanceMethod ({ cls := "SectionDesk$OrderText", name := "letterOf", desc := "(I)I" } : MethodName)) ∈ GL := gl_of 398 (by decide +kernel) (by decide +kernel)
theorem gw_290 : (Cond.selects "SectionDesk$OrderText" ({ cls := "SectionDesk$OrderText", name := "letterOf", desc := "(I)I" } : MethodName) ({ cls := "SectionDesk$OrderText", name := "letterOf", desc := "(I)I" } : MethodName)) ∈ GL := gl_of 399 (by decide +kernel) (by decide +kernel)
theorem gw_291 : (Cond.code ({ cls := "SectionDesk$OrderText", name := "letterOf", desc := "(I)I" } : MethodName) prog_5_method_10_code (2 : Nat) (Option.some FieldType.int)) ∈ GL := gl_of 400 (by decide +kernel) (by decide +kernel)
theorem gw_292 : (Cond.methodLink "SectionDesk" (206 : Nat) ({ cls := "SectionDesk$Desk", name := "copyFrom", desc := "(LSectionDesk$Desk;)V" } : MethodName)) ∈ GL := gl_of 401 (by decide +kernel) (by decide +kernel)
theorem gw_293 : (Cond.instanceMethod ({ cls := "SectionDesk$Desk", name := "copyFrom", desc := "(LSectionDesk$Desk;)V" } : MethodName)) ∈ GL := gl_of 402 (by decide +kernel) (by decide +kernel)
theorem gw_294 : (Cond.selects "SectionDesk$Desk" ({ cls := "SectionDesk$Desk", name := "copyFrom", desc := "(LSectionDesk$Desk;)V" } : MethodName) ({ cls := "SectionDesk$Desk", name := "copyFrom", desc := "(LSectionDesk$Desk;)V" } : MethodName)) ∈ GL := gl_of 403 (by decide +kernel) (by decide +kernel)
theorem gw_295 : (Cond.code ({ cls := "SectionDesk$Desk", name := "copyFrom", desc := "(LSectionDesk$Desk;)V" } : MethodName) prog_3_method_2_code (2 : Nat) (Option.none : Option FieldType)) ∈ GL := gl_of 404 (by decide +kernel) (by decide +kernel)
theorem gw_296 : (Cond.methodLink "SectionDesk$Desk" (46 : Nat) ({ cls := "SectionDesk$Tree", name := "copyFrom", desc := "(LSectionDesk$Tree;)V" } : MethodName)) ∈ GL := gl_of 405 (by decide +kernel) (by decide +kernel)
theorem gw_297 : (Cond.instanceMethod ({ cls := "SectionDesk$Tree", name := "copyFrom", desc := "(LSectionDesk$Tree;)V" } : MethodName)) ∈ GL := gl_of 406 (by decide +kernel) (by decide +kernel)
theorem gw_298 : (Cond.selects "SectionDesk$Tree" ({ cls := "SectionDesk$Tree", name := "copyFrom", desc := "(LSectionDesk$Tree;)V" } : MethodName) ({ cls := "SectionDesk$Tree", name := "copyFrom", desc := "(LSectionDesk$Tree;)V" } : MethodName)) ∈ GL := gl_of 407 (by decide +kernel) (by decide +kernel)
theorem gw_299 : (Cond.code ({ cls := "SectionDesk$Tree", name := "copyFrom", desc := "(LSectionDesk$Tree;)V" } : MethodName) prog_9_method_2_code (2 : Nat) (Option.none : Option FieldType)) ∈ GL := gl_of 408 (by decide +kernel) (by decide +kernel)
theorem gw_301 : (Cond.static ({ cls := "SectionDesk", name := "copyRow", desc := "([I[I)V" } : MethodName)) ∈ GL := gl_of 410 (by decide +kernel) (by decide +kernel)
theorem gw_302 : (Cond.code ({ cls := "SectionDesk", name := "copyRow", desc := "([I[I)V" } : MethodName) prog_1_method_50_code (2 : Nat) (Option.none : Option FieldType)) ∈ GL := gl_of 411 (by decide +kernel) (by decide +kernel)
theorem gw_303 : (Cond.methodLink "SectionDesk" (337 : Nat) ({ cls := "java/lang/Math", name := "min", desc := "(II)I" } : MethodName)) ∈ GL := gl_of 412 (by decide +kernel) (by decide +kernel)
theorem gw_304 : (Cond.static ({ cls := "java/lang/Math", name := "min", desc := "(II)I" } : MethodName)) ∈ GL := gl_of 413 (by decide +kernel) (by decide +kernel)
theorem gw_305 : (Cond.code ({ cls := "java/lang/Math", name := "min", desc := "(II)I" } : MethodName) prog_18_method_69_code (2 : Nat) (Option.some FieldType.int)) ∈ GL := gl_of 414 (by decide +kernel) (by decide +kernel)
theorem gw_306 : (Cond.methodLink "SectionDesk" (342 : Nat) ({ cls := "java/lang/System", name := "arraycopy", desc := "(Ljava/lang/Object;ILjava/lang/Object;II)V" } : MethodName)) ∈ GL := gl_of 415 (by decide +kernel) (by decide +kernel)
theorem gw_307 : (Cond.static ({ cls := "java/lang/System", name := "arraycopy", desc := "(Ljava/lang/Object;ILjava/lang/Object;II)V" } : MethodName)) ∈ GL := gl_of 416 (by decide +kernel) (by decide +kernel)
theorem gw_308 : (Cond.native ({ cls := "java/lang/System", name := "arraycopy", desc := "(Ljava/lang/Object;ILjava/lang/Object;II)V" } : MethodName)) ∈ GL := gl_of 417 (by decide +kernel) (by decide +kernel)
theorem gw_309 : (Cond.methodLink "SectionDesk$Desk" (50 : Nat) ({ cls := "SectionDesk$CheckOuts", name := "copyFrom", desc := "(LSectionDesk$CheckOuts;)V" } : MethodName)) ∈ GL := gl_of 418 (by decide +kernel) (by decide +kernel)
theorem gw_310 : (Cond.instanceMethod ({ cls := "SectionDesk$CheckOuts", name := "copyFrom", desc := "(LSectionDesk$CheckOuts;)V" } : MethodName)) ∈ GL := gl_of 419 (by decide +kernel) (by decide +kernel)
theorem gw_311 : (Cond.selects "SectionDesk$CheckOuts" ({ cls := "SectionDesk$CheckOuts", name := "copyFrom", desc := "(LSectionDesk$CheckOuts;)V" } : MethodName) ({ cls := "SectionDesk$CheckOuts", name := "copyFrom", desc := "(LSectionDesk$CheckOuts;)V" } : MethodName)) ∈ GL := gl_of 420 (by decide +kernel) (by decide +kernel)
theorem gw_312 : (Cond.code ({ cls := "SectionDesk$CheckOuts", name := "copyFrom", desc := "(LSectionDesk$CheckOuts;)V" } : MethodName) prog_2_method_2_code (2 : Nat) (Option.none : Option FieldType)) ∈ GL := gl_of 421 (by decide +kernel) (by decide +kernel)
theorem gw_314 : (Cond.methodLink "SectionDesk$Desk" (53 : Nat) ({ cls := "SectionDesk$Queue", name := "copyFrom", desc := "(LSectionDesk$Queue;)V" } : MethodName)) ∈ GL := gl_of 423 (by decide +kernel) (by decide +kernel)
theorem gw_315 : (Cond.instanceMethod ({ cls := "SectionDesk$Queue", name := "copyFrom", desc := "(LSectionDesk$Queue;)V" } : MethodName)) ∈ GL := gl_of 424 (by decide +kernel) (by decide +kernel)
theorem gw_316 : (Cond.selects "SectionDesk$Queue" ({ cls := "SectionDesk$Queue", name := "copyFrom", desc := "(LSectionDesk$Queue;)V" } : MethodName) ({ cls := "SectionDesk$Queue", name := "copyFrom", desc := "(LSectionDesk$Queue;)V" } : MethodName)) ∈ GL := gl_of 425 (by decide +kernel) (by decide +kernel)
theorem gw_317 : (Cond.code ({ cls := "SectionDesk$Queue", name := "copyFrom", desc := "(LSectionDesk$Queue;)V" } : MethodName) prog_7_method_2_code (2 : Nat) (Option.none : Option FieldType)) ∈ GL := gl_of 426 (by decide +kernel) (by decide +kernel)
theorem gw_319 : (Cond.methodLink "SectionDesk$Desk" (56 : Nat) ({ cls := "SectionDesk$History", name := "copyFrom", desc := "(LSectionDesk$History;)V" } : MethodName)) ∈ GL := gl_of 428 (by decide +kernel) (by decide +kernel)
theorem gw_320 : (Cond.instanceMethod ({ cls := "SectionDesk$History", name := "copyFrom", desc := "(LSectionDesk$History;)V" } : MethodName)) ∈ GL := gl_of 429 (by decide +kernel) (by decide +kernel)
theorem gw_321 : (Cond.selects "SectionDesk$History" ({ cls := "SectionDesk$History", name := "copyFrom", desc := "(LSectionDesk$History;)V" } : MethodName) ({ cls := "SectionDesk$History", name := "copyFrom", desc := "(LSectionDesk$History;)V" } : MethodName)) ∈ GL := gl_of 430 (by decide +kernel) (by decide +kernel)
theorem gw_322 : (Cond.code ({ cls := "SectionDesk$History", name := "copyFrom", desc := "(LSectionDesk$History;)V" } : MethodName) prog_4_method_2_code (2 : Nat) (Option.none : Option FieldType)) ∈ GL := gl_of 431 (by decide +kernel) (by decide +kernel)
theorem gw_325 : (Cond.methodLink "SectionDesk" (283 : Nat) ({ cls := "SectionDesk", name := "runOrder", desc := "(I)Z" } : MethodName)) ∈ GL := gl_of 434 (by decide +kernel) (by decide +kernel)
theorem gw_327 : (Cond.instanceMethod ({ cls := "SectionDesk", name := "runOrder", desc := "(I)Z" } : MethodName)) ∈ GL := gl_of 436 (by decide +kernel) (by decide +kernel)
theorem gw_328 : (Cond.code ({ cls := "SectionDesk", name := "runOrder", desc := "(I)Z" } : MethodName) prog_1_method_39_code (7 : Nat) (Option.some FieldType.boolean)) ∈ GL := gl_of 437 (by decide +kernel) (by decide +kernel)
theorem gw_329 : (Cond.methodLink "SectionDesk" (308 : Nat) ({ cls := "SectionDesk$OrderText", name := "numberOf", desc := "(II)I" } : MethodName)) ∈ GL := gl_of 438 (by decide +kernel) (by decide +kernel)
theorem gw_330 : (Cond.methodLink "SectionDesk" (311 : Nat) ({ cls := "SectionDesk$OrderText", name := "letterOf", desc := "(I)I" } : MethodName)) ∈ GL := gl_of 439 (by decide +kernel) (by decide +kernel)
theorem gw_331 : (Cond.methodLink "SectionDesk" (314 : Nat) ({ cls := "SectionDesk", name := "orderFault", desc := "(IIIII)I" } : MethodName)) ∈ GL := gl_of 440 (by decide +kernel) (by decide +kernel)
theorem gw_333 : (Cond.instanceMethod ({ cls := "SectionDesk", name := "orderFault", desc := "(IIIII)I" } : MethodName)) ∈ GL := gl_of 442 (by decide +kernel) (by decide +kernel)
theorem gw_334 : (Cond.code ({ cls := "SectionDesk", name := "orderFault", desc := "(IIIII)I" } : MethodName) prog_1_method_40_code (6 : Nat) (Option.some FieldType.int)) ∈ GL := gl_of 443 (by decide +kernel) (by decide +kernel)
theorem gw_335 : (Cond.methodLink "SectionDesk" (86 : Nat) ({ cls := "SectionDesk", name := "isWithin", desc := "(III)Z" } : MethodName)) ∈ GL := gl_of 444 (by decide +kernel) (by decide +kernel)
theorem gw_336 : (Cond.methodLink "SectionDesk" (131 : Nat) ({ cls := "SectionDesk$Desk", name := "requestFault", desc := "(IIIZ)I" } : MethodName)) ∈ GL := gl_of 445 (by decide +kernel) (by decide +kernel)
theorem gw_337 : (Cond.instanceMethod ({ cls := "SectionDesk$Desk", name := "requestFault", desc := "(IIIZ)I" } : MethodName)) ∈ GL := gl_of 446 (by decide +kernel) (by decide +kernel)
theorem gw_338 : (Cond.selects "SectionDesk$Desk" ({ cls := "SectionDesk$Desk", name := "requestFault", desc := "(IIIZ)I" } : MethodName) ({ cls := "SectionDesk$Desk", name := "requestFault", desc := "(IIIZ)I" } : MethodName)) ∈ GL := gl_of 447 (by decide +kernel) (by decide +kernel)
theorem gw_339 : (Cond.code ({ cls := "SectionDesk$Desk", name := "requestFault", desc := "(IIIZ)I" } : MethodName) prog_3_method_21_code (6 : Nat) (Option.some FieldType.int)) ∈ GL := gl_of 448 (by decide +kernel) (by decide +kernel)
theorem gw_340 : (Cond.methodLink "SectionDesk$Desk" (176 : Nat) ({ cls := "SectionDesk$Desk", name := "holdsAround", desc := "(IIZ)Z" } : MethodName)) ∈ GL := gl_of 449 (by decide +kernel) (by decide +kernel)
theorem gw_342 : (Cond.instanceMethod ({ cls := "SectionDesk$Desk", name := "holdsAround", desc := "(IIZ)Z" } : MethodName)) ∈ GL := gl_of 451 (by decide +kernel) (by decide +kernel)
theorem gw_343 : (Cond.code ({ cls := "SectionDesk$Desk", name := "holdsAround", desc := "(IIZ)Z" } : MethodName) prog_3_method_22_code (6 : Nat) (Option.some FieldType.boolean)) ∈ GL := gl_of 452 (by decide +kernel) (by decide +kernel)
theorem gw_344 : (Cond.methodLink "SectionDesk$Desk" (81 : Nat) ({ cls := "SectionDesk$Tree", name := "overlapOf", desc := "(I)I" } : MethodName)) ∈ GL := gl_of 453 (by decide +kernel) (by decide +kernel)
theorem gw_345 : (Cond.instanceMethod ({ cls := "SectionDesk$Tree", name := "overlapOf", desc := "(I)I" } : MethodName)) ∈ GL := gl_of 454 (by decide +kernel) (by decide +kernel)
theorem gw_346 : (Cond.selects "SectionDesk$Tree" ({ cls := "SectionDesk$Tree", name := "overlapOf", desc := "(I)I" } : MethodName) ({ cls := "SectionDesk$Tree", name := "overlapOf", desc := "(I)I" } : MethodName)) ∈ GL := gl_of 455 (by decide +kernel) (by decide +kernel)
theorem gw_347 : (Cond.code ({ cls := "SectionDesk$Tree", name := "overlapOf", desc := "(I)I" } : MethodName) prog_9_method_9_code (2 : Nat) (Option.some FieldType.int)) ∈ GL := gl_of 456 (by decide +kernel) (by decide +kernel)
theorem gw_348 : (Cond.methodLink "SectionDesk$Tree" (48 : Nat) ({ cls := "SectionDesk$Tree", name := "subtreeOf", desc := "(I)I" } : MethodName)) ∈ GL := gl_of 457 (by decide +kernel) (by decide +kernel)
theorem gw_349 : (Cond.instanceMethod ({ cls := "SectionDesk$Tree", name := "subtreeOf", desc := "(I)I" } : MethodName)) ∈ GL := gl_of 458 (by decide +kernel) (by decide +kernel)
theorem gw_350 : (Cond.selects "SectionDesk$Tree" ({ cls := "SectionDesk$Tree", name := "subtreeOf", desc := "(I)I" } : MethodName) ({ cls := "SectionDesk$Tree", name := "subtreeOf", desc := "(I)I" } : MethodName)) ∈ GL := gl_of 459 (by decide +kernel) (by decide +kernel)
theorem gw_351 : (Cond.code ({ cls := "SectionDesk$Tree", name := "subtreeOf", desc := "(I)I" } : MethodName) prog_9_method_7_code (2 : Nat) (Option.some FieldType.int)) ∈ GL := gl_of 460 (by decide +kernel) (by decide +kernel)
theorem gw_352 : (Cond.methodLink "SectionDesk$Tree" (52 : Nat) ({ cls := "SectionDesk$Tree", name := "lineageOf", desc := "(I)I" } : MethodName)) ∈ GL := gl_of 461 (by decide +kernel) (by decide +kernel)
theorem gw_353 : (Cond.instanceMethod ({ cls := "SectionDesk$Tree", name := "lineageOf", desc := "(I)I" } : MethodName)) ∈ GL := gl_of 462 (by decide +kernel) (by decide +kernel)
theorem gw_354 : (Cond.selects "SectionDesk$Tree" ({ cls := "SectionDesk$Tree", name := "lineageOf", desc := "(I)I" } : MethodName) ({ cls := "SectionDesk$Tree", name := "lineageOf", desc := "(I)I" } : MethodName)) ∈ GL := gl_of 463 (by decide +kernel) (by decide +kernel)
theorem gw_355 : (Cond.code ({ cls := "SectionDesk$Tree", name := "lineageOf", desc := "(I)I" } : MethodName) prog_9_method_8_code (2 : Nat) (Option.some FieldType.int)) ∈ GL := gl_of 464 (by decide +kernel) (by decide +kernel)
theorem gw_356 : (Cond.methodLink "SectionDesk$Desk" (77 : Nat) ({ cls := "SectionDesk$Tree", name := "lineageOf", desc := "(I)I" } : MethodName)) ∈ GL := gl_of 465 (by decide +kernel) (by decide +kernel)
theorem gw_357 : (Cond.methodLink "SectionDesk$Desk" (190 : Nat) ({ cls := "SectionDesk$CheckOuts", name := "isHeld", desc := "(I)Z" } : MethodName)) ∈ GL := gl_of 466 (by decide +kernel) (by decide +kernel)
theorem gw_358 : (Cond.instanceMethod ({ cls := "SectionDesk$CheckOuts", name := "isHeld", desc := "(I)Z" } : MethodName)) ∈ GL := gl_of 467 (by decide +kernel) (by decide +kernel)
theorem gw_359 : (Cond.selects "SectionDesk$CheckOuts" ({ cls := "SectionDesk$CheckOuts", name := "isHeld", desc := "(I)Z" } : MethodName) ({ cls := "SectionDesk$CheckOuts", name := "isHeld", desc := "(I)Z" } : MethodName)) ∈ GL := gl_of 468 (by decide +kernel) (by decide +kernel)
theorem gw_360 : (Cond.code ({ cls := "SectionDesk$CheckOuts", name := "isHeld", desc := "(I)Z" } : MethodName) prog_2_method_6_code (2 : Nat) (Option.some FieldType.boolean)) ∈ GL := gl_of 469 (by decide +kernel) (by decide +kernel)
theorem gw_361 : (Cond.methodLink "SectionDesk$CheckOuts" (29 : Nat) ({ cls := "SectionDesk$CheckOuts", name := "fact", desc := "(II)I" } : MethodName)) ∈ GL := gl_of 470 (by decide +kernel) (by decide +kernel)
theorem gw_362 : (Cond.instanceMethod ({ cls := "SectionDesk$CheckOuts", name := "fact", desc := "(II)I" } : MethodName)) ∈ GL := gl_of 471 (by decide +kernel) (by decide +kernel)
theorem gw_363 : (Cond.selects "SectionDesk$CheckOuts" ({ cls := "SectionDesk$CheckOuts", name := "fact", desc := "(II)I" } : MethodName) ({ cls := "SectionDesk$CheckOuts", name := "fact", desc := "(II)I" } : MethodName)) ∈ GL := gl_of 472 (by decide +kernel) (by decide +kernel)
theorem gw_364 : (Cond.code ({ cls := "SectionDesk$CheckOuts", name := "fact", desc := "(II)I" } : MethodName) prog_2_method_4_code (4 : Nat) (Option.some FieldType.int)) ∈ GL := gl_of 473 (by decide +kernel) (by decide +kernel)
theorem gw_365 : (Cond.methodLink "SectionDesk$Desk" (193 : Nat) ({ cls := "SectionDesk$CheckOuts", name := "fact", desc := "(II)I" } : MethodName)) ∈ GL := gl_of 474 (by decide +kernel) (by decide +kernel)
theorem gw_367 : (Cond.static ({ cls := "SectionDesk", name := "hasBit", desc := "(II)Z" } : MethodName)) ∈ GL := gl_of 476 (by decide +kernel) (by decide +kernel)
theorem gw_368 : (Cond.code ({ cls := "SectionDesk", name := "hasBit", desc := "(II)Z" } : MethodName) prog_1_method_48_code (2 : Nat) (Option.some FieldType.boolean)) ∈ GL := gl_of 477 (by decide +kernel) (by decide +kernel)
theorem gw_369 : (Cond.methodLink "SectionDesk$Desk" (180 : Nat) ({ cls := "SectionDesk$Queue", name := "placeOf", desc := "(I)I" } : MethodName)) ∈ GL := gl_of 478 (by decide +kernel) (by decide +kernel)
theorem gw_370 : (Cond.instanceMethod ({ cls := "SectionDesk$Queue", name := "placeOf", desc := "(I)I" } : MethodName)) ∈ GL := gl_of 479 (by decide +kernel) (by decide +kernel)
theorem gw_371 : (Cond.selects "SectionDesk$Queue" ({ cls := "SectionDesk$Queue", name := "placeOf", desc := "(I)I" } : MethodName) ({ cls := "SectionDesk$Queue", name := "placeOf", desc := "(I)I" } : MethodName)) ∈ GL := gl_of 480 (by decide +kernel) (by decide +kernel)
theorem gw_372 : (Cond.code ({ cls := "SectionDesk$Queue", name := "placeOf", desc := "(I)I" } : MethodName) prog_7_method_6_code (3 : Nat) (Option.some FieldType.int)) ∈ GL := gl_of 481 (by decide +kernel) (by decide +kernel)
theorem gw_373 : (Cond.methodLink "SectionDesk$Queue" (23 : Nat) ({ cls := "SectionDesk$Queue", name := "fact", desc := "(II)I" } : MethodName)) ∈ GL := gl_of 482 (by decide +kernel) (by decide +kernel)
theorem gw_374 : (Cond.instanceMethod ({ cls := "SectionDesk$Queue", name := "fact", desc := "(II)I" } : MethodName)) ∈ GL := gl_of 483 (by decide +kernel) (by decide +kernel)
theorem gw_375 : (Cond.selects "SectionDesk$Queue" ({ cls := "SectionDesk$Queue", name := "fact", desc := "(II)I" } : MethodName) ({ cls := "SectionDesk$Queue", name := "fact", desc := "(II)I" } : MethodName)) ∈ GL := gl_of 484 (by decide +kernel) (by decide +kernel)
theorem gw_376 : (Cond.code ({ cls := "SectionDesk$Queue", name := "fact", desc := "(II)I" } : MethodName) prog_7_method_3_code (4 : Nat) (Option.some FieldType.int)) ∈ GL := gl_of 485 (by decide +kernel) (by decide +kernel)
theorem gw_377 : (Cond.methodLink "SectionDesk$Desk" (183 : Nat) ({ cls := "SectionDesk$Queue", name := "isFull", desc := "()Z" } : MethodName)) ∈ GL := gl_of 486 (by decide +kernel) (by decide +kernel)
theorem gw_378 : (Cond.instanceMethod ({ cls := "SectionDesk$Queue", name := "isFull", desc := "()Z" } : MethodName)) ∈ GL := gl_of 487 (by decide +kernel) (by decide +kernel)
theorem gw_379 : (Cond.selects "SectionDesk$Queue" ({ cls := "SectionDesk$Queue", name := "isFull", desc := "()Z" } : MethodName) ({ cls := "SectionDesk$Queue", name := "isFull", desc := "()Z" } : MethodName)) ∈ GL := gl_of 488 (by decide +kernel) (by decide +kernel)
theorem gw_380 : (Cond.code ({ cls := "SectionDesk$Queue", name := "isFull", desc := "()Z" } : MethodName) prog_7_method_5_code (1 : Nat) (Option.some FieldType.boolean)) ∈ GL := gl_of 489 (by decide +kernel) (by decide +kernel)
theorem gw_382 : (Cond.static ({ cls := "SectionDesk", name := "isUser", desc := "(I)Z" } : MethodName)) ∈ GL := gl_of 491 (by decide +kernel) (by decide +kernel)
theorem gw_383 : (Cond.code ({ cls := "SectionDesk", name := "isUser", desc := "(I)Z" } : MethodName) prog_1_method_44_code (1 : Nat) (Option.some FieldType.boolean)) ∈ GL := gl_of 492 (by decide +kernel) (by decide +kernel)
theorem gw_384 : (Cond.methodLink "SectionDesk$Desk" (84 : Nat) ({ cls := "SectionDesk$Tree", name := "has", desc := "(I)Z" } : MethodName)) ∈ GL := gl_of 493 (by decide +kernel) (by decide +kernel)
theorem gw_385 : (Cond.instanceMethod ({ cls := "SectionDesk$Tree", name := "has", desc := "(I)Z" } : MethodName)) ∈ GL := gl_of 494 (by decide +kernel) (by decide +kernel)
theorem gw_386 : (Cond.selects "SectionDesk$Tree" ({ cls := "SectionDesk$Tree", name := "has", desc := "(I)Z" } : MethodName) ({ cls := "SectionDesk$Tree", name := "has", desc := "(I)Z" } : MethodName)) ∈ GL := gl_of 495 (by decide +kernel) (by decide +kernel)
theorem gw_387 : (Cond.code ({ cls := "SectionDesk$Tree", name := "has", desc := "(I)Z" } : MethodName) prog_9_method_3_code (2 : Nat) (Option.some FieldType.boolean)) ∈ GL := gl_of 496 (by decide +kernel) (by decide +kernel)
theorem gw_390 : (Cond.static ({ cls := "SectionDesk", name := "faultOf", desc := "(ZZZ)I" } : MethodName)) ∈ GL := gl_of 499 (by decide +kernel) (by decide +kernel)
theorem gw_391 : (Cond.code ({ cls := "SectionDesk", name := "faultOf", desc := "(ZZZ)I" } : MethodName) prog_1_method_41_code (3 : Nat) (Option.some FieldType.int)) ∈ GL := gl_of 500 (by decide +kernel) (by decide +kernel)
theorem gw_392 : (Cond.methodLink "SectionDesk" (162 : Nat) ({ cls := "SectionDesk$Desk", name := "editFault", desc := "(IIII)I" } : MethodName)) ∈ GL := gl_of 501 (by decide +kernel) (by decide +kernel)
theorem gw_393 : (Cond.instanceMethod ({ cls := "SectionDesk$Desk", name := "editFault", desc := "(IIII)I" } : MethodName)) ∈ GL := gl_of 502 (by decide +kernel) (by decide +kernel)
theorem gw_394 : (Cond.selects "SectionDesk$Desk" ({ cls := "SectionDesk$Desk", name := "editFault", desc := "(IIII)I" } : MethodName) ({ cls := "SectionDesk$Desk", name := "editFault", desc := "(IIII)I" } : MethodName)) ∈ GL := gl_of 503 (by decide +kernel) (by decide +kernel)
theorem gw_395 : (Cond.code ({ cls := "SectionDesk$Desk", name := "editFault", desc := "(IIII)I" } : MethodName) prog_3_method_42_code (5 : Nat) (Option.some FieldType.int)) ∈ GL := gl_of 504 (by decide +kernel) (by decide +kernel)
theorem gw_396 : (Cond.methodLink "SectionDesk$Desk" (270 : Nat) ({ cls := "SectionDesk$Desk", name := "hasCopy", desc := "(III)Z" } : MethodName)) ∈ GL := gl_of 505 (by decide +kernel) (by decide +kernel)
theorem gw_397 : (Cond.instanceMethod ({ cls := "SectionDesk$Desk", name := "hasCopy", desc := "(III)Z" } : MethodName)) ∈ GL := gl_of 506 (by decide +kernel) (by decide +kernel)
theorem gw_398 : (Cond.selects "SectionDesk$Desk" ({ cls := "SectionDesk$Desk", name := "hasCopy", desc := "(III)Z" } : MethodName) ({ cls := "SectionDesk$Desk", name := "hasCopy", desc := "(III)Z" } : MethodName)) ∈ GL := gl_of 507 (by decide +kernel) (by decide +kernel)
theorem gw_399 : (Cond.code ({ cls := "SectionDesk$Desk", name := "hasCopy", desc := "(III)Z" } : MethodName) prog_3_method_35_code (4 : Nat) (Option.some FieldType.boolean)) ∈ GL := gl_of 508 (by decide +kernel) (by decide +kernel)
theorem gw_400 : (Cond.methodLink "SectionDesk$Desk" (248 : Nat) ({ cls := "SectionDesk$CheckOuts", name := "has", desc := "(I)Z" } : MethodName)) ∈ GL := gl_of 509 (by decide +kernel) (by decide +kernel)
theorem gw_401 : (Cond.instanceMethod ({ cls := "SectionDesk$CheckOuts", name := "has", desc := "(I)Z" } : MethodName)) ∈ GL := gl_of 510 (by decide +kernel) (by decide +kernel)
theorem gw_402 : (Cond.selects "SectionDesk$CheckOuts" ({ cls := "SectionDesk$CheckOuts", name := "has", desc := "(I)Z" } : MethodName) ({ cls := "SectionDesk$CheckOuts", name := "has", desc := "(I)Z" } : MethodName)) ∈ GL := gl_of 511 (by decide +kernel) (by decide +kernel)
theorem gw_403 : (Cond.code ({ cls := "SectionDesk$CheckOuts", name := "has", desc := "(I)Z" } : MethodName) prog_2_method_3_code (2 : Nat) (Option.some FieldType.boolean)) ∈ GL := gl_of 512 (by decide +kernel) (by decide +kernel)
theorem gw_404 : (Cond.methodLink "SectionDesk$Desk" (123 : Nat) ({ cls := "SectionDesk$Desk", name := "hasLine", desc := "(II)Z" } : MethodName)) ∈ GL := gl_of 513 (by decide +kernel) (by decide +kernel)
theorem gw_405 : (Cond.instanceMethod ({ cls := "SectionDesk$Desk", name := "hasLine", desc := "(II)Z" } : MethodName)) ∈ GL := gl_of 514 (by decide +kernel) (by decide +kernel)
theorem gw_406 : (Cond.selects "SectionDesk$Desk" ({ cls := "SectionDesk$Desk", name := "hasLine", desc := "(II)Z" } : MethodName) ({ cls := "SectionDesk$Desk", name := "hasLine", desc := "(II)Z" } : MethodName)) ∈ GL := gl_of 515 (by decide +kernel) (by decide +kernel)
theorem gw_407 : (Cond.code ({ cls := "SectionDesk$Desk", name := "hasLine", desc := "(II)Z" } : MethodName) prog_3_method_11_code (3 : Nat) (Option.some FieldType.boolean)) ∈ GL := gl_of 516 (by decide +kernel) (by decide +kernel)
theorem gw_409 : (Cond.static ({ cls := "SectionDesk", name := "isLine", desc := "(I)Z" } : MethodName)) ∈ GL := gl_of 518 (by decide +kernel) (by decide +kernel)
theorem gw_410 : (Cond.code ({ cls := "SectionDesk", name := "isLine", desc := "(I)Z" } : MethodName) prog_1_method_45_code (1 : Nat) (Option.some FieldType.boolean)) ∈ GL := gl_of 519 (by decide +kernel) (by decide +kernel)
theorem gw_411 : (Cond.methodLink "SectionDesk$Desk" (249 : Nat) ({ cls := "SectionDesk$Desk", name := "sectionsOf", desc := "(I)I" } : MethodName)) ∈ GL := gl_of 520 (by decide +kernel) (by decide +kernel)
theorem gw_413 : (Cond.instanceMethod ({ cls := "SectionDesk$Desk", name := "sectionsOf", desc := "(I)I" } : MethodName)) ∈ GL := gl_of 522 (by decide +kernel) (by decide +kernel)
theorem gw_414 : (Cond.code ({ cls := "SectionDesk$Desk", name := "sectionsOf", desc := "(I)I" } : MethodName) prog_3_method_34_code (2 : Nat) (Option.some FieldType.int)) ∈ GL := gl_of 523 (by decide +kernel) (by decide +kernel)
theorem gw_415 : (Cond.methodLink "SectionDesk$Desk" (101 : Nat) ({ cls := "SectionDesk$Tree", name := "subtreeOf", desc := "(I)I" } : MethodName)) ∈ GL := gl_of 524 (by decide +kernel) (by decide +kernel)
theorem gw_416 : (Cond.methodLink "SectionDesk$Desk" (235 : Nat) ({ cls := "SectionDesk$CheckOuts", name := "isShared", desc := "(I)Z" } : MethodName)) ∈ GL := gl_of 525 (by decide +kernel) (by decide +kernel)
theorem gw_417 : (Cond.instanceMethod ({ cls := "SectionDesk$CheckOuts", name := "isShared", desc := "(I)Z" } : MethodName)) ∈ GL := gl_of 526 (by decide +kernel) (by decide +kernel)
theorem gw_418 : (Cond.selects "SectionDesk$CheckOuts" ({ cls := "SectionDesk$CheckOuts", name := "isShared", desc := "(I)Z" } : MethodName) ({ cls := "SectionDesk$CheckOuts", name := "isShared", desc := "(I)Z" } : MethodName)) ∈ GL := gl_of 527 (by decide +kernel) (by decide +kernel)
theorem gw_419 : (Cond.code ({ cls := "SectionDesk$CheckOuts", name := "isShared", desc := "(I)Z" } : MethodName) prog_2_method_7_code (2 : Nat) (Option.some FieldType.boolean)) ∈ GL := gl_of 528 (by decide +kernel) (by decide +kernel)
theorem gw_420 : (Cond.methodLink "SectionDesk" (187 : Nat) ({ cls := "SectionDesk$Desk", name := "giveBackFault", desc := "(II)I" } : MethodName)) ∈ GL := gl_of 529 (by decide +kernel) (by decide +kernel)
theorem gw_421 : (Cond.instanceMethod ({ cls := "SectionDesk$Desk", name := "giveBackFault", desc := "(II)I" } : MethodName)) ∈ GL := gl_of 530 (by decide +kernel) (by decide +kernel)
theorem gw_422 : (Cond.selects "SectionDesk$Desk" ({ cls := "SectionDesk$Desk", name := "giveBackFault", desc := "(II)I" } : MethodName) ({ cls := "SectionDesk$Desk", name := "giveBackFault", desc := "(II)I" } : MethodName)) ∈ GL := gl_of 531 (by decide +kernel) (by decide +kernel)
theorem gw_423 : (Cond.code ({ cls := "SectionDesk$Desk", name := "giveBackFault", desc := "(II)I" } : MethodName) prog_3_method_45_code (4 : Nat) (Option.some FieldType.int)) ∈ GL := gl_of 532 (by decide +kernel) (by decide +kernel)
theorem gw_424 : (Cond.methodLink "SectionDesk$Desk" (170 : Nat) ({ cls := "SectionDesk$Desk", name := "isHeldAround", desc := "(I)Z" } : MethodName)) ∈ GL := gl_of 533 (by decide +kernel) (by decide +kernel)
theorem gw_426 : (Cond.instanceMethod ({ cls := "SectionDesk$Desk", name := "isHeldAround", desc := "(I)Z" } : MethodName)) ∈ GL := gl_of 535 (by decide +kernel) (by decide +kernel)
theorem gw_427 : (Cond.code ({ cls := "SectionDesk$Desk", name := "isHeldAround", desc := "(I)Z" } : MethodName) prog_3_method_6_code (2 : Nat) (Option.some FieldType.boolean)) ∈ GL := gl_of 536 (by decide +kernel) (by decide +kernel)
theorem gw_428 : (Cond.methodLink "SectionDesk$Desk" (67 : Nat) ({ cls := "SectionDesk$CheckOuts", name := "tops", desc := "(Z)I" } : MethodName)) ∈ GL := gl_of 537 (by decide +kernel) (by decide +kernel)
theorem gw_429 : (Cond.instanceMethod ({ cls := "SectionDesk$CheckOuts", name := "tops", desc := "(Z)I" } : MethodName)) ∈ GL := gl_of 538 (by decide +kernel) (by decide +kernel)
theorem gw_430 : (Cond.selects "SectionDesk$CheckOuts" ({ cls := "SectionDesk$CheckOuts", name := "tops", desc := "(Z)I" } : MethodName) ({ cls := "SectionDesk$CheckOuts", name := "tops", desc := "(Z)I" } : MethodName)) ∈ GL := gl_of 539 (by decide +kernel) (by decide +kernel)
theorem gw_431 : (Cond.code ({ cls := "SectionDesk$CheckOuts", name := "tops", desc := "(Z)I" } : MethodName) prog_2_method_8_code (4 : Nat) (Option.some FieldType.int)) ∈ GL := gl_of 540 (by decide +kernel) (by decide +kernel)
theorem gw_432 : (Cond.methodLink "SectionDesk$CheckOuts" (33 : Nat) ({ cls := "SectionDesk$CheckOuts", name := "has", desc := "(I)Z" } : MethodName)) ∈ GL := gl_of 541 (by decide +kernel) (by decide +kernel)
theorem gw_433 : (Cond.methodLink "SectionDesk$CheckOuts" (37 : Nat) ({ cls := "SectionDesk$CheckOuts", name := "isHeld", desc := "(I)Z" } : MethodName)) ∈ GL := gl_of 542 (by decide +kernel) (by decide +kernel)
theorem gw_434 : (Cond.methodLink "SectionDesk$Desk" (276 : Nat) ({ cls := "SectionDesk$Desk", name := "countConflicts", desc := "(I)I" } : MethodName)) ∈ GL := gl_of 543 (by decide +kernel) (by decide +kernel)
theorem gw_435 : (Cond.instanceMethod ({ cls := "SectionDesk$Desk", name := "countConflicts", desc := "(I)I" } : MethodName)) ∈ GL := gl_of 544 (by decide +kernel) (by decide +kernel)
theorem gw_436 : (Cond.selects "SectionDesk$Desk" ({ cls := "SectionDesk$Desk", name := "countConflicts", desc := "(I)I" } : MethodName) ({ cls := "SectionDesk$Desk", name := "countConflicts", desc := "(I)I" } : MethodName)) ∈ GL := gl_of 545 (by decide +kernel) (by decide +kernel)
theorem gw_437 : (Cond.code ({ cls := "SectionDesk$Desk", name := "countConflicts", desc := "(I)I" } : MethodName) prog_3_method_46_code (5 : Nat) (Option.some FieldType.int)) ∈ GL := gl_of 546 (by decide +kernel) (by decide +kernel)
theorem gw_438 : (Cond.methodLink "SectionDesk$Desk" (279 : Nat) ({ cls := "SectionDesk$Desk", name := "isConflict", desc := "(II)Z" } : MethodName)) ∈ GL := gl_of 547 (by decide +kernel) (by decide +kernel)
theorem gw_440 : (Cond.instanceMethod ({ cls := "SectionDesk$Desk", name := "isConflict", desc := "(II)Z" } : MethodName)) ∈ GL := gl_of 549 (by decide +kernel) (by decide +kernel)
theorem gw_441 : (Cond.code ({ cls := "SectionDesk$Desk", name := "isConflict", desc := "(II)Z" } : MethodName) prog_3_method_47_code (6 : Nat) (Option.some FieldType.boolean)) ∈ GL := gl_of 550 (by decide +kernel) (by decide +kernel)
theorem gw_442 : (Cond.methodLink "SectionDesk$Desk" (267 : Nat) ({ cls := "SectionDesk$CheckOuts", name := "baseAt", desc := "(II)I" } : MethodName)) ∈ GL := gl_of 551 (by decide +kernel) (by decide +kernel)
theorem gw_443 : (Cond.instanceMethod ({ cls := "SectionDesk$CheckOuts", name := "baseAt", desc := "(II)I" } : MethodName)) ∈ GL := gl_of 552 (by decide +kernel) (by decide +kernel)
theorem gw_444 : (Cond.selects "SectionDesk$CheckOuts" ({ cls := "SectionDesk$CheckOuts", name := "baseAt", desc := "(II)I" } : MethodName) ({ cls := "SectionDesk$CheckOuts", name := "baseAt", desc := "(II)I" } : MethodName)) ∈ GL := gl_of 553 (by decide +kernel) (by decide +kernel)
theorem gw_445 : (Cond.code ({ cls := "SectionDesk$CheckOuts", name := "baseAt", desc := "(II)I" } : MethodName) prog_2_method_16_code (4 : Nat) (Option.some FieldType.int)) ∈ GL := gl_of 554 (by decide +kernel) (by decide +kernel)
theorem gw_446 : (Cond.methodLink "SectionDesk$Desk" (264 : Nat) ({ cls := "SectionDesk$CheckOuts", name := "ownAt", desc := "(II)I" } : MethodName)) ∈ GL := gl_of 555 (by decide +kernel) (by decide +kernel)
theorem gw_447 : (Cond.instanceMethod ({ cls := "SectionDesk$CheckOuts", name := "ownAt", desc := "(II)I" } : MethodName)) ∈ GL := gl_of 556 (by decide +kernel) (by decide +kernel)
theorem gw_448 : (Cond.selects "SectionDesk$CheckOuts" ({ cls := "SectionDesk$CheckOuts", name := "ownAt", desc := "(II)I" } : MethodName) ({ cls := "SectionDesk$CheckOuts", name := "ownAt", desc := "(II)I" } : MethodName)) ∈ GL := gl_of 557 (by decide +kernel) (by decide +kernel)
theorem gw_449 : (Cond.code ({ cls := "SectionDesk$CheckOuts", name := "ownAt", desc := "(II)I" } : MethodName) prog_2_method_17_code (4 : Nat) (Option.some FieldType.int)) ∈ GL := gl_of 558 (by decide +kernel) (by decide +kernel)
theorem gw_450 : (Cond.methodLink "SectionDesk$Desk" (134 : Nat) ({ cls := "SectionDesk$Tree", name := "valueAt", desc := "(I)I" } : MethodName)) ∈ GL := gl_of 559 (by decide +kernel) (by decide +kernel)
theorem gw_451 : (Cond.instanceMethod ({ cls := "SectionDesk$Tree", name := "valueAt", desc := "(I)I" } : MethodName)) ∈ GL := gl_of 560 (by decide +kernel) (by decide +kernel)
theorem gw_452 : (Cond.selects "SectionDesk$Tree" ({ cls := "SectionDesk$Tree", name := "valueAt", desc := "(I)I" } : MethodName) ({ cls := "SectionDesk$Tree", name := "valueAt", desc := "(I)I" } : MethodName)) ∈ GL := gl_of 561 (by decide +kernel) (by decide +kernel)
theorem gw_453 : (Cond.code ({ cls := "SectionDesk$Tree", name := "valueAt", desc := "(I)I" } : MethodName) prog_9_method_6_code (2 : Nat) (Option.some FieldType.int)) ∈ GL := gl_of 562 (by decide +kernel) (by decide +kernel)
theorem gw_454 : (Cond.methodLink "SectionDesk" (156 : Nat) ({ cls := "SectionDesk$Desk", name := "checkOutFault", desc := "(I)I" } : MethodName)) ∈ GL := gl_of 563 (by decide +kernel) (by decide +kernel)
theorem gw_455 : (Cond.instanceMethod ({ cls := "SectionDesk$Desk", name := "checkOutFault", desc := "(I)I" } : MethodName)) ∈ GL := gl_of 564 (by decide +kernel) (by decide +kernel)
theorem gw_456 : (Cond.selects "SectionDesk$Desk" ({ cls := "SectionDesk$Desk", name := "checkOutFault", desc := "(I)I" } : MethodName) ({ cls := "SectionDesk$Desk", name := "checkOutFault", desc := "(I)I" } : MethodName)) ∈ GL := gl_of 565 (by decide +kernel) (by decide +kernel)
theorem gw_457 : (Cond.code ({ cls := "SectionDesk$Desk", name := "checkOutFault", desc := "(I)I" } : MethodName) prog_3_method_33_code (2 : Nat) (Option.some FieldType.int)) ∈ GL := gl_of 566 (by decide +kernel) (by decide +kernel)
theorem gw_458 : (Cond.methodLink "SectionDesk" (150 : Nat) ({ cls := "SectionDesk$Desk", name := "breakFault", desc := "(I)I" } : MethodName)) ∈ GL := gl_of 567 (by decide +kernel) (by decide +kernel)
theorem gw_459 : (Cond.instanceMethod ({ cls := "SectionDesk$Desk", name := "breakFault", desc := "(I)I" } : MethodName)) ∈ GL := gl_of 568 (by decide +kernel) (by decide +kernel)
theorem gw_460 : (Cond.selects "SectionDesk$Desk" ({ cls := "SectionDesk$Desk", name := "breakFault", desc := "(I)I" } : MethodName) ({ cls := "SectionDesk$Desk", name := "breakFault", desc := "(I)I" } : MethodName)) ∈ GL := gl_of 569 (by decide +kernel) (by decide +kernel)
theorem gw_461 : (Cond.code ({ cls := "SectionDesk$Desk", name := "breakFault", desc := "(I)I" } : MethodName) prog_3_method_38_code (2 : Nat) (Option.some FieldType.int)) ∈ GL := gl_of 570 (by decide +kernel) (by decide +kernel)
theorem gw_462 : (Cond.methodLink "SectionDesk" (258 : Nat) ({ cls := "SectionDesk$Desk", name := "passFault", desc := "(I)I" } : MethodName)) ∈ GL := gl_of 571 (by decide +kernel) (by decide +kernel)
theorem gw_463 : (Cond.instanceMethod ({ cls := "SectionDesk$Desk", name := "passFault", desc := "(I)I" } : MethodName)) ∈ GL := gl_of 572 (by decide +kernel) (by decide +kernel)
theorem gw_464 : (Cond.selects "SectionDesk$Desk" ({ cls := "SectionDesk$Desk", name := "passFault", desc := "(I)I" } : MethodName) ({ cls := "SectionDesk$Desk", name := "passFault", desc := "(I)I" } : MethodName)) ∈ GL := gl_of 573 (by decide +kernel) (by decide +kernel)
theorem gw_465 : (Cond.code ({ cls := "SectionDesk$Desk", name := "passFault", desc := "(I)I" } : MethodName) prog_3_method_51_code (2 : Nat) (Option.some FieldType.int)) ∈ GL := gl_of 574 (by decide +kernel) (by decide +kernel)
theorem gw_466 : (Cond.methodLink "SectionDesk" (135 : Nat) ({ cls := "SectionDesk$Desk", name := "requestNow", desc := "(IIIZ)I" } : MethodName)) ∈ GL := gl_of 575 (by decide +kernel) (by decide +kernel)
theorem gw_467 : (Cond.instanceMethod ({ cls := "SectionDesk$Desk", name := "requestNow", desc := "(IIIZ)I" } : MethodName)) ∈ GL := gl_of 576 (by decide +kernel) (by decide +kernel)
theorem gw_468 : (Cond.selects "SectionDesk$Desk" ({ cls := "SectionDesk$Desk", name := "requestNow", desc := "(IIIZ)I" } : MethodName) ({ cls := "SectionDesk$Desk", name := "requestNow", desc := "(IIIZ)I" } : MethodName)) ∈ GL := gl_of 577 (by decide +kernel) (by decide +kernel)
theorem gw_469 : (Cond.code ({ cls := "SectionDesk$Desk", name := "requestNow", desc := "(IIIZ)I" } : MethodName) prog_3_method_23_code (5 : Nat) (Option.some FieldType.int)) ∈ GL := gl_of 578 (by decide +kernel) (by decide +kernel)
theorem gw_470 : (Cond.methodLink "SectionDesk$Desk" (196 : Nat) ({ cls := "SectionDesk$Queue", name := "join", desc := "(IIIZ)I" } : MethodName)) ∈ GL := gl_of 579 (by decide +kernel) (by decide +kernel)
theorem gw_471 : (Cond.instanceMethod ({ cls := "SectionDesk$Queue", name := "join", desc := "(IIIZ)I" } : MethodName)) ∈ GL := gl_of 580 (by decide +kernel) (by decide +kernel)
theorem gw_472 : (Cond.selects "SectionDesk$Queue" ({ cls := "SectionDesk$Queue", name := "join", desc := "(IIIZ)I" } : MethodName) ({ cls := "SectionDesk$Queue", name := "join", desc := "(IIIZ)I" } : MethodName)) ∈ GL := gl_of 581 (by decide +kernel) (by decide +kernel)
theorem gw_473 : (Cond.code ({ cls := "SectionDesk$Queue", name := "join", desc := "(IIIZ)I" } : MethodName) prog_7_method_8_code (5 : Nat) (Option.some FieldType.int)) ∈ GL := gl_of 582 (by decide +kernel) (by decide +kernel)
theorem gw_474 : (Cond.methodLink "SectionDesk$Queue" (27 : Nat) ({ cls := "SectionDesk$Queue", name := "isFull", desc := "()Z" } : MethodName)) ∈ GL := gl_of 583 (by decide +kernel) (by decide +kernel)
theorem gw_475 : (Cond.methodLink "SectionDesk$Queue" (31 : Nat) ({ cls := "SectionDesk$Queue", name := "setFact", desc := "(III)V" } : MethodName)) ∈ GL := gl_of 584 (by decide +kernel) (by decide +kernel)
theorem gw_477 : (Cond.instanceMethod ({ cls := "SectionDesk$Queue", name := "setFact", desc := "(III)V" } : MethodName)) ∈ GL := gl_of 586 (by decide +kernel) (by decide +kernel)
theorem gw_478 : (Cond.code ({ cls := "SectionDesk$Queue", name := "setFact", desc := "(III)V" } : MethodName) prog_7_method_4_code (4 : Nat) (Option.none : Option FieldType)) ∈ GL := gl_of 587 (by decide +kernel) (by decide +kernel)
theorem gw_479 : (Cond.methodLink "SectionDesk$Desk" (200 : Nat) ({ cls := "SectionDesk$Desk", name := "lookAt", desc := "(I)I" } : MethodName)) ∈ GL := gl_of 588 (by decide +kernel) (by decide +kernel)
theorem gw_481 : (Cond.instanceMethod ({ cls := "SectionDesk$Desk", name := "lookAt", desc := "(I)I" } : MethodName)) ∈ GL := gl_of 590 (by decide +kernel) (by decide +kernel)
theorem gw_482 : (Cond.code ({ cls := "SectionDesk$Desk", name := "lookAt", desc := "(I)I" } : MethodName) prog_3_method_25_code (7 : Nat) (Option.some FieldType.int)) ∈ GL := gl_of 591 (by decide +kernel) (by decide +kernel)
theorem gw_483 : (Cond.methodLink "SectionDesk$Desk" (206 : Nat) ({ cls := "SectionDesk$Desk", name := "absorbedBy", desc := "(I)I" } : MethodName)) ∈ GL := gl_of 592 (by decide +kernel) (by decide +kernel)
theorem gw_485 : (Cond.instanceMethod ({ cls := "SectionDesk$Desk", name := "absorbedBy", desc := "(I)I" } : MethodName)) ∈ GL := gl_of 594 (by decide +kernel) (by decide +kernel)
theorem gw_486 : (Cond.code ({ cls := "SectionDesk$Desk", name := "absorbedBy", desc := "(I)I" } : MethodName) prog_3_method_26_code (6 : Nat) (Option.some FieldType.int)) ∈ GL := gl_of 595 (by decide +kernel) (by decide +kernel)
theorem gw_487 : (Cond.methodLink "SectionDesk$Desk" (221 : Nat) ({ cls := "SectionDesk$Queue", name := "fact", desc := "(II)I" } : MethodName)) ∈ GL := gl_of 596 (by decide +kernel) (by decide +kernel)
theorem gw_488 : (Cond.methodLink "SectionDesk$Desk" (209 : Nat) ({ cls := "SectionDesk$CheckOuts", name := "countWithout", desc := "(I)I" } : MethodName)) ∈ GL := gl_of 597 (by decide +kernel) (by decide +kernel)
theorem gw_489 : (Cond.instanceMethod ({ cls := "SectionDesk$CheckOuts", name := "countWithout", desc := "(I)I" } : MethodName)) ∈ GL := gl_of 598 (by decide +kernel) (by decide +kernel)
theorem gw_490 : (Cond.selects "SectionDesk$CheckOuts" ({ cls := "SectionDesk$CheckOuts", name := "countWithout", desc := "(I)I" } : MethodName) ({ cls := "SectionDesk$CheckOuts", name := "countWithout", desc := "(I)I" } : MethodName)) ∈ GL := gl_of 599 (by decide +kernel) (by decide +kernel)
theorem gw_491 : (Cond.code ({ cls := "SectionDesk$CheckOuts", name := "countWithout", desc := "(I)I" } : MethodName) prog_2_method_9_code (2 : Nat) (Option.some FieldType.int)) ∈ GL := gl_of 600 (by decide +kernel) (by decide +kernel)
theorem gw_492 : (Cond.methodLink "SectionDesk$CheckOuts" (40 : Nat) ({ cls := "java/lang/Integer", name := "bitCount", desc := "(I)I" } : MethodName)) ∈ GL := gl_of 601 (by decide +kernel) (by decide +kernel)
theorem gw_493 : (Cond.static ({ cls := "java/lang/Integer", name := "bitCount", desc := "(I)I" } : MethodName)) ∈ GL := gl_of 602 (by decide +kernel) (by decide +kernel)
theorem gw_494 : (Cond.code ({ cls := "java/lang/Integer", name := "bitCount", desc := "(I)I" } : MethodName) prog_17_method_49_code (1 : Nat) (Option.some FieldType.int)) ∈ GL := gl_of 603 (by decide +kernel) (by decide +kernel)
theorem gw_495 : (Cond.constant "java/lang/Integer" (265 : Nat) (1431655765 : Int32)) ∈ GL := gl_of 604 (by decide +kernel) (by decide +kernel)
theorem gw_496 : (Cond.constant "java/lang/Integer" (266 : Nat) (858993459 : Int32)) ∈ GL := gl_of 605 (by decide +kernel) (by decide +kernel)
theorem gw_497 : (Cond.constant "java/lang/Integer" (267 : Nat) (252645135 : Int32)) ∈ GL := gl_of 606 (by decide +kernel) (by decide +kernel)
theorem gw_498 : (Cond.methodLink "SectionDesk$Desk" (212 : Nat) ({ cls := "SectionDesk$Desk", name := "hinderersOf", desc := "(II)I" } : MethodName)) ∈ GL := gl_of 607 (by decide +kernel) (by decide +kernel)
theorem gw_500 : (Cond.instanceMethod ({ cls := "SectionDesk$Desk", name := "hinderersOf", desc := "(II)I" } : MethodName)) ∈ GL := gl_of 609 (by decide +kernel) (by decide +kernel)
theorem gw_501 : (Cond.code ({ cls := "SectionDesk$Desk", name := "hinderersOf", desc := "(II)I" } : MethodName) prog_3_method_27_code (7 : Nat) (Option.some FieldType.int)) ∈ GL := gl_of 610 (by decide +kernel) (by decide +kernel)
theorem gw_502 : (Cond.methodLink "SectionDesk$Desk" (215 : Nat) ({ cls := "SectionDesk$Desk", name := "blockersOf", desc := "(I)I" } : MethodName)) ∈ GL := gl_of 611 (by decide +kernel) (by decide +kernel)
theorem gw_504 : (Cond.instanceMethod ({ cls := "SectionDesk$Desk", name := "blockersOf", desc := "(I)I" } : MethodName)) ∈ GL := gl_of 613 (by decide +kernel) (by decide +kernel)
theorem gw_505 : (Cond.code ({ cls := "SectionDesk$Desk", name := "blockersOf", desc := "(I)I" } : MethodName) prog_3_method_28_code (6 : Nat) (Option.some FieldType.int)) ∈ GL := gl_of 614 (by decide +kernel) (by decide +kernel)
theorem gw_506 : (Cond.methodLink "SectionDesk$Desk" (218 : Nat) ({ cls := "SectionDesk$CheckOuts", name := "lowestFree", desc := "(I)I" } : MethodName)) ∈ GL := gl_of 615 (by decide +kernel) (by decide +kernel)
theorem gw_507 : (Cond.instanceMethod ({ cls := "SectionDesk$CheckOuts", name := "lowestFree", desc := "(I)I" } : MethodName)) ∈ GL := gl_of 616 (by decide +kernel) (by decide +kernel)
theorem gw_508 : (Cond.selects "SectionDesk$CheckOuts" ({ cls := "SectionDesk$CheckOuts", name := "lowestFree", desc := "(I)I" } : MethodName) ({ cls := "SectionDesk$CheckOuts", name := "lowestFree", desc := "(I)I" } : MethodName)) ∈ GL := gl_of 617 (by decide +kernel) (by decide +kernel)
theorem gw_509 : (Cond.code ({ cls := "SectionDesk$CheckOuts", name := "lowestFree", desc := "(I)I" } : MethodName) prog_2_method_10_code (3 : Nat) (Option.some FieldType.int)) ∈ GL := gl_of 618 (by decide +kernel) (by decide +kernel)
theorem gw_511 : (Cond.methodLink "SectionDesk$Desk" (222 : Nat) ({ cls := "SectionDesk$Desk", name := "startCopy", desc := "(III)V" } : MethodName)) ∈ GL := gl_of 620 (by decide +kernel) (by decide +kernel)
theorem gw_513 : (Cond.instanceMethod ({ cls := "SectionDesk$Desk", name := "startCopy", desc := "(III)V" } : MethodName)) ∈ GL := gl_of 622 (by decide +kernel) (by decide +kernel)
theorem gw_514 : (Cond.code ({ cls := "SectionDesk$Desk", name := "startCopy", desc := "(III)V" } : MethodName) prog_3_method_30_code (7 : Nat) (Option.none : Option FieldType)) ∈ GL := gl_of 623 (by decide +kernel) (by decide +kernel)
theorem gw_515 : (Cond.methodLink "SectionDesk$Desk" (238 : Nat) ({ cls := "SectionDesk$CheckOuts", name := "copyOther", desc := "(III)V" } : MethodName)) ∈ GL := gl_of 624 (by decide +kernel) (by decide +kernel)
theorem gw_516 : (Cond.instanceMethod ({ cls := "SectionDesk$CheckOuts", name := "copyOther", desc := "(III)V" } : MethodName)) ∈ GL := gl_of 625 (by decide +kernel) (by decide +kernel)
theorem gw_517 : (Cond.selects "SectionDesk$CheckOuts" ({ cls := "SectionDesk$CheckOuts", name := "copyOther", desc := "(III)V" } : MethodName) ({ cls := "SectionDesk$CheckOuts", name := "copyOther", desc := "(III)V" } : MethodName)) ∈ GL := gl_of 626 (by decide +kernel) (by decide +kernel)
theorem gw_518 : (Cond.code ({ cls := "SectionDesk$CheckOuts", name := "copyOther", desc := "(III)V" } : MethodName) prog_2_method_21_code (5 : Nat) (Option.none : Option FieldType)) ∈ GL := gl_of 627 (by decide +kernel) (by decide +kernel)
theorem gw_519 : (Cond.methodLink "SectionDesk$CheckOuts" (76 : Nat) ({ cls := "SectionDesk$CheckOuts", name := "baseAt", desc := "(II)I" } : MethodName)) ∈ GL := gl_of 628 (by decide +kernel) (by decide +kernel)
theorem gw_520 : (Cond.methodLink "SectionDesk$CheckOuts" (70 : Nat) ({ cls := "SectionDesk$CheckOuts", name := "setBase", desc := "(III)V" } : MethodName)) ∈ GL := gl_of 629 (by decide +kernel) (by decide +kernel)
theorem gw_522 : (Cond.instanceMethod ({ cls := "SectionDesk$CheckOuts", name := "setBase", desc := "(III)V" } : MethodName)) ∈ GL := gl_of 631 (by decide +kernel) (by decide +kernel)
theorem gw_523 : (Cond.code ({ cls := "SectionDesk$CheckOuts", name := "setBase", desc := "(III)V" } : MethodName) prog_2_method_19_code (4 : Nat) (Option.none : Option FieldType)) ∈ GL := gl_of 632 (by decide +kernel) (by decide +kernel)
theorem gw_524 : (Cond.methodLink "SectionDesk$CheckOuts" (79 : Nat) ({ cls := "SectionDesk$CheckOuts", name := "ownAt", desc := "(II)I" } : MethodName)) ∈ GL := gl_of 633 (by decide +kernel) (by decide +kernel)
theorem gw_525 : (Cond.methodLink "SectionDesk$CheckOuts" (73 : Nat) ({ cls := "SectionDesk$CheckOuts", name := "setOwn", desc := "(III)V" } : MethodName)) ∈ GL := gl_of 634 (by decide +kernel) (by decide +kernel)
theorem gw_526 : (Cond.instanceMethod ({ cls := "SectionDesk$CheckOuts", name := "setOwn", desc := "(III)V" } : MethodName)) ∈ GL := gl_of 635 (by decide +kernel) (by decide +kernel)
theorem gw_527 : (Cond.selects "SectionDesk$CheckOuts" ({ cls := "SectionDesk$CheckOuts", name := "setOwn", desc := "(III)V" } : MethodName) ({ cls := "SectionDesk$CheckOuts", name := "setOwn", desc := "(III)V" } : MethodName)) ∈ GL := gl_of 636 (by decide +kernel) (by decide +kernel)
theorem gw_528 : (Cond.code ({ cls := "SectionDesk$CheckOuts", name := "setOwn", desc := "(III)V" } : MethodName) prog_2_method_18_code (4 : Nat) (Option.none : Option FieldType)) ∈ GL := gl_of 637 (by decide +kernel) (by decide +kernel)
theorem gw_529 : (Cond.methodLink "SectionDesk$Desk" (241 : Nat) ({ cls := "SectionDesk$CheckOuts", name := "copyDocument", desc := "(IILSectionDesk$Tree;)V" } : MethodName)) ∈ GL := gl_of 638 (by decide +kernel) (by decide +kernel)
theorem gw_530 : (Cond.instanceMethod ({ cls := "SectionDesk$CheckOuts", name := "copyDocument", desc := "(IILSectionDesk$Tree;)V" } : MethodName)) ∈ GL := gl_of 639 (by decide +kernel) (by decide +kernel)
theorem gw_531 : (Cond.selects "SectionDesk$CheckOuts" ({ cls := "SectionDesk$CheckOuts", name := "copyDocument", desc := "(IILSectionDesk$Tree;)V" } : MethodName) ({ cls := "SectionDesk$CheckOuts", name := "copyDocument", desc := "(IILSectionDesk$Tree;)V" } : MethodName)) ∈ GL := gl_of 640 (by decide +kernel) (by decide +kernel)
theorem gw_532 : (Cond.code ({ cls := "SectionDesk$CheckOuts", name := "copyDocument", desc := "(IILSectionDesk$Tree;)V" } : MethodName) prog_2_method_20_code (5 : Nat) (Option.none : Option FieldType)) ∈ GL := gl_of 641 (by decide +kernel) (by decide +kernel)
theorem gw_533 : (Cond.methodLink "SectionDesk$CheckOuts" (65 : Nat) ({ cls := "SectionDesk$Tree", name := "valueAt", desc := "(I)I" } : MethodName)) ∈ GL := gl_of 642 (by decide +kernel) (by decide +kernel)
theorem gw_534 : (Cond.methodLink "SectionDesk$Desk" (226 : Nat) ({ cls := "SectionDesk$CheckOuts", name := "closeAll", desc := "(I)V" } : MethodName)) ∈ GL := gl_of 643 (by decide +kernel) (by decide +kernel)
theorem gw_535 : (Cond.instanceMethod ({ cls := "SectionDesk$CheckOuts", name := "closeAll", desc := "(I)V" } : MethodName)) ∈ GL := gl_of 644 (by decide +kernel) (by decide +kernel)
theorem gw_536 : (Cond.selects "SectionDesk$CheckOuts" ({ cls := "SectionDesk$CheckOuts", name := "closeAll", desc := "(I)V" } : MethodName) ({ cls := "SectionDesk$CheckOuts", name := "closeAll", desc := "(I)V" } : MethodName)) ∈ GL := gl_of 645 (by decide +kernel) (by decide +kernel)
theorem gw_537 : (Cond.code ({ cls := "SectionDesk$CheckOuts", name := "closeAll", desc := "(I)V" } : MethodName) prog_2_method_14_code (2 : Nat) (Option.none : Option FieldType)) ∈ GL := gl_of 646 (by decide +kernel) (by decide +kernel)
theorem gw_538 : (Cond.methodLink "SectionDesk$Desk" (229 : Nat) ({ cls := "SectionDesk$CheckOuts", name := "open", desc := "(IIIII)V" } : MethodName)) ∈ GL := gl_of 647 (by decide +kernel) (by decide +kernel)
theorem gw_539 : (Cond.instanceMethod ({ cls := "SectionDesk$CheckOuts", name := "open", desc := "(IIIII)V" } : MethodName)) ∈ GL := gl_of 648 (by decide +kernel) (by decide +kernel)
theorem gw_540 : (Cond.selects "SectionDesk$CheckOuts" ({ cls := "SectionDesk$CheckOuts", name := "open", desc := "(IIIII)V" } : MethodName) ({ cls := "SectionDesk$CheckOuts", name := "open", desc := "(IIIII)V" } : MethodName)) ∈ GL := gl_of 649 (by decide +kernel) (by decide +kernel)
theorem gw_541 : (Cond.code ({ cls := "SectionDesk$CheckOuts", name := "open", desc := "(IIIII)V" } : MethodName) prog_2_method_11_code (6 : Nat) (Option.none : Option FieldType)) ∈ GL := gl_of 650 (by decide +kernel) (by decide +kernel)
theorem gw_543 : (Cond.methodLink "SectionDesk$CheckOuts" (54 : Nat) ({ cls := "SectionDesk$CheckOuts", name := "setFact", desc := "(III)V" } : MethodName)) ∈ GL := gl_of 652 (by decide +kernel) (by decide +kernel)
theorem gw_545 : (Cond.instanceMethod ({ cls := "SectionDesk$CheckOuts", name := "setFact", desc := "(III)V" } : MethodName)) ∈ GL := gl_of 654 (by decide +kernel) (by decide +kernel)
theorem gw_546 : (Cond.code ({ cls := "SectionDesk$CheckOuts", name := "setFact", desc := "(III)V" } : MethodName) prog_2_method_5_code (4 : Nat) (Option.none : Option FieldType)) ∈ GL := gl_of 655 (by decide +kernel) (by decide +kernel)
theorem gw_547 : (Cond.methodLink "SectionDesk$Desk" (232 : Nat) ({ cls := "SectionDesk$Queue", name := "leave", desc := "(I)V" } : MethodName)) ∈ GL := gl_of 656 (by decide +kernel) (by decide +kernel)
theorem gw_548 : (Cond.instanceMethod ({ cls := "SectionDesk$Queue", name := "leave", desc := "(I)V" } : MethodName)) ∈ GL := gl_of 657 (by decide +kernel) (by decide +kernel)
theorem gw_549 : (Cond.selects "SectionDesk$Queue" ({ cls := "SectionDesk$Queue", name := "leave", desc := "(I)V" } : MethodName) ({ cls := "SectionDesk$Queue", name := "leave", desc := "(I)V" } : MethodName)) ∈ GL := gl_of 658 (by decide +kernel) (by decide +kernel)
theorem gw_550 : (Cond.code ({ cls := "SectionDesk$Queue", name := "leave", desc := "(I)V" } : MethodName) prog_7_method_9_code (4 : Nat) (Option.none : Option FieldType)) ∈ GL := gl_of 659 (by decide +kernel) (by decide +kernel)
theorem gw_552 : (Cond.methodLink "SectionDesk" (166 : Nat) ({ cls := "SectionDesk$Desk", name := "editNow", desc := "(IIII)I" } : MethodName)) ∈ GL := gl_of 661 (by decide +kernel) (by decide +kernel)
theorem gw_553 : (Cond.instanceMethod ({ cls := "SectionDesk$Desk", name := "editNow", desc := "(IIII)I" } : MethodName)) ∈ GL := gl_of 662 (by decide +kernel) (by decide +kernel)
theorem gw_554 : (Cond.selects "SectionDesk$Desk" ({ cls := "SectionDesk$Desk", name := "editNow", desc := "(IIII)I" } : MethodName) ({ cls := "SectionDesk$Desk", name := "editNow", desc := "(IIII)I" } : MethodName)) ∈ GL := gl_of 663 (by decide +kernel) (by decide +kernel)
theorem gw_555 : (Cond.code ({ cls := "SectionDesk$Desk", name := "editNow", desc := "(IIII)I" } : MethodName) prog_3_method_43_code (7 : Nat) (Option.some FieldType.int)) ∈ GL := gl_of 664 (by decide +kernel) (by decide +kernel)
theorem gw_557 : (Cond.static ({ cls := "SectionDesk", name := "cellOf", desc := "(II)I" } : MethodName)) ∈ GL := gl_of 666 (by decide +kernel) (by decide +kernel)
theorem gw_558 : (Cond.code ({ cls := "SectionDesk", name := "cellOf", desc := "(II)I" } : MethodName) prog_1_method_47_code (2 : Nat) (Option.some FieldType.int)) ∈ GL := gl_of 667 (by decide +kernel) (by decide +kernel)
theorem gw_559 : (Cond.methodLink "SectionDesk$Desk" (273 : Nat) ({ cls := "SectionDesk$CheckOuts", name := "setOwn", desc := "(III)V" } : MethodName)) ∈ GL := gl_of 668 (by decide +kernel) (by decide +kernel)
theorem gw_560 : (Cond.methodLink "SectionDesk" (190 : Nat) ({ cls := "SectionDesk$Desk", name := "giveBackNow", desc := "(II)I" } : MethodName)) ∈ GL := gl_of 669 (by decide +kernel) (by decide +kernel)
theorem gw_561 : (Cond.instanceMethod ({ cls := "SectionDesk$Desk", name := "giveBackNow", desc := "(II)I" } : MethodName)) ∈ GL := gl_of 670 (by decide +kernel) (by decide +kernel)
theorem gw_562 : (Cond.selects "SectionDesk$Desk" ({ cls := "SectionDesk$Desk", name := "giveBackNow", desc := "(II)I" } : MethodName) ({ cls := "SectionDesk$Desk", name := "giveBackNow", desc := "(II)I" } : MethodName)) ∈ GL := gl_of 671 (by decide +kernel) (by decide +kernel)
theorem gw_563 : (Cond.code ({ cls := "SectionDesk$Desk", name := "giveBackNow", desc := "(II)I" } : MethodName) prog_3_method_48_code (4 : Nat) (Option.some FieldType.int)) ∈ GL := gl_of 672 (by decide +kernel) (by decide +kernel)
theorem gw_564 : (Cond.methodLink "SectionDesk$Desk" (137 : Nat) ({ cls := "SectionDesk$Desk", name := "wantPresent", desc := "()V" } : MethodName)) ∈ GL := gl_of 673 (by decide +kernel) (by decide +kernel)
theorem gw_566 : (Cond.instanceMethod ({ cls := "SectionDesk$Desk", name := "wantPresent", desc := "()V" } : MethodName)) ∈ GL := gl_of 675 (by decide +kernel) (by decide +kernel)
theorem gw_567 : (Cond.code ({ cls := "SectionDesk$Desk", name := "wantPresent", desc := "()V" } : MethodName) prog_3_method_14_code (1 : Nat) (Option.none : Option FieldType)) ∈ GL := gl_of 676 (by decide +kernel) (by decide +kernel)
theorem gw_568 : (Cond.methodLink "SectionDesk$Desk" (282 : Nat) ({ cls := "SectionDesk$Desk", name := "wantReturned", desc := "(II)V" } : MethodName)) ∈ GL := gl_of 677 (by decide +kernel) (by decide +kernel)
theorem gw_570 : (Cond.instanceMethod ({ cls := "SectionDesk$Desk", name := "wantReturned", desc := "(II)V" } : MethodName)) ∈ GL := gl_of 679 (by decide +kernel) (by decide +kernel)
theorem gw_571 : (Cond.code ({ cls := "SectionDesk$Desk", name := "wantReturned", desc := "(II)V" } : MethodName) prog_3_method_49_code (5 : Nat) (Option.none : Option FieldType)) ∈ GL := gl_of 680 (by decide +kernel) (by decide +kernel)
theorem gw_572 : (Cond.methodLink "SectionDesk$Desk" (285 : Nat) ({ cls := "SectionDesk$Desk", name := "returnedValue", desc := "(III)I" } : MethodName)) ∈ GL := gl_of 681 (by decide +kernel) (by decide +kernel)
theorem gw_574 : (Cond.instanceMethod ({ cls := "SectionDesk$Desk", name := "returnedValue", desc := "(III)I" } : MethodName)) ∈ GL := gl_of 683 (by decide +kernel) (by decide +kernel)
theorem gw_575 : (Cond.code ({ cls := "SectionDesk$Desk", name := "returnedValue", desc := "(III)I" } : MethodName) prog_3_method_50_code (6 : Nat) (Option.some FieldType.int)) ∈ GL := gl_of 684 (by decide +kernel) (by decide +kernel)
theorem gw_576 : (Cond.methodLink "SectionDesk$Desk" (140 : Nat) ({ cls := "SectionDesk$Desk", name := "want", desc := "(II)V" } : MethodName)) ∈ GL := gl_of 685 (by decide +kernel) (by decide +kernel)
theorem gw_578 : (Cond.instanceMethod ({ cls := "SectionDesk$Desk", name := "want", desc := "(II)V" } : MethodName)) ∈ GL := gl_of 687 (by decide +kernel) (by decide +kernel)
theorem gw_579 : (Cond.code ({ cls := "SectionDesk$Desk", name := "want", desc := "(II)V" } : MethodName) prog_3_method_15_code (3 : Nat) (Option.none : Option FieldType)) ∈ GL := gl_of 688 (by decide +kernel) (by decide +kernel)
theorem gw_581 : (Cond.static ({ cls := "SectionDesk", name := "isCell", desc := "(I)Z" } : MethodName)) ∈ GL := gl_of 690 (by decide +kernel) (by decide +kernel)
theorem gw_582 : (Cond.code ({ cls := "SectionDesk", name := "isCell", desc := "(I)Z" } : MethodName) prog_1_method_46_code (1 : Nat) (Option.some FieldType.boolean)) ∈ GL := gl_of 691 (by decide +kernel) (by decide +kernel)
theorem gw_583 : (Cond.methodLink "SectionDesk$Desk" (144 : Nat) ({ cls := "SectionDesk$Desk", name := "changeToWanted", desc := "(I)I" } : MethodName)) ∈ GL := gl_of 692 (by decide +kernel) (by decide +kernel)
theorem gw_585 : (Cond.instanceMethod ({ cls := "SectionDesk$Desk", name := "changeToWanted", desc := "(I)I" } : MethodName)) ∈ GL := gl_of 694 (by decide +kernel) (by decide +kernel)
theorem gw_586 : (Cond.code ({ cls := "SectionDesk$Desk", name := "changeToWanted", desc := "(I)I" } : MethodName) prog_3_method_16_code (6 : Nat) (Option.some FieldType.int)) ∈ GL := gl_of 695 (by decide +kernel) (by decide +kernel)
theorem gw_587 : (Cond.methodLink "SectionDesk$Desk" (153 : Nat) ({ cls := "SectionDesk$Desk", name := "changeCell", desc := "(II)I" } : MethodName)) ∈ GL := gl_of 696 (by decide +kernel) (by decide +kernel)
theorem gw_589 : (Cond.instanceMethod ({ cls := "SectionDesk$Desk", name := "changeCell", desc := "(II)I" } : MethodName)) ∈ GL := gl_of 698 (by decide +kernel) (by decide +kernel)
theorem gw_590 : (Cond.code ({ cls := "SectionDesk$Desk", name := "changeCell", desc := "(II)I" } : MethodName) prog_3_method_17_code (3 : Nat) (Option.some FieldType.int)) ∈ GL := gl_of 699 (by decide +kernel) (by decide +kernel)
theorem gw_591 : (Cond.methodLink "SectionDesk$Desk" (159 : Nat) ({ cls := "SectionDesk$History", name := "add", desc := "(IIIII)V" } : MethodName)) ∈ GL := gl_of 700 (by decide +kernel) (by decide +kernel)
theorem gw_592 : (Cond.instanceMethod ({ cls := "SectionDesk$History", name := "add", desc := "(IIIII)V" } : MethodName)) ∈ GL := gl_of 701 (by decide +kernel) (by decide +kernel)
theorem gw_593 : (Cond.selects "SectionDesk$History" ({ cls := "SectionDesk$History", name := "add", desc := "(IIIII)V" } : MethodName) ({ cls := "SectionDesk$History", name := "add", desc := "(IIIII)V" } : MethodName)) ∈ GL := gl_of 702 (by decide +kernel) (by decide +kernel)
theorem gw_594 : (Cond.code ({ cls := "SectionDesk$History", name := "add", desc := "(IIIII)V" } : MethodName) prog_4_method_6_code (6 : Nat) (Option.none : Option FieldType)) ∈ GL := gl_of 703 (by decide +kernel) (by decide +kernel)
theorem gw_595 : (Cond.methodLink "SectionDesk$History" (30 : Nat) ({ cls := "SectionDesk$History", name := "setFact", desc := "(III)V" } : MethodName)) ∈ GL := gl_of 704 (by decide +kernel) (by decide +kernel)
theorem gw_597 : (Cond.instanceMethod ({ cls := "SectionDesk$History", name := "setFact", desc := "(III)V" } : MethodName)) ∈ GL := gl_of 706 (by decide +kernel) (by decide +kernel)
theorem gw_598 : (Cond.code ({ cls := "SectionDesk$History", name := "setFact", desc := "(III)V" } : MethodName) prog_4_method_5_code (5 : Nat) (Option.none : Option FieldType)) ∈ GL := gl_of 707 (by decide +kernel) (by decide +kernel)
theorem gw_599 : (Cond.methodLink "SectionDesk$History" (26 : Nat) ({ cls := "SectionDesk$History", name := "indexOf", desc := "(II)I" } : MethodName)) ∈ GL := gl_of 708 (by decide +kernel) (by decide +kernel)
theorem gw_601 : (Cond.instanceMethod ({ cls := "SectionDesk$History", name := "indexOf", desc := "(II)I" } : MethodName)) ∈ GL := gl_of 710 (by decide +kernel) (by decide +kernel)
theorem gw_602 : (Cond.code ({ cls := "SectionDesk$History", name := "indexOf", desc := "(II)I" } : MethodName) prog_4_method_3_code (4 : Nat) (Option.some FieldType.int)) ∈ GL := gl_of 711 (by decide +kernel) (by decide +kernel)
theorem gw_603 : (Cond.methodLink "SectionDesk$Desk" (163 : Nat) ({ cls := "SectionDesk$Tree", name := "setValue", desc := "(II)V" } : MethodName)) ∈ GL := gl_of 712 (by decide +kernel) (by decide +kernel)
theorem gw_604 : (Cond.instanceMethod ({ cls := "SectionDesk$Tree", name := "setValue", desc := "(II)V" } : MethodName)) ∈ GL := gl_of 713 (by decide +kernel) (by decide +kernel)
theorem gw_605 : (Cond.selects "SectionDesk$Tree" ({ cls := "SectionDesk$Tree", name := "setValue", desc := "(II)V" } : MethodName) ({ cls := "SectionDesk$Tree", name := "setValue", desc := "(II)V" } : MethodName)) ∈ GL := gl_of 714 (by decide +kernel) (by decide +kernel)
theorem gw_606 : (Cond.code ({ cls := "SectionDesk$Tree", name := "setValue", desc := "(II)V" } : MethodName) prog_9_method_19_code (3 : Nat) (Option.none : Option FieldType)) ∈ GL := gl_of 715 (by decide +kernel) (by decide +kernel)
theorem gw_608 : (Cond.methodLink "SectionDesk$Desk" (156 : Nat) ({ cls := "SectionDesk$Tree", name := "raiseVersion", desc := "(I)V" } : MethodName)) ∈ GL := gl_of 717 (by decide +kernel) (by decide +kernel)
theorem gw_609 : (Cond.instanceMethod ({ cls := "SectionDesk$Tree", name := "raiseVersion", desc := "(I)V" } : MethodName)) ∈ GL := gl_of 718 (by decide +kernel) (by decide +kernel)
theorem gw_610 : (Cond.selects "SectionDesk$Tree" ({ cls := "SectionDesk$Tree", name := "raiseVersion", desc := "(I)V" } : MethodName) ({ cls := "SectionDesk$Tree", name := "raiseVersion", desc := "(I)V" } : MethodName)) ∈ GL := gl_of 719 (by decide +kernel) (by decide +kernel)
theorem gw_611 : (Cond.code ({ cls := "SectionDesk$Tree", name := "raiseVersion", desc := "(I)V" } : MethodName) prog_9_method_20_code (2 : Nat) (Option.none : Option FieldType)) ∈ GL := gl_of 720 (by decide +kernel) (by decide +kernel)
theorem gw_612 : (Cond.methodLink "SectionDesk$Tree" (44 : Nat) ({ cls := "SectionDesk$Tree", name := "has", desc := "(I)Z" } : MethodName)) ∈ GL := gl_of 721 (by decide +kernel) (by decide +kernel)
theorem gw_613 : (Cond.methodLink "SectionDesk$Desk" (261 : Nat) ({ cls := "SectionDesk$CheckOuts", name := "close", desc := "(I)V" } : MethodName)) ∈ GL := gl_of 722 (by decide +kernel) (by decide +kernel)
theorem gw_614 : (Cond.instanceMethod ({ cls := "SectionDesk$CheckOuts", name := "close", desc := "(I)V" } : MethodName)) ∈ GL := gl_of 723 (by decide +kernel) (by decide +kernel)
theorem gw_615 : (Cond.selects "SectionDesk$CheckOuts" ({ cls := "SectionDesk$CheckOuts", name := "close", desc := "(I)V" } : MethodName) ({ cls := "SectionDesk$CheckOuts", name := "close", desc := "(I)V" } : MethodName)) ∈ GL := gl_of 724 (by decide +kernel) (by decide +kernel)
theorem gw_616 : (Cond.code ({ cls := "SectionDesk$CheckOuts", name := "close", desc := "(I)V" } : MethodName) prog_2_method_13_code (2 : Nat) (Option.none : Option FieldType)) ∈ GL := gl_of 725 (by decide +kernel) (by decide +kernel)
theorem gw_617 : (Cond.methodLink "SectionDesk$Desk" (245 : Nat) ({ cls := "SectionDesk$Desk", name := "serve", desc := "()I" } : MethodName)) ∈ GL := gl_of 726 (by decide +kernel) (by decide +kernel)
theorem gw_618 : (Cond.instanceMethod ({ cls := "SectionDesk$Desk", name := "serve", desc := "()I" } : MethodName)) ∈ GL := gl_of 727 (by decide +kernel) (by decide +kernel)
theorem gw_619 : (Cond.selects "SectionDesk$Desk" ({ cls := "SectionDesk$Desk", name := "serve", desc := "()I" } : MethodName) ({ cls := "SectionDesk$Desk", name := "serve", desc := "()I" } : MethodName)) ∈ GL := gl_of 728 (by decide +kernel) (by decide +kernel)
theorem gw_620 : (Cond.code ({ cls := "SectionDesk$Desk", name := "serve", desc := "()I" } : MethodName) prog_3_method_24_code (5 : Nat) (Option.some FieldType.int)) ∈ GL := gl_of 729 (by decide +kernel) (by decide +kernel)
theorem gw_621 : (Cond.methodLink "SectionDesk" (159 : Nat) ({ cls := "SectionDesk$Desk", name := "discardNow", desc := "(I)I" } : MethodName)) ∈ GL := gl_of 730 (by decide +kernel) (by decide +kernel)
theorem gw_622 : (Cond.instanceMethod ({ cls := "SectionDesk$Desk", name := "discardNow", desc := "(I)I" } : MethodName)) ∈ GL := gl_of 731 (by decide +kernel) (by decide +kernel)
theorem gw_623 : (Cond.selects "SectionDesk$Desk" ({ cls := "SectionDesk$Desk", name := "discardNow", desc := "(I)I" } : MethodName) ({ cls := "SectionDesk$Desk", name := "discardNow", desc := "(I)I" } : MethodName)) ∈ GL := gl_of 732 (by decide +kernel) (by decide +kernel)
theorem gw_624 : (Cond.code ({ cls := "SectionDesk$Desk", name := "discardNow", desc := "(I)I" } : MethodName) prog_3_method_40_code (3 : Nat) (Option.some FieldType.int)) ∈ GL := gl_of 733 (by decide +kernel) (by decide +kernel)
theorem gw_625 : (Cond.methodLink "SectionDesk$Desk" (258 : Nat) ({ cls := "SectionDesk$Desk", name := "countEdited", desc := "(I)I" } : MethodName)) ∈ GL := gl_of 734 (by decide +kernel) (by decide +kernel)
theorem gw_626 : (Cond.instanceMethod ({ cls := "SectionDesk$Desk", name := "countEdited", desc := "(I)I" } : MethodName)) ∈ GL := gl_of 735 (by decide +kernel) (by decide +kernel)
theorem gw_627 : (Cond.selects "SectionDesk$Desk" ({ cls := "SectionDesk$Desk", name := "countEdited", desc := "(I)I" } : MethodName) ({ cls := "SectionDesk$Desk", name := "countEdited", desc := "(I)I" } : MethodName)) ∈ GL := gl_of 736 (by decide +kernel) (by decide +kernel)
theorem gw_628 : (Cond.code ({ cls := "SectionDesk$Desk", name := "countEdited", desc := "(I)I" } : MethodName) prog_3_method_41_code (5 : Nat) (Option.some FieldType.int)) ∈ GL := gl_of 737 (by decide +kernel) (by decide +kernel)
theorem gw_629 : (Cond.methodLink "SectionDesk" (153 : Nat) ({ cls := "SectionDesk$Desk", name := "breakNow", desc := "(I)I" } : MethodName)) ∈ GL := gl_of 738 (by decide +kernel) (by decide +kernel)
theorem gw_630 : (Cond.instanceMethod ({ cls := "SectionDesk$Desk", name := "breakNow", desc := "(I)I" } : MethodName)) ∈ GL := gl_of 739 (by decide +kernel) (by decide +kernel)
theorem gw_631 : (Cond.selects "SectionDesk$Desk" ({ cls := "SectionDesk$Desk", name := "breakNow", desc := "(I)I" } : MethodName) ({ cls := "SectionDesk$Desk", name := "breakNow", desc := "(I)I" } : MethodName)) ∈ GL := gl_of 740 (by decide +kernel) (by decide +kernel)
theorem gw_632 : (Cond.code ({ cls := "SectionDesk$Desk", name := "breakNow", desc := "(I)I" } : MethodName) prog_3_method_39_code (3 : Nat) (Option.some FieldType.int)) ∈ GL := gl_of 741 (by decide +kernel) (by decide +kernel)
theorem gw_633 : (Cond.methodLink "SectionDesk$Desk" (255 : Nat) ({ cls := "SectionDesk$CheckOuts", name := "lose", desc := "(I)V" } : MethodName)) ∈ GL := gl_of 742 (by decide +kernel) (by decide +kernel)
theorem gw_634 : (Cond.instanceMethod ({ cls := "SectionDesk$CheckOuts", name := "lose", desc := "(I)V" } : MethodName)) ∈ GL := gl_of 743 (by decide +kernel) (by decide +kernel)
theorem gw_635 : (Cond.selects "SectionDesk$CheckOuts" ({ cls := "SectionDesk$CheckOuts", name := "lose", desc := "(I)V" } : MethodName) ({ cls := "SectionDesk$CheckOuts", name := "lose", desc := "(I)V" } : MethodName)) ∈ GL := gl_of 744 (by decide +kernel) (by decide +kernel)
theorem gw_636 : (Cond.code ({ cls := "SectionDesk$CheckOuts", name := "lose", desc := "(I)V" } : MethodName) prog_2_method_15_code (2 : Nat) (Option.none : Option FieldType)) ∈ GL := gl_of 745 (by decide +kernel) (by decide +kernel)
theorem gw_637 : (Cond.methodLink "SectionDesk$CheckOuts" (58 : Nat) ({ cls := "SectionDesk$CheckOuts", name := "isShared", desc := "(I)Z" } : MethodName)) ∈ GL := gl_of 746 (by decide +kernel) (by decide +kernel)
theorem gw_638 : (Cond.methodLink "SectionDesk$CheckOuts" (61 : Nat) ({ cls := "SectionDesk$CheckOuts", name := "close", desc := "(I)V" } : MethodName)) ∈ GL := gl_of 747 (by decide +kernel) (by decide +kernel)
theorem gw_639 : (Cond.methodLink "SectionDesk" (216 : Nat) ({ cls := "SectionDesk$Desk", name := "passTicks", desc := "(II)V" } : MethodName)) ∈ GL := gl_of 748 (by decide +kernel) (by decide +kernel)
theorem gw_640 : (Cond.instanceMethod ({ cls := "SectionDesk$Desk", name := "passTicks", desc := "(II)V" } : MethodName)) ∈ GL := gl_of 749 (by decide +kernel) (by decide +kernel)
theorem gw_641 : (Cond.selects "SectionDesk$Desk" ({ cls := "SectionDesk$Desk", name := "passTicks", desc := "(II)V" } : MethodName) ({ cls := "SectionDesk$Desk", name := "passTicks", desc := "(II)V" } : MethodName)) ∈ GL := gl_of 750 (by decide +kernel) (by decide +kernel)
theorem gw_642 : (Cond.code ({ cls := "SectionDesk$Desk", name := "passTicks", desc := "(II)V" } : MethodName) prog_3_method_52_code (7 : Nat) (Option.none : Option FieldType)) ∈ GL := gl_of 751 (by decide +kernel) (by decide +kernel)
theorem gw_643 : (Cond.methodLink "SectionDesk$Desk" (289 : Nat) ({ cls := "SectionDesk$Desk", name := "ticksToExpiry", desc := "(I)I" } : MethodName)) ∈ GL := gl_of 752 (by decide +kernel) (by decide +kernel)
theorem gw_645 : (Cond.instanceMethod ({ cls := "SectionDesk$Desk", name := "ticksToExpiry", desc := "(I)I" } : MethodName)) ∈ GL := gl_of 754 (by decide +kernel) (by decide +kernel)
theorem gw_646 : (Cond.code ({ cls := "SectionDesk$Desk", name := "ticksToExpiry", desc := "(I)I" } : MethodName) prog_3_method_53_code (4 : Nat) (Option.some FieldType.int)) ∈ GL := gl_of 755 (by decide +kernel) (by decide +kernel)
theorem gw_647 : (Cond.methodLink "SectionDesk$Desk" (298 : Nat) ({ cls := "java/lang/Math", name := "min", desc := "(II)I" } : MethodName)) ∈ GL := gl_of 756 (by decide +kernel) (by decide +kernel)
theorem gw_648 : (Cond.methodLink "SectionDesk$Desk" (303 : Nat) ({ cls := "java/lang/Math", name := "max", desc := "(II)I" } : MethodName)) ∈ GL := gl_of 757 (by decide +kernel) (by decide +kernel)
theorem gw_649 : (Cond.static ({ cls := "java/lang/Math", name := "max", desc := "(II)I" } : MethodName)) ∈ GL := gl_of 758 (by decide +kernel) (by decide +kernel)
theorem gw_650 : (Cond.code ({ cls := "java/lang/Math", name := "max", desc := "(II)I" } : MethodName) prog_18_method_65_code (2 : Nat) (Option.some FieldType.int)) ∈ GL := gl_of 759 (by decide +kernel) (by decide +kernel)
theorem gw_651 : (Cond.methodLink "SectionDesk$Desk" (292 : Nat) ({ cls := "SectionDesk$Desk", name := "countUse", desc := "(I)V" } : MethodName)) ∈ GL := gl_of 760 (by decide +kernel) (by decide +kernel)
theorem gw_653 : (Cond.instanceMethod ({ cls := "SectionDesk$Desk", name := "countUse", desc := "(I)V" } : MethodName)) ∈ GL := gl_of 762 (by decide +kernel) (by decide +kernel)
theorem gw_654 : (Cond.code ({ cls := "SectionDesk$Desk", name := "countUse", desc := "(I)V" } : MethodName) prog_3_method_55_code (4 : Nat) (Option.none : Option FieldType)) ∈ GL := gl_of 763 (by decide +kernel) (by decide +kernel)
theorem gw_655 : (Cond.methodLink "SectionDesk$Desk" (295 : Nat) ({ cls := "SectionDesk$Desk", name := "loseExpired", desc := "()V" } : MethodName)) ∈ GL := gl_of 764 (by decide +kernel) (by decide +kernel)
theorem gw_657 : (Cond.instanceMethod ({ cls := "SectionDesk$Desk", name := "loseExpired", desc := "()V" } : MethodName)) ∈ GL := gl_of 766 (by decide +kernel) (by decide +kernel)
theorem gw_658 : (Cond.code ({ cls := "SectionDesk$Desk", name := "loseExpired", desc := "()V" } : MethodName) prog_3_method_54_code (2 : Nat) (Option.none : Option FieldType)) ∈ GL := gl_of 767 (by decide +kernel) (by decide +kernel)
theorem gw_659 : (Cond.methodLink "SectionDesk" (48 : Nat) ({ cls := "SectionDesk$SavedStates", name := "push", desc := "(LSectionDesk$Desk;)V" } : MethodName)) ∈ GL := gl_of 768 (by decide +kernel) (by decide +kernel)
theorem gw_660 : (Cond.instanceMethod ({ cls := "SectionDesk$SavedStates", name := "push", desc := "(LSectionDesk$Desk;)V" } : MethodName)) ∈ GL := gl_of 769 (by decide +kernel) (by decide +kernel)
theorem gw_661 : (Cond.selects "SectionDesk$SavedStates" ({ cls := "SectionDesk$SavedStates", name := "push", desc := "(LSectionDesk$Desk;)V" } : MethodName) ({ cls := "SectionDesk$SavedStates", name := "push", desc := "(LSectionDesk$Desk;)V" } : MethodName)) ∈ GL := gl_of 770 (by decide +kernel) (by decide +kernel)
theorem gw_662 : (Cond.code ({ cls := "SectionDesk$SavedStates", name := "push", desc := "(LSectionDesk$Desk;)V" } : MethodName) prog_8_method_2_code (2 : Nat) (Option.none : Option FieldType)) ∈ GL := gl_of 771 (by decide +kernel) (by decide +kernel)
theorem gw_663 : (Cond.methodLink "SectionDesk$SavedStates" (22 : Nat) ({ cls := "SectionDesk$SavedStates", name := "dropOldest", desc := "()V" } : MethodName)) ∈ GL := gl_of 772 (by decide +kernel) (by decide +kernel)
theorem gw_665 : (Cond.instanceMethod ({ cls := "SectionDesk$SavedStates", name := "dropOldest", desc := "()V" } : MethodName)) ∈ GL := gl_of 774 (by decide +kernel) (by decide +kernel)
theorem gw_666 : (Cond.code ({ cls := "SectionDesk$SavedStates", name := "dropOldest", desc := "()V" } : MethodName) prog_8_method_3_code (3 : Nat) (Option.none : Option FieldType)) ∈ GL := gl_of 775 (by decide +kernel) (by decide +kernel)
theorem gw_667 : (Cond.methodLink "SectionDesk$SavedStates" (25 : Nat) ({ cls := "SectionDesk$Desk", name := "copyFrom", desc := "(LSectionDesk$Desk;)V" } : MethodName)) ∈ GL := gl_of 776 (by decide +kernel) (by decide +kernel)
theorem gw_672 : (Cond.constantLong "SectionDesk" (298 : Nat) (2857 : Int64)) ∈ GL := gl_of 781 (by decide +kernel) (by decide +kernel)
theorem gw_673 : (Cond.methodLink "SectionDesk" (300 : Nat) ({ cls := "SectionDesk$Desk", name := "hashOnto", desc := "(J)J" } : MethodName)) ∈ GL := gl_of 782 (by decide +kernel) (by decide +kernel)
theorem gw_674 : (Cond.instanceMethod ({ cls := "SectionDesk$Desk", name := "hashOnto", desc := "(J)J" } : MethodName)) ∈ GL := gl_of 783 (by decide +kernel) (by decide +kernel)
theorem gw_675 : (Cond.selects "SectionDesk$Desk" ({ cls := "SectionDesk$Desk", name := "hashOnto", desc := "(J)J" } : MethodName) ({ cls := "SectionDesk$Desk", name := "hashOnto", desc := "(J)J" } : MethodName)) ∈ GL := gl_of 784 (by decide +kernel) (by decide +kernel)
theorem gw_676 : (Cond.code ({ cls := "SectionDesk$Desk", name := "hashOnto", desc := "(J)J" } : MethodName) prog_3_method_57_code (6 : Nat) (Option.some FieldType.long)) ∈ GL := gl_of 785 (by decide +kernel) (by decide +kernel)
theorem gw_678 : (Cond.static ({ cls := "SectionDesk", name := "hashed", desc := "(JI)J" } : MethodName)) ∈ GL := gl_of 787 (by decide +kernel) (by decide +kernel)
theorem gw_679 : (Cond.code ({ cls := "SectionDesk", name := "hashed", desc := "(JI)J" } : MethodName) prog_1_method_49_code (3 : Nat) (Option.some FieldType.long)) ∈ GL := gl_of 788 (by decide +kernel) (by decide +kernel)
theorem gw_680 : (Cond.constantLong "SectionDesk" (335 : Nat) (31 : Int64)) ∈ GL := gl_of 789 (by decide +kernel) (by decide +kernel)
theorem gw_681 : (Cond.methodLink "SectionDesk$Desk" (310 : Nat) ({ cls := "SectionDesk$Tree", name := "hashOnto", desc := "(J)J" } : MethodName)) ∈ GL := gl_of 790 (by decide +kernel) (by decide +kernel)
theorem gw_682 : (Cond.instanceMethod ({ cls := "SectionDesk$Tree", name := "hashOnto", desc := "(J)J" } : MethodName)) ∈ GL := gl_of 791 (by decide +kernel) (by decide +kernel)
theorem gw_683 : (Cond.selects "SectionDesk$Tree" ({ cls := "SectionDesk$Tree", name := "hashOnto", desc := "(J)J" } : MethodName) ({ cls := "SectionDesk$Tree", name := "hashOnto", desc := "(J)J" } : MethodName)) ∈ GL := gl_of 792 (by decide +kernel) (by decide +kernel)
theorem gw_684 : (Cond.code ({ cls := "SectionDesk$Tree", name := "hashOnto", desc := "(J)J" } : MethodName) prog_9_method_21_code (6 : Nat) (Option.some FieldType.long)) ∈ GL := gl_of 793 (by decide +kernel) (by decide +kernel)
theorem gw_685 : (Cond.methodLink "SectionDesk$Tree" (89 : Nat) ({ cls := "SectionDesk$Tree", name := "hashSection", desc := "(JI)J" } : MethodName)) ∈ GL := gl_of 794 (by decide +kernel) (by decide +kernel)
theorem gw_687 : (Cond.instanceMethod ({ cls := "SectionDesk$Tree", name := "hashSection", desc := "(JI)J" } : MethodName)) ∈ GL := gl_of 796 (by decide +kernel) (by decide +kernel)
theorem gw_688 : (Cond.code ({ cls := "SectionDesk$Tree", name := "hashSection", desc := "(JI)J" } : MethodName) prog_9_method_22_code (8 : Nat) (Option.some FieldType.long)) ∈ GL := gl_of 797 (by decide +kernel) (by decide +kernel)
theorem gw_689 : (Cond.methodLink "SectionDesk$Tree" (93 : Nat) ({ cls := "SectionDesk$Tree", name := "childrenOf", desc := "(I)I" } : MethodName)) ∈ GL := gl_of 798 (by decide +kernel) (by decide +kernel)
theorem gw_690 : (Cond.instanceMethod ({ cls := "SectionDesk$Tree", name := "childrenOf", desc := "(I)I" } : MethodName)) ∈ GL := gl_of 799 (by decide +kernel) (by decide +kernel)
theorem gw_691 : (Cond.selects "SectionDesk$Tree" ({ cls := "SectionDesk$Tree", name := "childrenOf", desc := "(I)I" } : MethodName) ({ cls := "SectionDesk$Tree", name := "childrenOf", desc := "(I)I" } : MethodName)) ∈ GL := gl_of 800 (by decide +kernel) (by decide +kernel)
theorem gw_692 : (Cond.code ({ cls := "SectionDesk$Tree", name := "childrenOf", desc := "(I)I" } : MethodName) prog_9_method_12_code (4 : Nat) (Option.some FieldType.int)) ∈ GL := gl_of 801 (by decide +kernel) (by decide +kernel)
theorem gw_693 : (Cond.methodLink "SectionDesk$Tree" (68 : Nat) ({ cls := "SectionDesk$Tree", name := "parentOf", desc := "(I)I" } : MethodName)) ∈ GL := gl_of 802 (by decide +kernel) (by decide +kernel)
theorem gw_694 : (Cond.instanceMethod ({ cls := "SectionDesk$Tree", name := "parentOf", desc := "(I)I" } : MethodName)) ∈ GL := gl_of 803 (by decide +kernel) (by decide +kernel)
theorem gw_695 : (Cond.selects "SectionDesk$Tree" ({ cls := "SectionDesk$Tree", name := "parentOf", desc := "(I)I" } : MethodName) ({ cls := "SectionDesk$Tree", name := "parentOf", desc := "(I)I" } : MethodName)) ∈ GL := gl_of 804 (by decide +kernel) (by decide +kernel)
theorem gw_696 : (Cond.code ({ cls := "SectionDesk$Tree", name := "parentOf", desc := "(I)I" } : MethodName) prog_9_method_4_code (2 : Nat) (Option.some FieldType.int)) ∈ GL := gl_of 805 (by decide +kernel) (by decide +kernel)
theorem gw_698 : (Cond.methodLink "SectionDesk$Tree" (99 : Nat) ({ cls := "SectionDesk$Tree", name := "versionOf", desc := "(I)I" } : MethodName)) ∈ GL := gl_of 807 (by decide +kernel) (by decide +kernel)
theorem gw_699 : (Cond.instanceMethod ({ cls := "SectionDesk$Tree", name := "versionOf", desc := "(I)I" } : MethodName)) ∈ GL := gl_of 808 (by decide +kernel) (by decide +kernel)
theorem gw_700 : (Cond.selects "SectionDesk$Tree" ({ cls := "SectionDesk$Tree", name := "versionOf", desc := "(I)I" } : MethodName) ({ cls := "SectionDesk$Tree", name := "versionOf", desc := "(I)I" } : MethodName)) ∈ GL := gl_of 809 (by decide +kernel) (by decide +kernel)
theorem gw_701 : (Cond.code ({ cls := "SectionDesk$Tree", name := "versionOf", desc := "(I)I" } : MethodName) prog_9_method_5_code (2 : Nat) (Option.some FieldType.int)) ∈ GL := gl_of 810 (by decide +kernel) (by decide +kernel)
theorem gw_702 : (Cond.methodLink "SectionDesk$Tree" (102 : Nat) ({ cls := "SectionDesk$Tree", name := "childAt", desc := "(II)I" } : MethodName)) ∈ GL := gl_of 811 (by decide +kernel) (by decide +kernel)
theorem gw_703 : (Cond.instanceMethod ({ cls := "SectionDesk$Tree", name := "childAt", desc := "(II)I" } : MethodName)) ∈ GL := gl_of 812 (by decide +kernel) (by decide +kernel)
theorem gw_704 : (Cond.selects "SectionDesk$Tree" ({ cls := "SectionDesk$Tree", name := "childAt", desc := "(II)I" } : MethodName) ({ cls := "SectionDesk$Tree", name := "childAt", desc := "(II)I" } : MethodName)) ∈ GL := gl_of 813 (by decide +kernel) (by decide +kernel)
theorem gw_705 : (Cond.code ({ cls := "SectionDesk$Tree", name := "childAt", desc := "(II)I" } : MethodName) prog_9_method_13_code (5 : Nat) (Option.some FieldType.int)) ∈ GL := gl_of 814 (by decide +kernel) (by decide +kernel)
theorem gw_707 : (Cond.methodLink "SectionDesk$Tree" (105 : Nat) ({ cls := "SectionDesk$Tree", name := "valueAt", desc := "(I)I" } : MethodName)) ∈ GL := gl_of 816 (by decide +kernel) (by decide +kernel)
theorem gw_708 : (Cond.methodLink "SectionDesk$Desk" (314 : Nat) ({ cls := "SectionDesk$CheckOuts", name := "hashOnto", desc := "(JLSectionDesk$Tree;)J" } : MethodName)) ∈ GL := gl_of 817 (by decide +kernel) (by decide +kernel)
theorem gw_709 : (Cond.instanceMethod ({ cls := "SectionDesk$CheckOuts", name := "hashOnto", desc := "(JLSectionDesk$Tree;)J" } : MethodName)) ∈ GL := gl_of 818 (by decide +kernel) (by decide +kernel)
theorem gw_710 : (Cond.selects "SectionDesk$CheckOuts" ({ cls := "SectionDesk$CheckOuts", name := "hashOnto", desc := "(JLSectionDesk$Tree;)J" } : MethodName) ({ cls := "SectionDesk$CheckOuts", name := "hashOnto", desc := "(JLSectionDesk$Tree;)J" } : MethodName)) ∈ GL := gl_of 819 (by decide +kernel) (by decide +kernel)
theorem gw_711 : (Cond.code ({ cls := "SectionDesk$CheckOuts", name := "hashOnto", desc := "(JLSectionDesk$Tree;)J" } : MethodName) prog_2_method_22_code (8 : Nat) (Option.some FieldType.long)) ∈ GL := gl_of 820 (by decide +kernel) (by decide +kernel)
theorem gw_713 : (Cond.methodLink "SectionDesk$CheckOuts" (86 : Nat) ({ cls := "SectionDesk$Tree", name := "subtreeOf", desc := "(I)I" } : MethodName)) ∈ GL := gl_of 822 (by decide +kernel) (by decide +kernel)
theorem gw_714 : (Cond.methodLink "SectionDesk$CheckOuts" (89 : Nat) ({ cls := "SectionDesk$CheckOuts", name := "hashCopy", desc := "(JII)J" } : MethodName)) ∈ GL := gl_of 823 (by decide +kernel) (by decide +kernel)
theorem gw_716 : (Cond.instanceMethod ({ cls := "SectionDesk$CheckOuts", name := "hashCopy", desc := "(JII)J" } : MethodName)) ∈ GL := gl_of 825 (by decide +kernel) (by decide +kernel)
theorem gw_717 : (Cond.code ({ cls := "SectionDesk$CheckOuts", name := "hashCopy", desc := "(JII)J" } : MethodName) prog_2_method_23_code (8 : Nat) (Option.some FieldType.long)) ∈ GL := gl_of 826 (by decide +kernel) (by decide +kernel)
theorem gw_718 : (Cond.methodLink "SectionDesk$Desk" (317 : Nat) ({ cls := "SectionDesk$Queue", name := "hashOnto", desc := "(J)J" } : MethodName)) ∈ GL := gl_of 827 (by decide +kernel) (by decide +kernel)
theorem gw_719 : (Cond.instanceMethod ({ cls := "SectionDesk$Queue", name := "hashOnto", desc := "(J)J" } : MethodName)) ∈ GL := gl_of 828 (by decide +kernel) (by decide +kernel)
theorem gw_720 : (Cond.selects "SectionDesk$Queue" ({ cls := "SectionDesk$Queue", name := "hashOnto", desc := "(J)J" } : MethodName) ({ cls := "SectionDesk$Queue", name := "hashOnto", desc := "(J)J" } : MethodName)) ∈ GL := gl_of 829 (by decide +kernel) (by decide +kernel)
theorem gw_721 : (Cond.code ({ cls := "SectionDesk$Queue", name := "hashOnto", desc := "(J)J" } : MethodName) prog_7_method_10_code (7 : Nat) (Option.some FieldType.long)) ∈ GL := gl_of 830 (by decide +kernel) (by decide +kernel)
theorem gw_723 : (Cond.methodLink "SectionDesk$Desk" (318 : Nat) ({ cls := "SectionDesk$History", name := "hashOnto", desc := "(J)J" } : MethodName)) ∈ GL := gl_of 832 (by decide +kernel) (by decide +kernel)
theorem gw_724 : (Cond.instanceMethod ({ cls := "SectionDesk$History", name := "hashOnto", desc := "(J)J" } : MethodName)) ∈ GL := gl_of 833 (by decide +kernel) (by decide +kernel)
theorem gw_725 : (Cond.selects "SectionDesk$History" ({ cls := "SectionDesk$History", name := "hashOnto", desc := "(J)J" } : MethodName) ({ cls := "SectionDesk$History", name := "hashOnto", desc := "(J)J" } : MethodName)) ∈ GL := gl_of 834 (by decide +kernel) (by decide +kernel)
theorem gw_726 : (Cond.code ({ cls := "SectionDesk$History", name := "hashOnto", desc := "(J)J" } : MethodName) prog_4_method_10_code (7 : Nat) (Option.some FieldType.long)) ∈ GL := gl_of 835 (by decide +kernel) (by decide +kernel)
theorem gw_728 : (Cond.methodLink "SectionDesk$History" (34 : Nat) ({ cls := "SectionDesk$History", name := "fact", desc := "(II)I" } : MethodName)) ∈ GL := gl_of 837 (by decide +kernel) (by decide +kernel)
theorem gw_729 : (Cond.instanceMethod ({ cls := "SectionDesk$History", name := "fact", desc := "(II)I" } : MethodName)) ∈ GL := gl_of 838 (by decide +kernel) (by decide +kernel)
theorem gw_730 : (Cond.selects "SectionDesk$History" ({ cls := "SectionDesk$History", name := "fact", desc := "(II)I" } : MethodName) ({ cls := "SectionDesk$History", name := "fact", desc := "(II)I" } : MethodName)) ∈ GL := gl_of 839 (by decide +kernel) (by decide +kernel)
theorem gw_731 : (Cond.code ({ cls := "SectionDesk$History", name := "fact", desc := "(II)I" } : MethodName) prog_4_method_4_code (4 : Nat) (Option.some FieldType.int)) ∈ GL := gl_of 840 (by decide +kernel) (by decide +kernel)
theorem gw_732 : (Cond.methodLink "SectionDesk" (304 : Nat) ({ cls := "SectionDesk", name := "hashed", desc := "(JI)J" } : MethodName)) ∈ GL := gl_of 841 (by decide +kernel) (by decide +kernel)
theorem gw_746 : (Cond.methodLink "SectionDesk$Desk" (91 : Nat) ({ cls := "SectionDesk$Desk", name := "isCovered", desc := "(I)Z" } : MethodName)) ∈ GL := gl_of 855 (by decide +kernel) (by decide +kernel)
theorem gw_748 : (Cond.instanceMethod ({ cls := "SectionDesk$Desk", name := "isCovered", desc := "(I)Z" } : MethodName)) ∈ GL := gl_of 857 (by decide +kernel) (by decide +kernel)
theorem gw_749 : (Cond.code ({ cls := "SectionDesk$Desk", name := "isCovered", desc := "(I)Z" } : MethodName) prog_3_method_4_code (2 : Nat) (Option.some FieldType.boolean)) ∈ GL := gl_of 858 (by decide +kernel) (by decide +kernel)
theorem gw_750 : (Cond.methodLink "SectionDesk$Desk" (74 : Nat) ({ cls := "SectionDesk$Desk", name := "claims", desc := "()I" } : MethodName)) ∈ GL := gl_of 859 (by decide +kernel) (by decide +kernel)
theorem gw_752 : (Cond.instanceMethod ({ cls := "SectionDesk$Desk", name := "claims", desc := "()I" } : MethodName)) ∈ GL := gl_of 861 (by decide +kernel) (by decide +kernel)
theorem gw_753 : (Cond.code ({ cls := "SectionDesk$Desk", name := "claims", desc := "()I" } : MethodName) prog_3_method_3_code (1 : Nat) (Option.some FieldType.int)) ∈ GL := gl_of 862 (by decide +kernel) (by decide +kernel)
theorem gw_754 : (Cond.methodLink "SectionDesk$Desk" (71 : Nat) ({ cls := "SectionDesk$Queue", name := "tops", desc := "()I" } : MethodName)) ∈ GL := gl_of 863 (by decide +kernel) (by decide +kernel)
theorem gw_755 : (Cond.instanceMethod ({ cls := "SectionDesk$Queue", name := "tops", desc := "()I" } : MethodName)) ∈ GL := gl_of 864 (by decide +kernel) (by decide +kernel)
theorem gw_756 : (Cond.selects "SectionDesk$Queue" ({ cls := "SectionDesk$Queue", name := "tops", desc := "()I" } : MethodName) ({ cls := "SectionDesk$Queue", name := "tops", desc := "()I" } : MethodName)) ∈ GL := gl_of 865 (by decide +kernel) (by decide +kernel)
theorem gw_757 : (Cond.code ({ cls := "SectionDesk$Queue", name := "tops", desc := "()I" } : MethodName) prog_7_method_7_code (3 : Nat) (Option.some FieldType.int)) ∈ GL := gl_of 866 (by decide +kernel) (by decide +kernel)
theorem gw_865 : (Cond.methodLink "SectionDesk$Tree" (71 : Nat) ({ cls := "SectionDesk$Tree", name := "lowestFree", desc := "()I" } : MethodName)) ∈ GL := gl_of 974 (by decide +kernel) (by decide +kernel)
theorem gw_867 : (Cond.instanceMethod ({ cls := "SectionDesk$Tree", name := "lowestFree", desc := "()I" } : MethodName)) ∈ GL := gl_of 976 (by decide +kernel) (by decide +kernel)
theorem gw_868 : (Cond.code ({ cls := "SectionDesk$Tree", name := "lowestFree", desc := "()I" } : MethodName) prog_9_method_15_code (2 : Nat) (Option.some FieldType.int)) ∈ GL := gl_of 977 (by decide +kernel) (by decide +kernel)
theorem gw_870 : (Cond.methodLink "SectionDesk$Tree" (79 : Nat) ({ cls := "SectionDesk$Tree", name := "setValue", desc := "(II)V" } : MethodName)) ∈ GL := gl_of 979 (by decide +kernel) (by decide +kernel)
theorem gw_871 : (Cond.methodLink "SectionDesk$Tree" (83 : Nat) ({ cls := "SectionDesk$Tree", name := "findOverlaps", desc := "()V" } : MethodName)) ∈ GL := gl_of 980 (by decide +kernel) (by decide +kernel)
theorem gw_873 : (Cond.instanceMethod ({ cls := "SectionDesk$Tree", name := "findOverlaps", desc := "()V" } : MethodName)) ∈ GL := gl_of 982 (by decide +kernel) (by decide +kernel)
theorem gw_874 : (Cond.code ({ cls := "SectionDesk$Tree", name := "findOverlaps", desc := "()V" } : MethodName) prog_9_method_18_code (4 : Nat) (Option.none : Option FieldType)) ∈ GL := gl_of 983 (by decide +kernel) (by decide +kernel)
theorem gw_887 : (Cond.methodLink "SectionDesk$Desk" (98 : Nat) ({ cls := "SectionDesk$Desk", name := "isTouched", desc := "(I)Z" } : MethodName)) ∈ GL := gl_of 996 (by decide +kernel) (by decide +kernel)
theorem gw_889 : (Cond.instanceMethod ({ cls := "SectionDesk$Desk", name := "isTouched", desc := "(I)Z" } : MethodName)) ∈ GL := gl_of 998 (by decide +kernel) (by decide +kernel)
theorem gw_890 : (Cond.code ({ cls := "SectionDesk$Desk", name := "isTouched", desc := "(I)Z" } : MethodName) prog_3_method_5_code (2 : Nat) (Option.some FieldType.boolean)) ∈ GL := gl_of 999 (by decide +kernel) (by decide +kernel)
theorem gw_895 : (Cond.methodLink "SectionDesk$Desk" (104 : Nat) ({ cls := "SectionDesk$History", name := "removeOf", desc := "(I)V" } : MethodName)) ∈ GL := gl_of 1004 (by decide +kernel) (by decide +kernel)
theorem gw_896 : (Cond.instanceMethod ({ cls := "SectionDesk$History", name := "removeOf", desc := "(I)V" } : MethodName)) ∈ GL := gl_of 1005 (by decide +kernel) (by decide +kernel)
theorem gw_897 : (Cond.selects "SectionDesk$History" ({ cls := "SectionDesk$History", name := "removeOf", desc := "(I)V" } : MethodName) ({ cls := "SectionDesk$History", name := "removeOf", desc := "(I)V" } : MethodName)) ∈ GL := gl_of 1006 (by decide +kernel) (by decide +kernel)
theorem gw_898 : (Cond.code ({ cls := "SectionDesk$History", name := "removeOf", desc := "(I)V" } : MethodName) prog_4_method_7_code (5 : Nat) (Option.none : Option FieldType)) ∈ GL := gl_of 1007 (by decide +kernel) (by decide +kernel)
theorem gw_900 : (Cond.methodLink "SectionDesk$Desk" (108 : Nat) ({ cls := "SectionDesk$Tree", name := "remove", desc := "(I)V" } : MethodName)) ∈ GL := gl_of 1009 (by decide +kernel) (by decide +kernel)
theorem gw_901 : (Cond.instanceMethod ({ cls := "SectionDesk$Tree", name := "remove", desc := "(I)V" } : MethodName)) ∈ GL := gl_of 1010 (by decide +kernel) (by decide +kernel)
theorem gw_902 : (Cond.selects "SectionDesk$Tree" ({ cls := "SectionDesk$Tree", name := "remove", desc := "(I)V" } : MethodName) ({ cls := "SectionDesk$Tree", name := "remove", desc := "(I)V" } : MethodName)) ∈ GL := gl_of 1011 (by decide +kernel) (by decide +kernel)
theorem gw_903 : (Cond.code ({ cls := "SectionDesk$Tree", name := "remove", desc := "(I)V" } : MethodName) prog_9_method_16_code (6 : Nat) (Option.none : Option FieldType)) ∈ GL := gl_of 1012 (by decide +kernel) (by decide +kernel)
theorem gw_905 : (Cond.methodLink "SectionDesk$Desk" (111 : Nat) ({ cls := "java/lang/Integer", name := "bitCount", desc := "(I)I" } : MethodName)) ∈ GL := gl_of 1014 (by decide +kernel) (by decide +kernel)
theorem gw_917 : (Cond.methodLink "SectionDesk$Desk" (116 : Nat) ({ cls := "SectionDesk$Tree", name := "covers", desc := "(II)Z" } : MethodName)) ∈ GL := gl_of 1026 (by decide +kernel) (by decide +kernel)
theorem gw_918 : (Cond.instanceMethod ({ cls := "SectionDesk$Tree", name := "covers", desc := "(II)Z" } : MethodName)) ∈ GL := gl_of 1027 (by decide +kernel) (by decide +kernel)
theorem gw_919 : (Cond.selects "SectionDesk$Tree" ({ cls := "SectionDesk$Tree", name := "covers", desc := "(II)Z" } : MethodName) ({ cls := "SectionDesk$Tree", name := "covers", desc := "(II)Z" } : MethodName)) ∈ GL := gl_of 1028 (by decide +kernel) (by decide +kernel)
theorem gw_920 : (Cond.code ({ cls := "SectionDesk$Tree", name := "covers", desc := "(II)Z" } : MethodName) prog_9_method_10_code (3 : Nat) (Option.some FieldType.boolean)) ∈ GL := gl_of 1029 (by decide +kernel) (by decide +kernel)
theorem gw_929 : (Cond.methodLink "SectionDesk$Tree" (63 : Nat) ({ cls := "java/lang/Integer", name := "bitCount", desc := "(I)I" } : MethodName)) ∈ GL := gl_of 1038 (by decide +kernel) (by decide +kernel)
theorem gw_1014 : (Cond.methodLink "SectionDesk$Desk" (252 : Nat) ({ cls := "SectionDesk$CheckOuts", name := "setExpiry", desc := "(II)V" } : MethodName)) ∈ GL := gl_of 1123 (by decide +kernel) (by decide +kernel)
theorem gw_1015 : (Cond.instanceMethod ({ cls := "SectionDesk$CheckOuts", name := "setExpiry", desc := "(II)V" } : MethodName)) ∈ GL := gl_of 1124 (by decide +kernel) (by decide +kernel)
theorem gw_1016 : (Cond.selects "SectionDesk$CheckOuts" ({ cls := "SectionDesk$CheckOuts", name := "setExpiry", desc := "(II)V" } : MethodName) ({ cls := "SectionDesk$CheckOuts", name := "setExpiry", desc := "(II)V" } : MethodName)) ∈ GL := gl_of 1125 (by decide +kernel) (by decide +kernel)
theorem gw_1017 : (Cond.code ({ cls := "SectionDesk$CheckOuts", name := "setExpiry", desc := "(II)V" } : MethodName) prog_2_method_12_code (3 : Nat) (Option.none : Option FieldType)) ∈ GL := gl_of 1126 (by decide +kernel) (by decide +kernel)
theorem gw_1144 : (Cond.methodLink "SectionDesk$Desk" (166 : Nat) ({ cls := "SectionDesk$History", name := "turnBack", desc := "(I[I)V" } : MethodName)) ∈ GL := gl_of 1253 (by decide +kernel) (by decide +kernel)
theorem gw_1145 : (Cond.instanceMethod ({ cls := "SectionDesk$History", name := "turnBack", desc := "(I[I)V" } : MethodName)) ∈ GL := gl_of 1254 (by decide +kernel) (by decide +kernel)
theorem gw_1146 : (Cond.selects "SectionDesk$History" ({ cls := "SectionDesk$History", name := "turnBack", desc := "(I[I)V" } : MethodName) ({ cls := "SectionDesk$History", name := "turnBack", desc := "(I[I)V" } : MethodName)) ∈ GL := gl_of 1255 (by decide +kernel) (by decide +kernel)
theorem gw_1147 : (Cond.code ({ cls := "SectionDesk$History", name := "turnBack", desc := "(I[I)V" } : MethodName) prog_4_method_9_code (5 : Nat) (Option.none : Option FieldType)) ∈ GL := gl_of 1256 (by decide +kernel) (by decide +kernel)
theorem gw_1195 : (Cond.constantFloat "SectionDesk" (348 : Nat) (1056964608 : UInt32)) ∈ GL := gl_of 1304 (by decide +kernel) (by decide +kernel)
theorem gw_1196 : (Cond.constantFloat "SectionDesk" (349 : Nat) (1258291200 : UInt32)) ∈ GL := gl_of 1305 (by decide +kernel) (by decide +kernel)
theorem gw_1222 : (Cond.methodLink "SectionDesk$Outline" (23 : Nat) ({ cls := "SectionDesk$Outline", name := "put", desc := "(I)V" } : MethodName)) ∈ GL := gl_of 1331 (by decide +kernel) (by decide +kernel)
theorem gw_1224 : (Cond.instanceMethod ({ cls := "SectionDesk$Outline", name := "put", desc := "(I)V" } : MethodName)) ∈ GL := gl_of 1333 (by decide +kernel) (by decide +kernel)
theorem gw_1225 : (Cond.code ({ cls := "SectionDesk$Outline", name := "put", desc := "(I)V" } : MethodName) prog_6_method_3_code (2 : Nat) (Option.none : Option FieldType)) ∈ GL := gl_of 1334 (by decide +kernel) (by decide +kernel)
theorem gw_1251 : (Cond.fieldLink "SectionDeskModel" (7 : Nat) "SectionDeskModel" "now" "[I") ∈ GL := gl_of 1360 (by decide +kernel) (by decide +kernel)
theorem gw_1252 : (Cond.fieldLink "SectionDeskModel" (13 : Nat) "SectionDeskModel" "past" "[I") ∈ GL := gl_of 1361 (by decide +kernel) (by decide +kernel)
theorem gw_1253 : (Cond.fieldLink "SectionDeskModel" (16 : Nat) "SectionDeskModel" "aside" "[I") ∈ GL := gl_of 1362 (by decide +kernel) (by decide +kernel)
theorem gw_1254 : (Cond.fieldLink "SectionDeskModel" (51 : Nat) "SectionDeskModel" "saved" "I") ∈ GL := gl_of 1363 (by decide +kernel) (by decide +kernel)
theorem gw_1255 : (Cond.fieldLink "SectionDeskModel" (47 : Nat) "SectionDeskModel" "refusal" "I") ∈ GL := gl_of 1364 (by decide +kernel) (by decide +kernel)
theorem gw_1256 : (Cond.fieldLink "SectionDeskModel" (19 : Nat) "SectionDeskModel" "text" "[I") ∈ GL := gl_of 1365 (by decide +kernel) (by decide +kernel)
theorem gw_1257 : (Cond.fieldLink "SectionDeskModel" (251 : Nat) "SectionDeskModel" "length" "I") ∈ GL := gl_of 1366 (by decide +kernel) (by decide +kernel)
theorem gw_1258 : (Cond.fieldLink "SectionDeskModel" (22 : Nat) "SectionDeskModel" "taken" "[I") ∈ GL := gl_of 1367 (by decide +kernel) (by decide +kernel)
theorem gw_1259 : (Cond.fieldLink "SectionDeskModel" (25 : Nat) "SectionDeskModel" "then" "[I") ∈ GL := gl_of 1368 (by decide +kernel) (by decide +kernel)
theorem gw_1260 : (Cond.fieldLink "SectionDeskModel" (28 : Nat) "SectionDeskModel" "goes" "[Z") ∈ GL := gl_of 1369 (by decide +kernel) (by decide +kernel)
theorem gw_1261 : (Cond.fieldLink "SectionDeskModel" (254 : Nat) "SectionDeskModel" "spot" "I") ∈ GL := gl_of 1370 (by decide +kernel) (by decide +kernel)
theorem gw_1262 : (Cond.fieldLink "SectionDeskModel" (263 : Nat) "SectionDeskModel" "orders" "I") ∈ GL := gl_of 1371 (by decide +kernel) (by decide +kernel)
theorem gw_1263 : (Cond.fieldLink "SectionDeskModel" (32 : Nat) "SectionDeskModel" "letters" "[I") ∈ GL := gl_of 1372 (by decide +kernel) (by decide +kernel)
theorem gw_1264 : (Cond.fieldLink "SectionDeskModel" (35 : Nat) "SectionDeskModel" "numbers" "[I") ∈ GL := gl_of 1373 (by decide +kernel) (by decide +kernel)
theorem gw_1265 : (Cond.fieldLink "SectionDeskModel" (38 : Nat) "SectionDeskModel" "outlined" "[I") ∈ GL := gl_of 1374 (by decide +kernel) (by decide +kernel)
theorem gw_1266 : (Cond.fieldLink "SectionDeskModel" (279 : Nat) "SectionDeskModel" "outlinedMany" "I") ∈ GL := gl_of 1375 (by decide +kernel) (by decide +kernel)
theorem gw_1267 : (Cond.fieldLink "SectionDeskModel" (41 : Nat) "SectionDeskModel" "begun" "[I") ∈ GL := gl_of 1376 (by decide +kernel) (by decide +kernel)
theorem gw_1268 : (Cond.fieldLink "SectionDeskModel" (44 : Nat) "SectionDeskModel" "told" "[I") ∈ GL := gl_of 1377 (by decide +kernel) (by decide +kernel)
theorem gw_1269 : (Cond.fieldLink "SectionDeskModel" (293 : Nat) "SectionDeskModel" "hash" "J") ∈ GL := gl_of 1378 (by decide +kernel) (by decide +kernel)
theorem gw_1318 : (Cond.methodLink "SectionDeskModel" (54 : Nat) ({ cls := "SectionDeskModel", name := "refused", desc := "(I)Z" } : MethodName)) ∈ GL := gl_of 1427 (by decide +kernel) (by decide +kernel)
theorem gw_1320 : (Cond.instanceMethod ({ cls := "SectionDeskModel", name := "refused", desc := "(I)Z" } : MethodName)) ∈ GL := gl_of 1429 (by decide +kernel) (by decide +kernel)
theorem gw_1321 : (Cond.code ({ cls := "SectionDeskModel", name := "refused", desc := "(I)Z" } : MethodName) prog_11_method_3_code (2 : Nat) (Option.some FieldType.boolean)) ∈ GL := gl_of 1430 (by decide +kernel) (by decide +kernel)
theorem gw_1326 : (Cond.methodLink "SectionDeskModel" (102 : Nat) ({ cls := "SectionDeskModel", name := "isSection", desc := "(I)Z" } : MethodName)) ∈ GL := gl_of 1435 (by decide +kernel) (by decide +kernel)
theorem gw_1328 : (Cond.instanceMethod ({ cls := "SectionDeskModel", name := "isSection", desc := "(I)Z" } : MethodName)) ∈ GL := gl_of 1437 (by decide +kernel) (by decide +kernel)
theorem gw_1329 : (Cond.code ({ cls := "SectionDeskModel", name := "isSection", desc := "(I)Z" } : MethodName) prog_11_method_9_code (2 : Nat) (Option.some FieldType.boolean)) ∈ GL := gl_of 1438 (by decide +kernel) (by decide +kernel)
theorem gw_1330 : (Cond.methodLink "SectionDeskModel" (58 : Nat) ({ cls := "SectionDeskModel", name := "within", desc := "(III)Z" } : MethodName)) ∈ GL := gl_of 1439 (by decide +kernel) (by decide +kernel)
theorem gw_1331 : (Cond.static ({ cls := "SectionDeskModel", name := "within", desc := "(III)Z" } : MethodName)) ∈ GL := gl_of 1440 (by decide +kernel) (by decide +kernel)
theorem gw_1332 : (Cond.code ({ cls := "SectionDeskModel", name := "within", desc := "(III)Z" } : MethodName) prog_11_method_4_code (3 : Nat) (Option.some FieldType.boolean)) ∈ GL := gl_of 1441 (by decide +kernel) (by decide +kernel)
theorem gw_1333 : (Cond.methodLink "SectionDeskModel" (139 : Nat) ({ cls := "SectionDeskModel", name := "many", desc := "()I" } : MethodName)) ∈ GL := gl_of 1442 (by decide +kernel) (by decide +kernel)
theorem gw_1335 : (Cond.instanceMethod ({ cls := "SectionDeskModel", name := "many", desc := "()I" } : MethodName)) ∈ GL := gl_of 1444 (by decide +kernel) (by decide +kernel)
theorem gw_1336 : (Cond.code ({ cls := "SectionDeskModel", name := "many", desc := "()I" } : MethodName) prog_11_method_12_code (3 : Nat) (Option.some FieldType.int)) ∈ GL := gl_of 1445 (by decide +kernel) (by decide +kernel)
theorem gw_1337 : (Cond.methodLink "SectionDeskModel" (142 : Nat) ({ cls := "SectionDeskModel", name := "isCovered", desc := "(I)Z" } : MethodName)) ∈ GL := gl_of 1446 (by decide +kernel) (by decide +kernel)
theorem gw_1339 : (Cond.instanceMethod ({ cls := "SectionDeskModel", name := "isCovered", desc := "(I)Z" } : MethodName)) ∈ GL := gl_of 1448 (by decide +kernel) (by decide +kernel)
theorem gw_1340 : (Cond.code ({ cls := "SectionDeskModel", name := "isCovered", desc := "(I)Z" } : MethodName) prog_11_method_25_code (4 : Nat) (Option.some FieldType.boolean)) ∈ GL := gl_of 1449 (by decide +kernel) (by decide +kernel)
theorem gw_1341 : (Cond.methodLink "SectionDeskModel" (76 : Nat) ({ cls := "SectionDeskModel", name := "isCheck", desc := "(I)Z" } : MethodName)) ∈ GL := gl_of 1450 (by decide +kernel) (by decide +kernel)
theorem gw_1343 : (Cond.instanceMethod ({ cls := "SectionDeskModel", name := "isCheck", desc := "(I)Z" } : MethodName)) ∈ GL := gl_of 1452 (by decide +kernel) (by decide +kernel)
theorem gw_1344 : (Cond.code ({ cls := "SectionDeskModel", name := "isCheck", desc := "(I)Z" } : MethodName) prog_11_method_20_code (2 : Nat) (Option.some FieldType.boolean)) ∈ GL := gl_of 1453 (by decide +kernel) (by decide +kernel)
theorem gw_1345 : (Cond.methodLink "SectionDeskModel" (73 : Nat) ({ cls := "SectionDeskModel", name := "get", desc := "(II)I" } : MethodName)) ∈ GL := gl_of 1454 (by decide +kernel) (by decide +kernel)
theorem gw_1347 : (Cond.instanceMethod ({ cls := "SectionDeskModel", name := "get", desc := "(II)I" } : MethodName)) ∈ GL := gl_of 1456 (by decide +kernel) (by decide +kernel)
theorem gw_1348 : (Cond.code ({ cls := "SectionDeskModel", name := "get", desc := "(II)I" } : MethodName) prog_11_method_19_code (3 : Nat) (Option.some FieldType.int)) ∈ GL := gl_of 1457 (by decide +kernel) (by decide +kernel)
theorem gw_1349 : (Cond.methodLink "SectionDeskModel" (69 : Nat) ({ cls := "SectionDeskModel", name := "check", desc := "(II)I" } : MethodName)) ∈ GL := gl_of 1458 (by decide +kernel) (by decide +kernel)
theorem gw_1350 : (Cond.static ({ cls := "SectionDeskModel", name := "check", desc := "(II)I" } : MethodName)) ∈ GL := gl_of 1459 (by decide +kernel) (by decide +kernel)
theorem gw_1351 : (Cond.code ({ cls := "SectionDeskModel", name := "check", desc := "(II)I" } : MethodName) prog_11_method_18_code (2 : Nat) (Option.some FieldType.int)) ∈ GL := gl_of 1460 (by decide +kernel) (by decide +kernel)
theorem gw_1352 : (Cond.methodLink "SectionDeskModel" (62 : Nat) ({ cls := "SectionDeskModel", name := "isIn", desc := "(II)Z" } : MethodName)) ∈ GL := gl_of 1461 (by decide +kernel) (by decide +kernel)
theorem gw_1354 : (Cond.instanceMethod ({ cls := "SectionDeskModel", name := "isIn", desc := "(II)Z" } : MethodName)) ∈ GL := gl_of 1463 (by decide +kernel) (by decide +kernel)
theorem gw_1355 : (Cond.code ({ cls := "SectionDeskModel", name := "isIn", desc := "(II)Z" } : MethodName) prog_11_method_10_code (4 : Nat) (Option.some FieldType.boolean)) ∈ GL := gl_of 1464 (by decide +kernel) (by decide +kernel)
theorem gw_1356 : (Cond.methodLink "SectionDeskModel" (79 : Nat) ({ cls := "SectionDeskModel", name := "waits", desc := "()I" } : MethodName)) ∈ GL := gl_of 1465 (by decide +kernel) (by decide +kernel)
theorem gw_1358 : (Cond.instanceMethod ({ cls := "SectionDeskModel", name := "waits", desc := "()I" } : MethodName)) ∈ GL := gl_of 1467 (by decide +kernel) (by decide +kernel)
theorem gw_1359 : (Cond.code ({ cls := "SectionDeskModel", name := "waits", desc := "()I" } : MethodName) prog_11_method_24_code (1 : Nat) (Option.some FieldType.int)) ∈ GL := gl_of 1468 (by decide +kernel) (by decide +kernel)
theorem gw_1360 : (Cond.methodLink "SectionDeskModel" (83 : Nat) ({ cls := "SectionDeskModel", name := "wait", desc := "(II)I" } : MethodName)) ∈ GL := gl_of 1469 (by decide +kernel) (by decide +kernel)
theorem gw_1361 : (Cond.static ({ cls := "SectionDeskModel", name := "wait", desc := "(II)I" } : MethodName)) ∈ GL := gl_of 1470 (by decide +kernel) (by decide +kernel)
theorem gw_1362 : (Cond.code ({ cls := "SectionDeskModel", name := "wait", desc := "(II)I" } : MethodName) prog_11_method_23_code (2 : Nat) (Option.some FieldType.int)) ∈ GL := gl_of 1471 (by decide +kernel) (by decide +kernel)
theorem gw_1363 : (Cond.methodLink "SectionDeskModel" (145 : Nat) ({ cls := "SectionDeskModel", name := "saves", desc := "()V" } : MethodName)) ∈ GL := gl_of 1472 (by decide +kernel) (by decide +kernel)
theorem gw_1365 : (Cond.instanceMethod ({ cls := "SectionDeskModel", name := "saves", desc := "()V" } : MethodName)) ∈ GL := gl_of 1474 (by decide +kernel) (by decide +kernel)
theorem gw_1366 : (Cond.code ({ cls := "SectionDeskModel", name := "saves", desc := "()V" } : MethodName) prog_11_method_5_code (2 : Nat) (Option.none : Option FieldType)) ∈ GL := gl_of 1475 (by decide +kernel) (by decide +kernel)
theorem gw_1371 : (Cond.methodLink "SectionDeskModel" (148 : Nat) ({ cls := "SectionDeskModel", name := "isTouched", desc := "(I)Z" } : MethodName)) ∈ GL := gl_of 1480 (by decide +kernel) (by decide +kernel)
theorem gw_1373 : (Cond.instanceMethod ({ cls := "SectionDeskModel", name := "isTouched", desc := "(I)Z" } : MethodName)) ∈ GL := gl_of 1482 (by decide +kernel) (by decide +kernel)
theorem gw_1374 : (Cond.code ({ cls := "SectionDeskModel", name := "isTouched", desc := "(I)Z" } : MethodName) prog_11_method_27_code (4 : Nat) (Option.some FieldType.boolean)) ∈ GL := gl_of 1483 (by decide +kernel) (by decide +kernel)
theorem gw_1375 : (Cond.methodLink "SectionDeskModel" (89 : Nat) ({ cls := "SectionDeskModel", name := "isWaitedFor", desc := "(I)Z" } : MethodName)) ∈ GL := gl_of 1484 (by decide +kernel) (by decide +kernel)
theorem gw_1377 : (Cond.instanceMethod ({ cls := "SectionDeskModel", name := "isWaitedFor", desc := "(I)Z" } : MethodName)) ∈ GL := gl_of 1486 (by decide +kernel) (by decide +kernel)
theorem gw_1378 : (Cond.code ({ cls := "SectionDeskModel", name := "isWaitedFor", desc := "(I)Z" } : MethodName) prog_11_method_26_code (4 : Nat) (Option.some FieldType.boolean)) ∈ GL := gl_of 1487 (by decide +kernel) (by decide +kernel)
theorem gw_1379 : (Cond.methodLink "SectionDeskModel" (86 : Nat) ({ cls := "SectionDeskModel", name := "overlap", desc := "(II)Z" } : MethodName)) ∈ GL := gl_of 1488 (by decide +kernel) (by decide +kernel)
theorem gw_1381 : (Cond.instanceMethod ({ cls := "SectionDeskModel", name := "overlap", desc := "(II)Z" } : MethodName)) ∈ GL := gl_of 1490 (by decide +kernel) (by decide +kernel)
theorem gw_1382 : (Cond.code ({ cls := "SectionDeskModel", name := "overlap", desc := "(II)Z" } : MethodName) prog_11_method_11_code (3 : Nat) (Option.some FieldType.boolean)) ∈ GL := gl_of 1491 (by decide +kernel) (by decide +kernel)
theorem gw_1383 : (Cond.methodLink "SectionDeskModel" (151 : Nat) ({ cls := "SectionDeskModel", name := "below", desc := "(I)I" } : MethodName)) ∈ GL := gl_of 1492 (by decide +kernel) (by decide +kernel)
theorem gw_1385 : (Cond.instanceMethod ({ cls := "SectionDeskModel", name := "below", desc := "(I)I" } : MethodName)) ∈ GL := gl_of 1494 (by decide +kernel) (by decide +kernel)
theorem gw_1386 : (Cond.code ({ cls := "SectionDeskModel", name := "below", desc := "(I)I" } : MethodName) prog_11_method_17_code (4 : Nat) (Option.some FieldType.int)) ∈ GL := gl_of 1495 (by decide +kernel) (by decide +kernel)
theorem gw_1391 : (Cond.methodLink "SectionDeskModel" (155 : Nat) ({ cls := "SectionDeskModel", name := "depth", desc := "(I)I" } : MethodName)) ∈ GL := gl_of 1500 (by decide +kernel) (by decide +kernel)
theorem gw_1393 : (Cond.instanceMethod ({ cls := "SectionDeskModel", name := "depth", desc := "(I)I" } : MethodName)) ∈ GL := gl_of 1502 (by decide +kernel) (by decide +kernel)
theorem gw_1394 : (Cond.code ({ cls := "SectionDeskModel", name := "depth", desc := "(I)I" } : MethodName) prog_11_method_16_code (4 : Nat) (Option.some FieldType.int)) ∈ GL := gl_of 1503 (by decide +kernel) (by decide +kernel)
theorem gw_1403 : (Cond.methodLink "SectionDeskModel" (161 : Nat) ({ cls := "SectionDeskModel", name := "tellSection", desc := "(II)I" } : MethodName)) ∈ GL := gl_of 1512 (by decide +kernel) (by decide +kernel)
theorem gw_1405 : (Cond.instanceMethod ({ cls := "SectionDeskModel", name := "tellSection", desc := "(II)I" } : MethodName)) ∈ GL := gl_of 1514 (by decide +kernel) (by decide +kernel)
theorem gw_1406 : (Cond.code ({ cls := "SectionDeskModel", name := "tellSection", desc := "(II)I" } : MethodName) prog_11_method_49_code (3 : Nat) (Option.some FieldType.int)) ∈ GL := gl_of 1515 (by decide +kernel) (by decide +kernel)
theorem gw_1407 : (Cond.methodLink "SectionDeskModel" (158 : Nat) ({ cls := "SectionDeskModel", name := "childMany", desc := "(I)I" } : MethodName)) ∈ GL := gl_of 1516 (by decide +kernel) (by decide +kernel)
theorem gw_1409 : (Cond.instanceMethod ({ cls := "SectionDeskModel", name := "childMany", desc := "(I)I" } : MethodName)) ∈ GL := gl_of 1518 (by decide +kernel) (by decide +kernel)
theorem gw_1410 : (Cond.code ({ cls := "SectionDeskModel", name := "childMany", desc := "(I)I" } : MethodName) prog_11_method_14_code (4 : Nat) (Option.some FieldType.int)) ∈ GL := gl_of 1519 (by decide +kernel) (by decide +kernel)
theorem gw_1411 : (Cond.methodLink "SectionDeskModel" (66 : Nat) ({ cls := "SectionDeskModel", name := "isChild", desc := "(II)Z" } : MethodName)) ∈ GL := gl_of 1520 (by decide +kernel) (by decide +kernel)
theorem gw_1413 : (Cond.instanceMethod ({ cls := "SectionDeskModel", name := "isChild", desc := "(II)Z" } : MethodName)) ∈ GL := gl_of 1522 (by decide +kernel) (by decide +kernel)
theorem gw_1414 : (Cond.code ({ cls := "SectionDeskModel", name := "isChild", desc := "(II)Z" } : MethodName) prog_11_method_13_code (3 : Nat) (Option.some FieldType.boolean)) ∈ GL := gl_of 1523 (by decide +kernel) (by decide +kernel)
theorem gw_1419 : (Cond.methodLink "SectionDeskModel" (164 : Nat) ({ cls := "SectionDeskModel", name := "childAt", desc := "(II)I" } : MethodName)) ∈ GL := gl_of 1528 (by decide +kernel) (by decide +kernel)
theorem gw_1421 : (Cond.instanceMethod ({ cls := "SectionDeskModel", name := "childAt", desc := "(II)I" } : MethodName)) ∈ GL := gl_of 1530 (by decide +kernel) (by decide +kernel)
theorem gw_1422 : (Cond.code ({ cls := "SectionDeskModel", name := "childAt", desc := "(II)I" } : MethodName) prog_11_method_15_code (7 : Nat) (Option.some FieldType.int)) ∈ GL := gl_of 1531 (by decide +kernel) (by decide +kernel)
theorem gw_1427 : (Cond.methodLink "SectionDeskModel" (167 : Nat) ({ cls := "SectionDeskModel", name := "isLine", desc := "(II)Z" } : MethodName)) ∈ GL := gl_of 1536 (by decide +kernel) (by decide +kernel)
theorem gw_1429 : (Cond.instanceMethod ({ cls := "SectionDeskModel", name := "isLine", desc := "(II)Z" } : MethodName)) ∈ GL := gl_of 1538 (by decide +kernel) (by decide +kernel)
theorem gw_1430 : (Cond.code ({ cls := "SectionDeskModel", name := "isLine", desc := "(II)Z" } : MethodName) prog_11_method_52_code (3 : Nat) (Option.some FieldType.boolean)) ∈ GL := gl_of 1539 (by decide +kernel) (by decide +kernel)
theorem gw_1435 : (Cond.methodLink "SectionDeskModel" (170 : Nat) ({ cls := "SectionDeskModel", name := "holdersOf", desc := "(I)I" } : MethodName)) ∈ GL := gl_of 1544 (by decide +kernel) (by decide +kernel)
theorem gw_1437 : (Cond.instanceMethod ({ cls := "SectionDeskModel", name := "holdersOf", desc := "(I)I" } : MethodName)) ∈ GL := gl_of 1546 (by decide +kernel) (by decide +kernel)
theorem gw_1438 : (Cond.code ({ cls := "SectionDeskModel", name := "holdersOf", desc := "(I)I" } : MethodName) prog_11_method_29_code (4 : Nat) (Option.some FieldType.int)) ∈ GL := gl_of 1547 (by decide +kernel) (by decide +kernel)
theorem gw_1439 : (Cond.methodLink "SectionDeskModel" (92 : Nat) ({ cls := "SectionDeskModel", name := "isHeld", desc := "(I)Z" } : MethodName)) ∈ GL := gl_of 1548 (by decide +kernel) (by decide +kernel)
theorem gw_1441 : (Cond.instanceMethod ({ cls := "SectionDeskModel", name := "isHeld", desc := "(I)Z" } : MethodName)) ∈ GL := gl_of 1550 (by decide +kernel) (by decide +kernel)
theorem gw_1442 : (Cond.code ({ cls := "SectionDeskModel", name := "isHeld", desc := "(I)Z" } : MethodName) prog_11_method_21_code (2 : Nat) (Option.some FieldType.boolean)) ∈ GL := gl_of 1551 (by decide +kernel) (by decide +kernel)
theorem gw_1443 : (Cond.methodLink "SectionDeskModel" (173 : Nat) ({ cls := "SectionDeskModel", name := "laysThen", desc := "()V" } : MethodName)) ∈ GL := gl_of 1552 (by decide +kernel) (by decide +kernel)
theorem gw_1445 : (Cond.instanceMethod ({ cls := "SectionDeskModel", name := "laysThen", desc := "()V" } : MethodName)) ∈ GL := gl_of 1554 (by decide +kernel) (by decide +kernel)
theorem gw_1446 : (Cond.code ({ cls := "SectionDeskModel", name := "laysThen", desc := "()V" } : MethodName) prog_11_method_42_code (2 : Nat) (Option.none : Option FieldType)) ∈ GL := gl_of 1555 (by decide +kernel) (by decide +kernel)
theorem gw_1447 : (Cond.methodLink "SectionDeskModel" (176 : Nat) ({ cls := "SectionDeskModel", name := "becomes", desc := "(I)I" } : MethodName)) ∈ GL := gl_of 1556 (by decide +kernel) (by decide +kernel)
theorem gw_1449 : (Cond.instanceMethod ({ cls := "SectionDeskModel", name := "becomes", desc := "(I)I" } : MethodName)) ∈ GL := gl_of 1558 (by decide +kernel) (by decide +kernel)
theorem gw_1450 : (Cond.code ({ cls := "SectionDeskModel", name := "becomes", desc := "(I)I" } : MethodName) prog_11_method_43_code (7 : Nat) (Option.some FieldType.int)) ∈ GL := gl_of 1559 (by decide +kernel) (by decide +kernel)
theorem gw_1451 : (Cond.methodLink "SectionDeskModel" (135 : Nat) ({ cls := "SectionDeskModel", name := "enters", desc := "(IIIII)V" } : MethodName)) ∈ GL := gl_of 1560 (by decide +kernel) (by decide +kernel)
theorem gw_1453 : (Cond.instanceMethod ({ cls := "SectionDeskModel", name := "enters", desc := "(IIIII)V" } : MethodName)) ∈ GL := gl_of 1562 (by decide +kernel) (by decide +kernel)
theorem gw_1454 : (Cond.code ({ cls := "SectionDeskModel", name := "enters", desc := "(IIIII)V" } : MethodName) prog_11_method_41_code (7 : Nat) (Option.none : Option FieldType)) ∈ GL := gl_of 1563 (by decide +kernel) (by decide +kernel)
theorem gw_1459 : (Cond.methodLink "SectionDeskModel" (185 : Nat) ({ cls := "SectionDeskModel", name := "barRequest", desc := "(IIII)I" } : MethodName)) ∈ GL := gl_of 1568 (by decide +kernel) (by decide +kernel)
theorem gw_1461 : (Cond.instanceMethod ({ cls := "SectionDeskModel", name := "barRequest", desc := "(IIII)I" } : MethodName)) ∈ GL := gl_of 1570 (by decide +kernel) (by decide +kernel)
theorem gw_1462 : (Cond.code ({ cls := "SectionDeskModel", name := "barRequest", desc := "(IIII)I" } : MethodName) prog_11_method_57_code (8 : Nat) (Option.some FieldType.int)) ∈ GL := gl_of 1571 (by decide +kernel) (by decide +kernel)
theorem gw_1463 : (Cond.methodLink "SectionDeskModel" (179 : Nat) ({ cls := "SectionDeskModel", name := "isUser", desc := "(I)Z" } : MethodName)) ∈ GL := gl_of 1572 (by decide +kernel) (by decide +kernel)
theorem gw_1464 : (Cond.static ({ cls := "SectionDeskModel", name := "isUser", desc := "(I)Z" } : MethodName)) ∈ GL := gl_of 1573 (by decide +kernel) (by decide +kernel)
theorem gw_1465 : (Cond.code ({ cls := "SectionDeskModel", name := "isUser", desc := "(I)Z" } : MethodName) prog_11_method_55_code (1 : Nat) (Option.some FieldType.boolean)) ∈ GL := gl_of 1574 (by decide +kernel) (by decide +kernel)
theorem gw_1466 : (Cond.methodLink "SectionDeskModel" (182 : Nat) ({ cls := "SectionDeskModel", name := "placeOf", desc := "(I)I" } : MethodName)) ∈ GL := gl_of 1575 (by decide +kernel) (by decide +kernel)
theorem gw_1468 : (Cond.instanceMethod ({ cls := "SectionDeskModel", name := "placeOf", desc := "(I)I" } : MethodName)) ∈ GL := gl_of 1577 (by decide +kernel) (by decide +kernel)
theorem gw_1469 : (Cond.code ({ cls := "SectionDeskModel", name := "placeOf", desc := "(I)I" } : MethodName) prog_11_method_56_code (4 : Nat) (Option.some FieldType.int)) ∈ GL := gl_of 1578 (by decide +kernel) (by decide +kernel)
theorem gw_1470 : (Cond.methodLink "SectionDeskModel" (188 : Nat) ({ cls := "SectionDeskModel", name := "requests", desc := "(IIII)I" } : MethodName)) ∈ GL := gl_of 1579 (by decide +kernel) (by decide +kernel)
theorem gw_1472 : (Cond.instanceMethod ({ cls := "SectionDeskModel", name := "requests", desc := "(IIII)I" } : MethodName)) ∈ GL := gl_of 1581 (by decide +kernel) (by decide +kernel)
theorem gw_1473 : (Cond.code ({ cls := "SectionDeskModel", name := "requests", desc := "(IIII)I" } : MethodName) prog_11_method_58_code (6 : Nat) (Option.some FieldType.int)) ∈ GL := gl_of 1582 (by decide +kernel) (by decide +kernel)
theorem gw_1474 : (Cond.methodLink "SectionDeskModel" (116 : Nat) ({ cls := "SectionDeskModel", name := "canGrant", desc := "(III)Z" } : MethodName)) ∈ GL := gl_of 1583 (by decide +kernel) (by decide +kernel)
theorem gw_1476 : (Cond.instanceMethod ({ cls := "SectionDeskModel", name := "canGrant", desc := "(III)Z" } : MethodName)) ∈ GL := gl_of 1585 (by decide +kernel) (by decide +kernel)
theorem gw_1477 : (Cond.code ({ cls := "SectionDeskModel", name := "canGrant", desc := "(III)Z" } : MethodName) prog_11_method_32_code (7 : Nat) (Option.some FieldType.boolean)) ∈ GL := gl_of 1586 (by decide +kernel) (by decide +kernel)
theorem gw_1478 : (Cond.methodLink "SectionDeskModel" (99 : Nat) ({ cls := "SectionDeskModel", name := "bars", desc := "(IIII)Z" } : MethodName)) ∈ GL := gl_of 1587 (by decide +kernel) (by decide +kernel)
theorem gw_1480 : (Cond.instanceMethod ({ cls := "SectionDeskModel", name := "bars", desc := "(IIII)Z" } : MethodName)) ∈ GL := gl_of 1589 (by decide +kernel) (by decide +kernel)
theorem gw_1481 : (Cond.code ({ cls := "SectionDeskModel", name := "bars", desc := "(IIII)Z" } : MethodName) prog_11_method_31_code (6 : Nat) (Option.some FieldType.boolean)) ∈ GL := gl_of 1590 (by decide +kernel) (by decide +kernel)
theorem gw_1482 : (Cond.methodLink "SectionDeskModel" (95 : Nat) ({ cls := "SectionDeskModel", name := "absorbs", desc := "(IIII)Z" } : MethodName)) ∈ GL := gl_of 1591 (by decide +kernel) (by decide +kernel)
theorem gw_1484 : (Cond.instanceMethod ({ cls := "SectionDeskModel", name := "absorbs", desc := "(IIII)Z" } : MethodName)) ∈ GL := gl_of 1593 (by decide +kernel) (by decide +kernel)
theorem gw_1485 : (Cond.code ({ cls := "SectionDeskModel", name := "absorbs", desc := "(IIII)Z" } : MethodName) prog_11_method_30_code (5 : Nat) (Option.some FieldType.boolean)) ∈ GL := gl_of 1594 (by decide +kernel) (by decide +kernel)
theorem gw_1486 : (Cond.methodLink "SectionDeskModel" (119 : Nat) ({ cls := "SectionDeskModel", name := "isBlockedAhead", desc := "(III)Z" } : MethodName)) ∈ GL := gl_of 1595 (by decide +kernel) (by decide +kernel)
theorem gw_1488 : (Cond.instanceMethod ({ cls := "SectionDeskModel", name := "isBlockedAhead", desc := "(III)Z" } : MethodName)) ∈ GL := gl_of 1597 (by decide +kernel) (by decide +kernel)
theorem gw_1489 : (Cond.code ({ cls := "SectionDeskModel", name := "isBlockedAhead", desc := "(III)Z" } : MethodName) prog_11_method_36_code (6 : Nat) (Option.some FieldType.boolean)) ∈ GL := gl_of 1598 (by decide +kernel) (by decide +kernel)
theorem gw_1490 : (Cond.methodLink "SectionDeskModel" (113 : Nat) ({ cls := "SectionDeskModel", name := "isBlocked", desc := "(III)Z" } : MethodName)) ∈ GL := gl_of 1599 (by decide +kernel) (by decide +kernel)
theorem gw_1492 : (Cond.instanceMethod ({ cls := "SectionDeskModel", name := "isBlocked", desc := "(III)Z" } : MethodName)) ∈ GL := gl_of 1601 (by decide +kernel) (by decide +kernel)
theorem gw_1493 : (Cond.code ({ cls := "SectionDeskModel", name := "isBlocked", desc := "(III)Z" } : MethodName) prog_11_method_35_code (4 : Nat) (Option.some FieldType.boolean)) ∈ GL := gl_of 1602 (by decide +kernel) (by decide +kernel)
theorem gw_1494 : (Cond.methodLink "SectionDeskModel" (125 : Nat) ({ cls := "SectionDeskModel", name := "grants", desc := "(IIII)I" } : MethodName)) ∈ GL := gl_of 1603 (by decide +kernel) (by decide +kernel)
theorem gw_1496 : (Cond.instanceMethod ({ cls := "SectionDeskModel", name := "grants", desc := "(IIII)I" } : MethodName)) ∈ GL := gl_of 1605 (by decide +kernel) (by decide +kernel)
theorem gw_1497 : (Cond.code ({ cls := "SectionDeskModel", name := "grants", desc := "(IIII)I" } : MethodName) prog_11_method_34_code (7 : Nat) (Option.some FieldType.int)) ∈ GL := gl_of 1606 (by decide +kernel) (by decide +kernel)
theorem gw_1498 : (Cond.methodLink "SectionDeskModel" (109 : Nat) ({ cls := "SectionDeskModel", name := "takesOver", desc := "(I)V" } : MethodName)) ∈ GL := gl_of 1607 (by decide +kernel) (by decide +kernel)
theorem gw_1500 : (Cond.instanceMethod ({ cls := "SectionDeskModel", name := "takesOver", desc := "(I)V" } : MethodName)) ∈ GL := gl_of 1609 (by decide +kernel) (by decide +kernel)
theorem gw_1501 : (Cond.code ({ cls := "SectionDeskModel", name := "takesOver", desc := "(I)V" } : MethodName) prog_11_method_33_code (4 : Nat) (Option.none : Option FieldType)) ∈ GL := gl_of 1610 (by decide +kernel) (by decide +kernel)
theorem gw_1502 : (Cond.methodLink "SectionDeskModel" (105 : Nat) ({ cls := "SectionDeskModel", name := "copy", desc := "(III)I" } : MethodName)) ∈ GL := gl_of 1611 (by decide +kernel) (by decide +kernel)
theorem gw_1503 : (Cond.static ({ cls := "SectionDeskModel", name := "copy", desc := "(III)I" } : MethodName)) ∈ GL := gl_of 1612 (by decide +kernel) (by decide +kernel)
theorem gw_1504 : (Cond.code ({ cls := "SectionDeskModel", name := "copy", desc := "(III)I" } : MethodName) prog_11_method_22_code (3 : Nat) (Option.some FieldType.int)) ∈ GL := gl_of 1613 (by decide +kernel) (by decide +kernel)
theorem gw_1509 : (Cond.methodLink "SectionDeskModel" (122 : Nat) ({ cls := "SectionDeskModel", name := "leavesLine", desc := "(I)V" } : MethodName)) ∈ GL := gl_of 1618 (by decide +kernel) (by decide +kernel)
theorem gw_1511 : (Cond.instanceMethod ({ cls := "SectionDeskModel", name := "leavesLine", desc := "(I)V" } : MethodName)) ∈ GL := gl_of 1620 (by decide +kernel) (by decide +kernel)
theorem gw_1512 : (Cond.code ({ cls := "SectionDeskModel", name := "leavesLine", desc := "(I)V" } : MethodName) prog_11_method_37_code (3 : Nat) (Option.none : Option FieldType)) ∈ GL := gl_of 1621 (by decide +kernel) (by decide +kernel)
theorem gw_1513 : (Cond.methodLink "SectionDeskModel" (132 : Nat) ({ cls := "SectionDeskModel", name := "serves", desc := "()V" } : MethodName)) ∈ GL := gl_of 1622 (by decide +kernel) (by decide +kernel)
theorem gw_1515 : (Cond.instanceMethod ({ cls := "SectionDeskModel", name := "serves", desc := "()V" } : MethodName)) ∈ GL := gl_of 1624 (by decide +kernel) (by decide +kernel)
theorem gw_1516 : (Cond.code ({ cls := "SectionDeskModel", name := "serves", desc := "()V" } : MethodName) prog_11_method_38_code (6 : Nat) (Option.none : Option FieldType)) ∈ GL := gl_of 1625 (by decide +kernel) (by decide +kernel)
theorem gw_1525 : (Cond.methodLink "SectionDeskModel" (191 : Nat) ({ cls := "SectionDeskModel", name := "barBreak", desc := "(I)I" } : MethodName)) ∈ GL := gl_of 1634 (by decide +kernel) (by decide +kernel)
theorem gw_1527 : (Cond.instanceMethod ({ cls := "SectionDeskModel", name := "barBreak", desc := "(I)I" } : MethodName)) ∈ GL := gl_of 1636 (by decide +kernel) (by decide +kernel)
theorem gw_1528 : (Cond.code ({ cls := "SectionDeskModel", name := "barBreak", desc := "(I)I" } : MethodName) prog_11_method_62_code (2 : Nat) (Option.some FieldType.int)) ∈ GL := gl_of 1637 (by decide +kernel) (by decide +kernel)
theorem gw_1529 : (Cond.methodLink "SectionDeskModel" (194 : Nat) ({ cls := "SectionDeskModel", name := "breaks", desc := "(I)I" } : MethodName)) ∈ GL := gl_of 1638 (by decide +kernel) (by decide +kernel)
theorem gw_1531 : (Cond.instanceMethod ({ cls := "SectionDeskModel", name := "breaks", desc := "(I)I" } : MethodName)) ∈ GL := gl_of 1640 (by decide +kernel) (by decide +kernel)
theorem gw_1532 : (Cond.code ({ cls := "SectionDeskModel", name := "breaks", desc := "(I)I" } : MethodName) prog_11_method_63_code (2 : Nat) (Option.some FieldType.int)) ∈ GL := gl_of 1641 (by decide +kernel) (by decide +kernel)
theorem gw_1533 : (Cond.methodLink "SectionDeskModel" (129 : Nat) ({ cls := "SectionDeskModel", name := "loses", desc := "(I)V" } : MethodName)) ∈ GL := gl_of 1642 (by decide +kernel) (by decide +kernel)
theorem gw_1535 : (Cond.instanceMethod ({ cls := "SectionDeskModel", name := "loses", desc := "(I)V" } : MethodName)) ∈ GL := gl_of 1644 (by decide +kernel) (by decide +kernel)
theorem gw_1536 : (Cond.code ({ cls := "SectionDeskModel", name := "loses", desc := "(I)V" } : MethodName) prog_11_method_39_code (2 : Nat) (Option.none : Option FieldType)) ∈ GL := gl_of 1645 (by decide +kernel) (by decide +kernel)
theorem gw_1541 : (Cond.methodLink "SectionDeskModel" (200 : Nat) ({ cls := "SectionDeskModel", name := "discards", desc := "(I)I" } : MethodName)) ∈ GL := gl_of 1650 (by decide +kernel) (by decide +kernel)
theorem gw_1543 : (Cond.instanceMethod ({ cls := "SectionDeskModel", name := "discards", desc := "(I)I" } : MethodName)) ∈ GL := gl_of 1652 (by decide +kernel) (by decide +kernel)
theorem gw_1544 : (Cond.code ({ cls := "SectionDeskModel", name := "discards", desc := "(I)I" } : MethodName) prog_11_method_66_code (3 : Nat) (Option.some FieldType.int)) ∈ GL := gl_of 1653 (by decide +kernel) (by decide +kernel)
theorem gw_1545 : (Cond.methodLink "SectionDeskModel" (197 : Nat) ({ cls := "SectionDeskModel", name := "edited", desc := "(I)I" } : MethodName)) ∈ GL := gl_of 1654 (by decide +kernel) (by decide +kernel)
theorem gw_1547 : (Cond.instanceMethod ({ cls := "SectionDeskModel", name := "edited", desc := "(I)I" } : MethodName)) ∈ GL := gl_of 1656 (by decide +kernel) (by decide +kernel)
theorem gw_1548 : (Cond.code ({ cls := "SectionDeskModel", name := "edited", desc := "(I)I" } : MethodName) prog_11_method_65_code (5 : Nat) (Option.some FieldType.int)) ∈ GL := gl_of 1657 (by decide +kernel) (by decide +kernel)
theorem gw_1553 : (Cond.methodLink "SectionDeskModel" (206 : Nat) ({ cls := "SectionDeskModel", name := "barEdit", desc := "(IIII)I" } : MethodName)) ∈ GL := gl_of 1662 (by decide +kernel) (by decide +kernel)
theorem gw_1555 : (Cond.instanceMethod ({ cls := "SectionDeskModel", name := "barEdit", desc := "(IIII)I" } : MethodName)) ∈ GL := gl_of 1664 (by decide +kernel) (by decide +kernel)
theorem gw_1556 : (Cond.code ({ cls := "SectionDeskModel", name := "barEdit", desc := "(IIII)I" } : MethodName) prog_11_method_69_code (5 : Nat) (Option.some FieldType.int)) ∈ GL := gl_of 1665 (by decide +kernel) (by decide +kernel)
theorem gw_1557 : (Cond.methodLink "SectionDeskModel" (203 : Nat) ({ cls := "SectionDeskModel", name := "isCopied", desc := "(III)Z" } : MethodName)) ∈ GL := gl_of 1666 (by decide +kernel) (by decide +kernel)
theorem gw_1559 : (Cond.instanceMethod ({ cls := "SectionDeskModel", name := "isCopied", desc := "(III)Z" } : MethodName)) ∈ GL := gl_of 1668 (by decide +kernel) (by decide +kernel)
theorem gw_1560 : (Cond.code ({ cls := "SectionDeskModel", name := "isCopied", desc := "(III)Z" } : MethodName) prog_11_method_68_code (4 : Nat) (Option.some FieldType.boolean)) ∈ GL := gl_of 1669 (by decide +kernel) (by decide +kernel)
theorem gw_1561 : (Cond.methodLink "SectionDeskModel" (209 : Nat) ({ cls := "SectionDeskModel", name := "edits", desc := "(IIII)I" } : MethodName)) ∈ GL := gl_of 1670 (by decide +kernel) (by decide +kernel)
theorem gw_1563 : (Cond.instanceMethod ({ cls := "SectionDeskModel", name := "edits", desc := "(IIII)I" } : MethodName)) ∈ GL := gl_of 1672 (by decide +kernel) (by decide +kernel)
theorem gw_1564 : (Cond.code ({ cls := "SectionDeskModel", name := "edits", desc := "(IIII)I" } : MethodName) prog_11_method_70_code (6 : Nat) (Option.some FieldType.int)) ∈ GL := gl_of 1673 (by decide +kernel) (by decide +kernel)
theorem gw_1573 : (Cond.methodLink "SectionDeskModel" (212 : Nat) ({ cls := "SectionDeskModel", name := "merges", desc := "(II)I" } : MethodName)) ∈ GL := gl_of 1682 (by decide +kernel) (by decide +kernel)
theorem gw_1575 : (Cond.instanceMethod ({ cls := "SectionDeskModel", name := "merges", desc := "(II)I" } : MethodName)) ∈ GL := gl_of 1684 (by decide +kernel) (by decide +kernel)
theorem gw_1576 : (Cond.code ({ cls := "SectionDeskModel", name := "merges", desc := "(II)I" } : MethodName) prog_11_method_73_code (11 : Nat) (Option.some FieldType.int)) ∈ GL := gl_of 1685 (by decide +kernel) (by decide +kernel)
theorem gw_1581 : (Cond.methodLink "SectionDeskModel" (218 : Nat) ({ cls := "SectionDeskModel", name := "barGive", desc := "(II)I" } : MethodName)) ∈ GL := gl_of 1690 (by decide +kernel) (by decide +kernel)
theorem gw_1583 : (Cond.instanceMethod ({ cls := "SectionDeskModel", name := "barGive", desc := "(II)I" } : MethodName)) ∈ GL := gl_of 1692 (by decide +kernel) (by decide +kernel)
theorem gw_1584 : (Cond.code ({ cls := "SectionDeskModel", name := "barGive", desc := "(II)I" } : MethodName) prog_11_method_75_code (4 : Nat) (Option.some FieldType.int)) ∈ GL := gl_of 1693 (by decide +kernel) (by decide +kernel)
theorem gw_1585 : (Cond.methodLink "SectionDeskModel" (215 : Nat) ({ cls := "SectionDeskModel", name := "isHeldAround", desc := "(I)Z" } : MethodName)) ∈ GL := gl_of 1694 (by decide +kernel) (by decide +kernel)
theorem gw_1587 : (Cond.instanceMethod ({ cls := "SectionDeskModel", name := "isHeldAround", desc := "(I)Z" } : MethodName)) ∈ GL := gl_of 1696 (by decide +kernel) (by decide +kernel)
theorem gw_1588 : (Cond.code ({ cls := "SectionDeskModel", name := "isHeldAround", desc := "(I)Z" } : MethodName) prog_11_method_28_code (4 : Nat) (Option.some FieldType.boolean)) ∈ GL := gl_of 1697 (by decide +kernel) (by decide +kernel)
theorem gw_1589 : (Cond.methodLink "SectionDeskModel" (221 : Nat) ({ cls := "SectionDeskModel", name := "gives", desc := "(II)I" } : MethodName)) ∈ GL := gl_of 1698 (by decide +kernel) (by decide +kernel)
theorem gw_1591 : (Cond.instanceMethod ({ cls := "SectionDeskModel", name := "gives", desc := "(II)I" } : MethodName)) ∈ GL := gl_of 1700 (by decide +kernel) (by decide +kernel)
theorem gw_1592 : (Cond.code ({ cls := "SectionDeskModel", name := "gives", desc := "(II)I" } : MethodName) prog_11_method_76_code (4 : Nat) (Option.some FieldType.int)) ∈ GL := gl_of 1701 (by decide +kernel) (by decide +kernel)
theorem gw_1597 : (Cond.methodLink "SectionDeskModel" (224 : Nat) ({ cls := "SectionDeskModel", name := "tellCheck", desc := "(II)I" } : MethodName)) ∈ GL := gl_of 1706 (by decide +kernel) (by decide +kernel)
theorem gw_1599 : (Cond.instanceMethod ({ cls := "SectionDeskModel", name := "tellCheck", desc := "(II)I" } : MethodName)) ∈ GL := gl_of 1708 (by decide +kernel) (by decide +kernel)
theorem gw_1600 : (Cond.code ({ cls := "SectionDeskModel", name := "tellCheck", desc := "(II)I" } : MethodName) prog_11_method_78_code (3 : Nat) (Option.some FieldType.int)) ∈ GL := gl_of 1709 (by decide +kernel) (by decide +kernel)
theorem gw_1609 : (Cond.methodLink "SectionDeskModel" (227 : Nat) ({ cls := "SectionDeskModel", name := "laysAside", desc := "()V" } : MethodName)) ∈ GL := gl_of 1718 (by decide +kernel) (by decide +kernel)
theorem gw_1611 : (Cond.instanceMethod ({ cls := "SectionDeskModel", name := "laysAside", desc := "()V" } : MethodName)) ∈ GL := gl_of 1720 (by decide +kernel) (by decide +kernel)
theorem gw_1612 : (Cond.code ({ cls := "SectionDeskModel", name := "laysAside", desc := "()V" } : MethodName) prog_11_method_7_code (2 : Nat) (Option.none : Option FieldType)) ∈ GL := gl_of 1721 (by decide +kernel) (by decide +kernel)
theorem gw_1613 : (Cond.methodLink "SectionDeskModel" (230 : Nat) ({ cls := "SectionDeskModel", name := "takesBack", desc := "()V" } : MethodName)) ∈ GL := gl_of 1722 (by decide +kernel) (by decide +kernel)
theorem gw_1615 : (Cond.instanceMethod ({ cls := "SectionDeskModel", name := "takesBack", desc := "()V" } : MethodName)) ∈ GL := gl_of 1724 (by decide +kernel) (by decide +kernel)
theorem gw_1616 : (Cond.code ({ cls := "SectionDeskModel", name := "takesBack", desc := "()V" } : MethodName) prog_11_method_8_code (2 : Nat) (Option.none : Option FieldType)) ∈ GL := gl_of 1725 (by decide +kernel) (by decide +kernel)
theorem gw_1621 : (Cond.methodLink "SectionDeskModel" (233 : Nat) ({ cls := "SectionDeskModel", name := "tickOn", desc := "()V" } : MethodName)) ∈ GL := gl_of 1730 (by decide +kernel) (by decide +kernel)
theorem gw_1623 : (Cond.instanceMethod ({ cls := "SectionDeskModel", name := "tickOn", desc := "()V" } : MethodName)) ∈ GL := gl_of 1732 (by decide +kernel) (by decide +kernel)
theorem gw_1624 : (Cond.code ({ cls := "SectionDeskModel", name := "tickOn", desc := "()V" } : MethodName) prog_11_method_40_code (2 : Nat) (Option.none : Option FieldType)) ∈ GL := gl_of 1733 (by decide +kernel) (by decide +kernel)
theorem gw_1645 : (Cond.methodLink "SectionDeskModel" (236 : Nat) ({ cls := "SectionDeskModel", name := "isTick", desc := "(I)Z" } : MethodName)) ∈ GL := gl_of 1754 (by decide +kernel) (by decide +kernel)
theorem gw_1647 : (Cond.instanceMethod ({ cls := "SectionDeskModel", name := "isTick", desc := "(I)Z" } : MethodName)) ∈ GL := gl_of 1756 (by decide +kernel) (by decide +kernel)
theorem gw_1648 : (Cond.code ({ cls := "SectionDeskModel", name := "isTick", desc := "(I)Z" } : MethodName) prog_11_method_87_code (2 : Nat) (Option.some FieldType.boolean)) ∈ GL := gl_of 1757 (by decide +kernel) (by decide +kernel)
theorem gw_1649 : (Cond.methodLink "SectionDeskModel" (239 : Nat) ({ cls := "SectionDeskModel", name := "was", desc := "(III)I" } : MethodName)) ∈ GL := gl_of 1758 (by decide +kernel) (by decide +kernel)
theorem gw_1651 : (Cond.instanceMethod ({ cls := "SectionDeskModel", name := "was", desc := "(III)I" } : MethodName)) ∈ GL := gl_of 1760 (by decide +kernel) (by decide +kernel)
theorem gw_1652 : (Cond.code ({ cls := "SectionDeskModel", name := "was", desc := "(III)I" } : MethodName) prog_11_method_44_code (6 : Nat) (Option.some FieldType.int)) ∈ GL := gl_of 1761 (by decide +kernel) (by decide +kernel)
theorem gw_1669 : (Cond.methodLink "SectionDeskModel" (242 : Nat) ({ cls := "SectionDeskModel", name := "passes", desc := "(I)I" } : MethodName)) ∈ GL := gl_of 1778 (by decide +kernel) (by decide +kernel)
theorem gw_1671 : (Cond.instanceMethod ({ cls := "SectionDeskModel", name := "passes", desc := "(I)I" } : MethodName)) ∈ GL := gl_of 1780 (by decide +kernel) (by decide +kernel)
theorem gw_1672 : (Cond.code ({ cls := "SectionDeskModel", name := "passes", desc := "(I)I" } : MethodName) prog_11_method_92_code (3 : Nat) (Option.some FieldType.int)) ∈ GL := gl_of 1781 (by decide +kernel) (by decide +kernel)
theorem gw_1677 : (Cond.methodLink "SectionDeskModel" (245 : Nat) ({ cls := "java/lang/Float", name := "floatToIntBits", desc := "(F)I" } : MethodName)) ∈ GL := gl_of 1786 (by decide +kernel) (by decide +kernel)
theorem gw_1678 : (Cond.static ({ cls := "java/lang/Float", name := "floatToIntBits", desc := "(F)I" } : MethodName)) ∈ GL := gl_of 1787 (by decide +kernel) (by decide +kernel)
theorem gw_1679 : (Cond.code ({ cls := "java/lang/Float", name := "floatToIntBits", desc := "(F)I" } : MethodName) prog_13_method_24_code (1 : Nat) (Option.some FieldType.int)) ∈ GL := gl_of 1788 (by decide +kernel) (by decide +kernel)
theorem gw_1680 : (Cond.methodLink "java/lang/Float" (59 : Nat) ({ cls := "java/lang/Float", name := "isNaN", desc := "(F)Z" } : MethodName)) ∈ GL := gl_of 1789 (by decide +kernel) (by decide +kernel)
theorem gw_1681 : (Cond.static ({ cls := "java/lang/Float", name := "isNaN", desc := "(F)Z" } : MethodName)) ∈ GL := gl_of 1790 (by decide +kernel) (by decide +kernel)
theorem gw_1682 : (Cond.code ({ cls := "java/lang/Float", name := "isNaN", desc := "(F)Z" } : MethodName) prog_13_method_6_code (1 : Nat) (Option.some FieldType.boolean)) ∈ GL := gl_of 1791 (by decide +kernel) (by decide +kernel)
theorem gw_1683 : (Cond.methodLink "java/lang/Float" (74 : Nat) ({ cls := "java/lang/Float", name := "floatToRawIntBits", desc := "(F)I" } : MethodName)) ∈ GL := gl_of 1792 (by decide +kernel) (by decide +kernel)
theorem gw_1684 : (Cond.static ({ cls := "java/lang/Float", name := "floatToRawIntBits", desc := "(F)I" } : MethodName)) ∈ GL := gl_of 1793 (by decide +kernel) (by decide +kernel)
theorem gw_1685 : (Cond.native ({ cls := "java/lang/Float", name := "floatToRawIntBits", desc := "(F)I" } : MethodName)) ∈ GL := gl_of 1794 (by decide +kernel) (by decide +kernel)
theorem gw_1686 : (Cond.constant "java/lang/Float" (77 : Nat) (2143289344 : Int32)) ∈ GL := gl_of 1795 (by decide +kernel) (by decide +kernel)
theorem gw_1699 : (Cond.methodLink "SectionDeskModel" (273 : Nat) ({ cls := "SectionDeskModel", name := "reads", desc := "()Z" } : MethodName)) ∈ GL := gl_of 1808 (by decide +kernel) (by decide +kernel)
theorem gw_1701 : (Cond.instanceMethod ({ cls := "SectionDeskModel", name := "reads", desc := "()Z" } : MethodName)) ∈ GL := gl_of 1810 (by decide +kernel) (by decide +kernel)
theorem gw_1702 : (Cond.code ({ cls := "SectionDeskModel", name := "reads", desc := "()Z" } : MethodName) prog_11_method_101_code (2 : Nat) (Option.some FieldType.boolean)) ∈ GL := gl_of 1811 (by decide +kernel) (by decide +kernel)
theorem gw_1703 : (Cond.methodLink "SectionDeskModel" (269 : Nat) ({ cls := "SectionDeskModel", name := "readsOrder", desc := "()Z" } : MethodName)) ∈ GL := gl_of 1812 (by decide +kernel) (by decide +kernel)
theorem gw_1705 : (Cond.instanceMethod ({ cls := "SectionDeskModel", name := "readsOrder", desc := "()Z" } : MethodName)) ∈ GL := gl_of 1814 (by decide +kernel) (by decide +kernel)
theorem gw_1706 : (Cond.code ({ cls := "SectionDeskModel", name := "readsOrder", desc := "()Z" } : MethodName) prog_11_method_100_code (5 : Nat) (Option.some FieldType.boolean)) ∈ GL := gl_of 1815 (by decide +kernel) (by decide +kernel)
theorem gw_1707 : (Cond.methodLink "SectionDeskModel" (260 : Nat) ({ cls := "SectionDeskModel", name := "manyOf", desc := "(I)I" } : MethodName)) ∈ GL := gl_of 1816 (by decide +kernel) (by decide +kernel)
theorem gw_1708 : (Cond.static ({ cls := "SectionDeskModel", name := "manyOf", desc := "(I)I" } : MethodName)) ∈ GL := gl_of 1817 (by decide +kernel) (by decide +kernel)
theorem gw_1709 : (Cond.code ({ cls := "SectionDeskModel", name := "manyOf", desc := "(I)I" } : MethodName) prog_11_method_98_code (1 : Nat) (Option.some FieldType.int)) ∈ GL := gl_of 1818 (by decide +kernel) (by decide +kernel)
theorem gw_1710 : (Cond.methodLink "SectionDeskModel" (266 : Nat) ({ cls := "SectionDeskModel", name := "readsNumber", desc := "(I)Z" } : MethodName)) ∈ GL := gl_of 1819 (by decide +kernel) (by decide +kernel)
theorem gw_1712 : (Cond.instanceMethod ({ cls := "SectionDeskModel", name := "readsNumber", desc := "(I)Z" } : MethodName)) ∈ GL := gl_of 1821 (by decide +kernel) (by decide +kernel)
theorem gw_1713 : (Cond.code ({ cls := "SectionDeskModel", name := "readsNumber", desc := "(I)Z" } : MethodName) prog_11_method_99_code (4 : Nat) (Option.some FieldType.boolean)) ∈ GL := gl_of 1822 (by decide +kernel) (by decide +kernel)
theorem gw_1714 : (Cond.methodLink "SectionDeskModel" (257 : Nat) ({ cls := "SectionDeskModel", name := "isAt", desc := "(II)Z" } : MethodName)) ∈ GL := gl_of 1823 (by decide +kernel) (by decide +kernel)
theorem gw_1716 : (Cond.instanceMethod ({ cls := "SectionDeskModel", name := "isAt", desc := "(II)Z" } : MethodName)) ∈ GL := gl_of 1825 (by decide +kernel) (by decide +kernel)
theorem gw_1717 : (Cond.code ({ cls := "SectionDeskModel", name := "isAt", desc := "(II)Z" } : MethodName) prog_11_method_97_code (3 : Nat) (Option.some FieldType.boolean)) ∈ GL := gl_of 1826 (by decide +kernel) (by decide +kernel)
theorem gw_1718 : (Cond.methodLink "SectionDeskModel" (276 : Nat) ({ cls := "SectionDeskModel", name := "doesOrder", desc := "(I)Z" } : MethodName)) ∈ GL := gl_of 1827 (by decide +kernel) (by decide +kernel)
theorem gw_1720 : (Cond.instanceMethod ({ cls := "SectionDeskModel", name := "doesOrder", desc := "(I)Z" } : MethodName)) ∈ GL := gl_of 1829 (by decide +kernel) (by decide +kernel)
theorem gw_1721 : (Cond.code ({ cls := "SectionDeskModel", name := "doesOrder", desc := "(I)Z" } : MethodName) prog_11_method_102_code (7 : Nat) (Option.some FieldType.boolean)) ∈ GL := gl_of 1830 (by decide +kernel) (by decide +kernel)
theorem gw_1726 : (Cond.methodLink "SectionDeskModel" (288 : Nat) ({ cls := "SectionDeskModel", name := "outlines", desc := "()V" } : MethodName)) ∈ GL := gl_of 1835 (by decide +kernel) (by decide +kernel)
theorem gw_1728 : (Cond.instanceMethod ({ cls := "SectionDeskModel", name := "outlines", desc := "()V" } : MethodName)) ∈ GL := gl_of 1837 (by decide +kernel) (by decide +kernel)
theorem gw_1729 : (Cond.code ({ cls := "SectionDeskModel", name := "outlines", desc := "()V" } : MethodName) prog_11_method_106_code (4 : Nat) (Option.none : Option FieldType)) ∈ GL := gl_of 1838 (by decide +kernel) (by decide +kernel)
theorem gw_1730 : (Cond.methodLink "SectionDeskModel" (285 : Nat) ({ cls := "SectionDeskModel", name := "putsNumber", desc := "(I)V" } : MethodName)) ∈ GL := gl_of 1839 (by decide +kernel) (by decide +kernel)
theorem gw_1732 : (Cond.instanceMethod ({ cls := "SectionDeskModel", name := "putsNumber", desc := "(I)V" } : MethodName)) ∈ GL := gl_of 1841 (by decide +kernel) (by decide +kernel)
theorem gw_1733 : (Cond.code ({ cls := "SectionDeskModel", name := "putsNumber", desc := "(I)V" } : MethodName) prog_11_method_105_code (2 : Nat) (Option.none : Option FieldType)) ∈ GL := gl_of 1842 (by decide +kernel) (by decide +kernel)
theorem gw_1734 : (Cond.methodLink "SectionDeskModel" (282 : Nat) ({ cls := "SectionDeskModel", name := "puts", desc := "(I)V" } : MethodName)) ∈ GL := gl_of 1843 (by decide +kernel) (by decide +kernel)
theorem gw_1736 : (Cond.instanceMethod ({ cls := "SectionDeskModel", name := "puts", desc := "(I)V" } : MethodName)) ∈ GL := gl_of 1845 (by decide +kernel) (by decide +kernel)
theorem gw_1737 : (Cond.code ({ cls := "SectionDeskModel", name := "puts", desc := "(I)V" } : MethodName) prog_11_method_104_code (2 : Nat) (Option.none : Option FieldType)) ∈ GL := gl_of 1846 (by decide +kernel) (by decide +kernel)
theorem gw_1742 : (Cond.constantLong "SectionDeskModel" (304 : Nat) (2857 : Int64)) ∈ GL := gl_of 1851 (by decide +kernel) (by decide +kernel)
theorem gw_1743 : (Cond.methodLink "SectionDeskModel" (297 : Nat) ({ cls := "SectionDeskModel", name := "mix", desc := "(I)V" } : MethodName)) ∈ GL := gl_of 1852 (by decide +kernel) (by decide +kernel)
theorem gw_1745 : (Cond.instanceMethod ({ cls := "SectionDeskModel", name := "mix", desc := "(I)V" } : MethodName)) ∈ GL := gl_of 1854 (by decide +kernel) (by decide +kernel)
theorem gw_1746 : (Cond.code ({ cls := "SectionDeskModel", name := "mix", desc := "(I)V" } : MethodName) prog_11_method_108_code (2 : Nat) (Option.none : Option FieldType)) ∈ GL := gl_of 1855 (by decide +kernel) (by decide +kernel)
theorem gw_1747 : (Cond.constantLong "SectionDeskModel" (291 : Nat) (31 : Int64)) ∈ GL := gl_of 1856 (by decide +kernel) (by decide +kernel)
theorem gw_1748 : (Cond.methodLink "SectionDeskModel" (306 : Nat) ({ cls := "SectionDeskModel", name := "mixSection", desc := "(I)V" } : MethodName)) ∈ GL := gl_of 1857 (by decide +kernel) (by decide +kernel)
theorem gw_1750 : (Cond.instanceMethod ({ cls := "SectionDeskModel", name := "mixSection", desc := "(I)V" } : MethodName)) ∈ GL := gl_of 1859 (by decide +kernel) (by decide +kernel)
theorem gw_1751 : (Cond.code ({ cls := "SectionDeskModel", name := "mixSection", desc := "(I)V" } : MethodName) prog_11_method_110_code (3 : Nat) (Option.none : Option FieldType)) ∈ GL := gl_of 1860 (by decide +kernel) (by decide +kernel)
theorem gw_1752 : (Cond.methodLink "SectionDeskModel" (300 : Nat) ({ cls := "SectionDeskModel", name := "mixAll", desc := "(II)V" } : MethodName)) ∈ GL := gl_of 1861 (by decide +kernel) (by decide +kernel)
theorem gw_1754 : (Cond.instanceMethod ({ cls := "SectionDeskModel", name := "mixAll", desc := "(II)V" } : MethodName)) ∈ GL := gl_of 1863 (by decide +kernel) (by decide +kernel)
theorem gw_1755 : (Cond.code ({ cls := "SectionDeskModel", name := "mixAll", desc := "(II)V" } : MethodName) prog_11_method_109_code (4 : Nat) (Option.none : Option FieldType)) ∈ GL := gl_of 1864 (by decide +kernel) (by decide +kernel)
theorem gw_1756 : (Cond.methodLink "SectionDeskModel" (309 : Nat) ({ cls := "SectionDeskModel", name := "mixCheck", desc := "(I)V" } : MethodName)) ∈ GL := gl_of 1865 (by decide +kernel) (by decide +kernel)
theorem gw_1758 : (Cond.instanceMethod ({ cls := "SectionDeskModel", name := "mixCheck", desc := "(I)V" } : MethodName)) ∈ GL := gl_of 1867 (by decide +kernel) (by decide +kernel)
theorem gw_1759 : (Cond.code ({ cls := "SectionDeskModel", name := "mixCheck", desc := "(I)V" } : MethodName) prog_11_method_111_code (3 : Nat) (Option.none : Option FieldType)) ∈ GL := gl_of 1868 (by decide +kernel) (by decide +kernel)
theorem fw_X0_11 : fldw RX0 11 0 0 "facts" "" := ⟨RX0, TX0, 4, rfl, by decide, inX0, rfl, rfl, Or.inl gw_78⟩
theorem fw_X0_15 : fldw RX0 15 0 1 "bases" "" := ⟨RX0, TX0, 4, rfl, by decide, inX0, rfl, rfl, Or.inl gw_79⟩
theorem fw_X0_18 : fldw RX0 18 0 2 "owns" "" := ⟨RX0, TX0, 4, rfl, by decide, inX0, rfl, rfl, Or.inl gw_80⟩
theorem fw_X0_25 : fldw RX0 25 0 3 "used" "" := ⟨RX0, TX0, 4, rfl, by decide, inX0, rfl, rfl, Or.inl gw_81⟩
theorem fw_X1_12 : fldw RX1 12 1 0 "tree" "" := ⟨RX1, TX1, 7, rfl, by decide, inX1, rfl, rfl, Or.inl gw_123⟩
theorem fw_X1_21 : fldw RX1 21 1 1 "outs" "" := ⟨RX1, TX1, 7, rfl, by decide, inX1, rfl, rfl, Or.inl gw_125⟩
theorem fw_X1_28 : fldw RX1 28 1 2 "queue" "" := ⟨RX1, TX1, 7, rfl, by decide, inX1, rfl, rfl, Or.inl gw_127⟩
theorem fw_X1_35 : fldw RX1 35 1 3 "history" "" := ⟨RX1, TX1, 7, rfl, by decide, inX1, rfl, rfl, Or.inl gw_129⟩
theorem fw_X1_39 : fldw RX1 39 1 4 "heldTicks" "" := ⟨RX1, TX1, 7, rfl, by decide, inX1, rfl, rfl, Or.inl gw_131⟩
theorem fw_X1_43 : fldw RX1 43 1 5 "wanted" "" := ⟨RX1, TX1, 7, rfl, by decide, inX1, rfl, rfl, Or.inl gw_132⟩
theorem fw_X1_63 : fldw RX1 63 1 6 "tick" "" := ⟨RX1, TX1, 7, rfl, by decide, inX1, rfl, rfl, Or.inl gw_133⟩
theorem fw_X1_88 : fldw RX1 88 7 6 "size" "SectionDesk" := ⟨RX7, TX7, 7, rfl, by decide, inX7, rfl, rfl, Or.inr nw_3⟩
theorem fw_X1_147 : fldw RX1 147 7 3 "values" "SectionDesk" := ⟨RX7, TX7, 7, rfl, by decide, inX7, rfl, rfl, Or.inr nw_1⟩
theorem fw_X1_203 : fldw RX1 203 5 1 "count" "SectionDesk" := ⟨RX5, TX5, 2, rfl, by decide, inX5, rfl, rfl, Or.inr nw_6⟩
theorem fw_X2_11 : fldw RX2 11 2 0 "facts" "" := ⟨RX2, TX2, 3, rfl, by decide, inX2, rfl, rfl, Or.inl gw_112⟩
theorem fw_X2_19 : fldw RX2 19 2 1 "first" "" := ⟨RX2, TX2, 3, rfl, by decide, inX2, rfl, rfl, Or.inl gw_113⟩
theorem fw_X2_23 : fldw RX2 23 2 2 "count" "" := ⟨RX2, TX2, 3, rfl, by decide, inX2, rfl, rfl, Or.inl gw_114⟩
theorem fw_X3_9 : fldw RX3 9 3 0 "bytes" "" := ⟨RX3, TX3, 8, rfl, by decide, inX3, rfl, rfl, Or.inl gw_173⟩
theorem fw_X3_15 : fldw RX3 15 3 2 "letters" "" := ⟨RX3, TX3, 8, rfl, by decide, inX3, rfl, rfl, Or.inl gw_176⟩
theorem fw_X3_18 : fldw RX3 18 3 3 "numbers" "" := ⟨RX3, TX3, 8, rfl, by decide, inX3, rfl, rfl, Or.inl gw_177⟩
theorem fw_X3_21 : fldw RX3 21 3 1 "length" "" := ⟨RX3, TX3, 8, rfl, by decide, inX3, rfl, rfl, Or.inl gw_174⟩
theorem fw_X3_29 : fldw RX3 29 3 4 "orders" "" := ⟨RX3, TX3, 8, rfl, by decide, inX3, rfl, rfl, Or.inl gw_178⟩
theorem fw_X3_32 : fldw RX3 32 3 5 "state" "" := ⟨RX3, TX3, 8, rfl, by decide, inX3, rfl, rfl, Or.inl gw_180⟩
theorem fw_X3_55 : fldw RX3 55 3 6 "read" "" := ⟨RX3, TX3, 8, rfl, by decide, inX3, rfl, rfl, Or.inl gw_181⟩
theorem fw_X3_62 : fldw RX3 62 3 7 "digits" "" := ⟨RX3, TX3, 8, rfl, by decide, inX3, rfl, rfl, Or.inl gw_182⟩
theorem fw_X4_9 : fldw RX4 9 4 0 "bytes" "" := ⟨RX4, TX4, 2, rfl, by decide, inX4, rfl, rfl, Or.inl gw_206⟩
theorem fw_X4_15 : fldw RX4 15 4 1 "length" "" := ⟨RX4, TX4, 2, rfl, by decide, inX4, rfl, rfl, Or.inl gw_207⟩
theorem fw_X5_11 : fldw RX5 11 5 0 "facts" "" := ⟨RX5, TX5, 2, rfl, by decide, inX5, rfl, rfl, Or.inl gw_97⟩
theorem fw_X5_19 : fldw RX5 19 5 1 "count" "" := ⟨RX5, TX5, 2, rfl, by decide, inX5, rfl, rfl, Or.inl gw_98⟩
theorem fw_X6_11 : fldw RX6 11 6 0 "states" "" := ⟨RX6, TX6, 2, rfl, by decide, inX6, rfl, rfl, Or.inl gw_159⟩
theorem fw_X6_18 : fldw RX6 18 6 1 "count" "" := ⟨RX6, TX6, 2, rfl, by decide, inX6, rfl, rfl, Or.inl gw_160⟩
theorem fw_X7_9 : fldw RX7 9 7 0 "parents" "" := ⟨RX7, TX7, 7, rfl, by decide, inX7, rfl, rfl, Or.inl gw_46⟩
theorem fw_X7_15 : fldw RX7 15 7 1 "sequence" "" := ⟨RX7, TX7, 7, rfl, by decide, inX7, rfl, rfl, Or.inl gw_47⟩
theorem fw_X7_18 : fldw RX7 18 7 2 "versions" "" := ⟨RX7, TX7, 7, rfl, by decide, inX7, rfl, rfl, Or.inl gw_48⟩
theorem fw_X7_21 : fldw RX7 21 7 3 "values" "" := ⟨RX7, TX7, 7, rfl, by decide, inX7, rfl, rfl, Or.inl gw_49⟩
theorem fw_X7_24 : fldw RX7 24 7 4 "subtrees" "" := ⟨RX7, TX7, 7, rfl, by decide, inX7, rfl, rfl, Or.inl gw_51⟩
theorem fw_X7_27 : fldw RX7 27 7 5 "lineages" "" := ⟨RX7, TX7, 7, rfl, by decide, inX7, rfl, rfl, Or.inl gw_52⟩
theorem fw_X7_36 : fldw RX7 36 7 6 "size" "" := ⟨RX7, TX7, 7, rfl, by decide, inX7, rfl, rfl, Or.inl gw_53⟩
theorem fw_X8_12 : fldw RX8 12 8 0 "desk" "" := ⟨RX8, TX8, 5, rfl, by decide, inX8, rfl, rfl, Or.inl gw_214⟩
theorem fw_X8_16 : fldw RX8 16 8 1 "trial" "" := ⟨RX8, TX8, 5, rfl, by decide, inX8, rfl, rfl, Or.inl gw_215⟩
theorem fw_X8_22 : fldw RX8 22 8 2 "saved" "" := ⟨RX8, TX8, 5, rfl, by decide, inX8, rfl, rfl, Or.inl gw_216⟩
theorem fw_X8_29 : fldw RX8 29 8 3 "text" "" := ⟨RX8, TX8, 5, rfl, by decide, inX8, rfl, rfl, Or.inl gw_217⟩
theorem fw_X8_52 : fldw RX8 52 1 0 "tree" "SectionDesk" := ⟨RX1, TX1, 7, rfl, by decide, inX1, rfl, rfl, Or.inr nw_10⟩
theorem fw_X8_78 : fldw RX8 78 7 6 "size" "SectionDesk" := ⟨RX7, TX7, 7, rfl, by decide, inX7, rfl, rfl, Or.inr nw_2⟩
theorem fw_X8_219 : fldw RX8 219 1 2 "queue" "SectionDesk" := ⟨RX1, TX1, 7, rfl, by decide, inX1, rfl, rfl, Or.inr nw_12⟩
theorem fw_X8_234 : fldw RX8 234 1 3 "history" "SectionDesk" := ⟨RX1, TX1, 7, rfl, by decide, inX1, rfl, rfl, Or.inr nw_13⟩
theorem fw_X8_238 : fldw RX8 238 2 2 "count" "SectionDesk" := ⟨RX2, TX2, 3, rfl, by decide, inX2, rfl, rfl, Or.inr nw_9⟩
theorem fw_X8_256 : fldw RX8 256 5 1 "count" "SectionDesk" := ⟨RX5, TX5, 2, rfl, by decide, inX5, rfl, rfl, Or.inr nw_7⟩
theorem fw_X8_271 : fldw RX8 271 3 1 "length" "SectionDesk" := ⟨RX3, TX3, 8, rfl, by decide, inX3, rfl, rfl, Or.inr nw_18⟩
theorem fw_X8_280 : fldw RX8 280 3 4 "orders" "SectionDesk" := ⟨RX3, TX3, 8, rfl, by decide, inX3, rfl, rfl, Or.inr nw_19⟩
theorem fw_X8_294 : fldw RX8 294 6 1 "count" "SectionDesk" := ⟨RX6, TX6, 2, rfl, by decide, inX6, rfl, rfl, Or.inr nw_16⟩
theorem fw_X9_7 : fldw RX9 7 9 0 "now" "" := ⟨RX9, TX9, 19, rfl, by decide, inX9, rfl, rfl, Or.inl gw_1251⟩
theorem fw_X9_13 : fldw RX9 13 9 1 "past" "" := ⟨RX9, TX9, 19, rfl, by decide, inX9, rfl, rfl, Or.inl gw_1252⟩
theorem fw_X9_16 : fldw RX9 16 9 2 "aside" "" := ⟨RX9, TX9, 19, rfl, by decide, inX9, rfl, rfl, Or.inl gw_1253⟩
theorem fw_X9_19 : fldw RX9 19 9 5 "text" "" := ⟨RX9, TX9, 19, rfl, by decide, inX9, rfl, rfl, Or.inl gw_1256⟩
theorem fw_X9_22 : fldw RX9 22 9 7 "taken" "" := ⟨RX9, TX9, 19, rfl, by decide, inX9, rfl, rfl, Or.inl gw_1258⟩
theorem fw_X9_25 : fldw RX9 25 9 8 "then" "" := ⟨RX9, TX9, 19, rfl, by decide, inX9, rfl, rfl, Or.inl gw_1259⟩
theorem fw_X9_28 : fldw RX9 28 9 9 "goes" "" := ⟨RX9, TX9, 19, rfl, by decide, inX9, rfl, rfl, Or.inl gw_1260⟩
theorem fw_X9_32 : fldw RX9 32 9 12 "letters" "" := ⟨RX9, TX9, 19, rfl, by decide, inX9, rfl, rfl, Or.inl gw_1263⟩
theorem fw_X9_35 : fldw RX9 35 9 13 "numbers" "" := ⟨RX9, TX9, 19, rfl, by decide, inX9, rfl, rfl, Or.inl gw_1264⟩
theorem fw_X9_38 : fldw RX9 38 9 14 "outlined" "" := ⟨RX9, TX9, 19, rfl, by decide, inX9, rfl, rfl, Or.inl gw_1265⟩
theorem fw_X9_41 : fldw RX9 41 9 16 "begun" "" := ⟨RX9, TX9, 19, rfl, by decide, inX9, rfl, rfl, Or.inl gw_1267⟩
theorem fw_X9_44 : fldw RX9 44 9 17 "told" "" := ⟨RX9, TX9, 19, rfl, by decide, inX9, rfl, rfl, Or.inl gw_1268⟩
theorem fw_X9_47 : fldw RX9 47 9 4 "refusal" "" := ⟨RX9, TX9, 19, rfl, by decide, inX9, rfl, rfl, Or.inl gw_1255⟩
theorem fw_X9_51 : fldw RX9 51 9 3 "saved" "" := ⟨RX9, TX9, 19, rfl, by decide, inX9, rfl, rfl, Or.inl gw_1254⟩
theorem fw_X9_251 : fldw RX9 251 9 6 "length" "" := ⟨RX9, TX9, 19, rfl, by decide, inX9, rfl, rfl, Or.inl gw_1257⟩
theorem fw_X9_254 : fldw RX9 254 9 10 "spot" "" := ⟨RX9, TX9, 19, rfl, by decide, inX9, rfl, rfl, Or.inl gw_1261⟩
theorem fw_X9_263 : fldw RX9 263 9 11 "orders" "" := ⟨RX9, TX9, 19, rfl, by decide, inX9, rfl, rfl, Or.inl gw_1262⟩
theorem fw_X9_279 : fldw RX9 279 9 15 "outlinedMany" "" := ⟨RX9, TX9, 19, rfl, by decide, inX9, rfl, rfl, Or.inl gw_1266⟩
theorem fw_X9_293 : fldw RX9 293 9 18 "hash" "" := ⟨RX9, TX9, 19, rfl, by decide, inX9, rfl, rfl, Or.inl gw_1269⟩
theorem flp_0_3 : flpw 0 3 := ⟨RX0, TX0, 4, tyX0, rfl, tyX0_ok, nmX0, rfl, by decide +kernel⟩
theorem flp_1_6 : flpw 1 6 := ⟨RX1, TX1, 7, tyX1, rfl, tyX1_ok, nmX1, rfl, by decide +kernel⟩
theorem flp_2_1 : flpw 2 1 := ⟨RX2, TX2, 3, tyX2, rfl, tyX2_ok, nmX2, rfl, by decide +kernel⟩
theorem flp_2_2 : flpw 2 2 := ⟨RX2, TX2, 3, tyX2, rfl, tyX2_ok, nmX2, rfl, by decide +kernel⟩
theorem flp_3_1 : flpw 3 1 := ⟨RX3, TX3, 8, tyX3, rfl, tyX3_ok, nmX3, rfl, by decide +kernel⟩
theorem flp_3_4 : flpw 3 4 := ⟨RX3, TX3, 8, tyX3, rfl, tyX3_ok, nmX3, rfl, by decide +kernel⟩
theorem flp_3_5 : flpw 3 5 := ⟨RX3, TX3, 8, tyX3, rfl, tyX3_ok, nmX3, rfl, by decide +kernel⟩
theorem flp_3_6 : flpw 3 6 := ⟨RX3, TX3, 8, tyX3, rfl, tyX3_ok, nmX3, rfl, by decide +kernel⟩
theorem flp_3_7 : flpw 3 7 := ⟨RX3, TX3, 8, tyX3, rfl, tyX3_ok, nmX3, rfl, by decide +kernel⟩
theorem flp_4_1 : flpw 4 1 := ⟨RX4, TX4, 2, tyX4, rfl, tyX4_ok, nmX4, rfl, by decide +kernel⟩
theorem flp_5_1 : flpw 5 1 := ⟨RX5, TX5, 2, tyX5, rfl, tyX5_ok, nmX5, rfl, by decide +kernel⟩
theorem flp_6_1 : flpw 6 1 := ⟨RX6, TX6, 2, tyX6, rfl, tyX6_ok, nmX6, rfl, by decide +kernel⟩
theorem flp_7_6 : flpw 7 6 := ⟨RX7, TX7, 7, tyX7, rfl, tyX7_ok, nmX7, rfl, by decide +kernel⟩
theorem flp_9_3 : flpw 9 3 := ⟨RX9, TX9, 19, tyX9, rfl, tyX9_ok, nmX9, rfl, by decide +kernel⟩
theorem flp_9_4 : flpw 9 4 := ⟨RX9, TX9, 19, tyX9, rfl, tyX9_ok, nmX9, rfl, by decide +kernel⟩
theorem flp_9_6 : flpw 9 6 := ⟨RX9, TX9, 19, tyX9, rfl, tyX9_ok, nmX9, rfl, by decide +kernel⟩
theorem flp_9_10 : flpw 9 10 := ⟨RX9, TX9, 19, tyX9, rfl, tyX9_ok, nmX9, rfl, by decide +kernel⟩
theorem flp_9_11 : flpw 9 11 := ⟨RX9, TX9, 19, tyX9, rfl, tyX9_ok, nmX9, rfl, by decide +kernel⟩
theorem flp_9_15 : flpw 9 15 := ⟨RX9, TX9, 19, tyX9, rfl, tyX9_ok, nmX9, rfl, by decide +kernel⟩
theorem kd_J6_bitCount_0f7a4 : cwd yJ6_bitCount_0f7a4 cJ6_bitCount_0f7a4 1 (some .int) 1 := ⟨gw_21, gw_494, by decide +kernel, by decide +kernel, by decide +kernel⟩
theorem kd_J7_fill_53178 : cwd yJ7_fill_53178 cJ7_fill_53178 4 none 2 := ⟨gw_4, gw_45, by decide +kernel, by decide +kernel, by decide +kernel⟩
theorem kd_Jxf58ca_floatToIntBits_5c35a : cwd yJxf58ca_floatToIntBits_5c35a cJxf58ca_floatToIntBits_5c35a 1 (some .int) 1 := ⟨gw_22, gw_1679, by decide +kernel, by decide +kernel, by decide +kernel⟩
theorem kd_Jxf58ca_isNaN_12338 : cwd yJxf58ca_isNaN_12338 cJxf58ca_isNaN_12338 1 (some .boolean) 1 := ⟨gw_22, gw_1682, by decide +kernel, by decide +kernel, by decide +kernel⟩
theorem kd_X0_baseAt : cwd yX0_baseAt cX0_baseAt 4 (some .int) 2 := ⟨gw_5, gw_445, by decide +kernel, by decide +kernel, by decide +kernel⟩
theorem kv_X0_baseAt : cwv yX0_baseAt := ⟨gw_443, gw_444⟩
theorem kd_X0_close : cwd yX0_close cX0_close 2 none 1 := ⟨gw_5, gw_616, by decide +kernel, by decide +kernel, by decide +kernel⟩
theorem kv_X0_close : cwv yX0_close := ⟨gw_614, gw_615⟩
theorem kd_X0_closeAll : cwd yX0_closeAll cX0_closeAll 2 none 1 := ⟨gw_5, gw_537, by decide +kernel, by decide +kernel, by decide +kernel⟩
theorem kv_X0_closeAll : cwv yX0_closeAll := ⟨gw_535, gw_536⟩
theorem kd_X0_copyDocument : cwd yX0_copyDocument cX0_copyDocument 5 none 3 := ⟨gw_5, gw_532, by decide +kernel, by decide +kernel, by decide +kernel⟩
theorem kv_X0_copyDocument : cwv yX0_copyDocument := ⟨gw_530, gw_531⟩
theorem kd_X0_copyFrom : cwd yX0_copyFrom cX0_copyFrom 2 none 1 := ⟨gw_5, gw_312, by decide +kernel, by decide +kernel, by decide +kernel⟩
theorem kv_X0_copyFrom : cwv yX0_copyFrom := ⟨gw_310, gw_311⟩
theorem kd_X0_copyOther : cwd yX0_copyOther cX0_copyOther 5 none 3 := ⟨gw_5, gw_518, by decide +kernel, by decide +kernel, by decide +kernel⟩
theorem kv_X0_copyOther : cwv yX0_copyOther := ⟨gw_516, gw_517⟩
theorem kd_X0_countWithout : cwd yX0_countWithout cX0_countWithout 2 (some .int) 1 := ⟨gw_5, gw_491, by decide +kernel, by decide +kernel, by decide +kernel⟩
theorem kv_X0_countWithout : cwv yX0_countWithout := ⟨gw_489, gw_490⟩
theorem kd_X0_fact : cwd yX0_fact cX0_fact 4 (some .int) 2 := ⟨gw_5, gw_364, by decide +kernel, by decide +kernel, by decide +kernel⟩
theorem kv_X0_fact : cwv yX0_fact := ⟨gw_362, gw_363⟩
theorem kd_X0_has : cwd yX0_has cX0_has 2 (some .boolean) 1 := ⟨gw_5, gw_403, by decide +kernel, by decide +kernel, by decide +kernel⟩
theorem kv_X0_has : cwv yX0_has := ⟨gw_401, gw_402⟩
theorem kd_X0_hashCopy : cwd yX0_hashCopy cX0_hashCopy 8 (some .long) 3 := ⟨gw_5, gw_717, by decide +kernel, by decide +kernel, by decide +kernel⟩
theorem kv_X0_hashCopy : cwv yX0_hashCopy := ⟨gw_716, gs_33⟩
theorem kd_X0_hashOnto : cwd yX0_hashOnto cX0_hashOnto 8 (some .long) 2 := ⟨gw_5, gw_711, by decide +kernel, by decide +kernel, by decide +kernel⟩
theorem kv_X0_hashOnto : cwv yX0_hashOnto := ⟨gw_709, gw_710⟩
theorem kd_X0_isHeld : cwd yX0_isHeld cX0_isHeld 2 (some .boolean) 1 := ⟨gw_5, gw_360, by decide +kernel, by decide +kernel, by decide +kernel⟩
theorem kv_X0_isHeld : cwv yX0_isHeld := ⟨gw_358, gw_359⟩
theorem kd_X0_isShared : cwd yX0_isShared cX0_isShared 2 (some .boolean) 1 := ⟨gw_5, gw_419, by decide +kernel, by decide +kernel, by decide +kernel⟩
theorem kv_X0_isShared : cwv yX0_isShared := ⟨gw_417, gw_418⟩
theorem kd_X0_lose : cwd yX0_lose cX0_lose 2 none 1 := ⟨gw_5, gw_636, by decide +kernel, by decide +kernel, by decide +kernel⟩
theorem kv_X0_lose : cwv yX0_lose := ⟨gw_634, gw_635⟩
theorem kd_X0_lowestFree : cwd yX0_lowestFree cX0_lowestFree 3 (some .int) 1 := ⟨gw_5, gw_509, by decide +kernel, by decide +kernel, by decide +kernel⟩
theorem kv_X0_lowestFree : cwv yX0_lowestFree := ⟨gw_507, gw_508⟩
theorem kd_X0_open : cwd yX0_open cX0_open 6 none 5 := ⟨gw_5, gw_541, by decide +kernel, by decide +kernel, by decide +kernel⟩
theorem kv_X0_open : cwv yX0_open := ⟨gw_539, gw_540⟩
theorem kd_X0_ownAt : cwd yX0_ownAt cX0_ownAt 4 (some .int) 2 := ⟨gw_5, gw_449, by decide +kernel, by decide +kernel, by decide +kernel⟩
theorem kv_X0_ownAt : cwv yX0_ownAt := ⟨gw_447, gw_448⟩
theorem kd_X0_setBase : cwd yX0_setBase cX0_setBase 4 none 3 := ⟨gw_5, gw_523, by decide +kernel, by decide +kernel, by decide +kernel⟩
theorem kv_X0_setBase : cwv yX0_setBase := ⟨gw_522, gs_18⟩
theorem kd_X0_setExpiry : cwd yX0_setExpiry cX0_setExpiry 3 none 2 := ⟨gw_5, gw_1017, by decide +kernel, by decide +kernel, by decide +kernel⟩
theorem kv_X0_setExpiry : cwv yX0_setExpiry := ⟨gw_1015, gw_1016⟩
theorem kd_X0_setFact : cwd yX0_setFact cX0_setFact 4 none 3 := ⟨gw_5, gw_546, by decide +kernel, by decide +kernel, by decide +kernel⟩
theorem kv_X0_setFact : cwv yX0_setFact := ⟨gw_545, gs_19⟩
theorem kd_X0_setOwn : cwd yX0_setOwn cX0_setOwn 4 none 3 := ⟨gw_5, gw_528, by decide +kernel, by decide +kernel, by decide +kernel⟩
theorem kv_X0_setOwn : cwv yX0_setOwn := ⟨gw_526, gw_527⟩
theorem kd_X0_tops : cwd yX0_tops cX0_tops 4 (some .int) 1 := ⟨gw_5, gw_431, by decide +kernel, by decide +kernel, by decide +kernel⟩
theorem kv_X0_tops : cwv yX0_tops := ⟨gw_429, gw_430⟩
theorem kd_X1_absorbedBy : cwd yX1_absorbedBy cX1_absorbedBy 6 (some .int) 1 := ⟨gw_2, gw_486, by decide +kernel, by decide +kernel, by decide +kernel⟩
theorem kv_X1_absorbedBy : cwv yX1_absorbedBy := ⟨gw_485, gs_14⟩
theorem kd_X1_blockersOf : cwd yX1_blockersOf cX1_blockersOf 6 (some .int) 1 := ⟨gw_2, gw_505, by decide +kernel, by decide +kernel, by decide +kernel⟩
theorem kv_X1_blockersOf : cwv yX1_blockersOf := ⟨gw_504, gs_16⟩
theorem kd_X1_breakFault : cwd yX1_breakFault cX1_breakFault 2 (some .int) 1 := ⟨gw_2, gw_461, by decide +kernel, by decide +kernel, by decide +kernel⟩
theorem kv_X1_breakFault : cwv yX1_breakFault := ⟨gw_459, gw_460⟩
theorem kd_X1_breakNow : cwd yX1_breakNow cX1_breakNow 3 (some .int) 1 := ⟨gw_2, gw_632, by decide +kernel, by decide +kernel, by decide +kernel⟩
theorem kv_X1_breakNow : cwv yX1_breakNow := ⟨gw_630, gw_631⟩
theorem kd_X1_changeCell : cwd yX1_changeCell cX1_changeCell 3 (some .int) 2 := ⟨gw_2, gw_590, by decide +kernel, by decide +kernel, by decide +kernel⟩
theorem kv_X1_changeCell : cwv yX1_changeCell := ⟨gw_589, gs_25⟩
theorem kd_X1_changeToWanted : cwd yX1_changeToWanted cX1_changeToWanted 6 (some .int) 1 := ⟨gw_2, gw_586, by decide +kernel, by decide +kernel, by decide +kernel⟩
theorem kv_X1_changeToWanted : cwv yX1_changeToWanted := ⟨gw_585, gs_24⟩
theorem kd_X1_checkOutFault : cwd yX1_checkOutFault cX1_checkOutFault 2 (some .int) 1 := ⟨gw_2, gw_457, by decide +kernel, by decide +kernel, by decide +kernel⟩
theorem kv_X1_checkOutFault : cwv yX1_checkOutFault := ⟨gw_455, gw_456⟩
theorem kd_X1_claims : cwd yX1_claims cX1_claims 1 (some .int) 0 := ⟨gw_2, gw_753, by decide +kernel, by decide +kernel, by decide +kernel⟩
theorem kv_X1_claims : cwv yX1_claims := ⟨gw_752, gs_35⟩
theorem kd_X1_copyFrom : cwd yX1_copyFrom cX1_copyFrom 2 none 1 := ⟨gw_2, gw_295, by decide +kernel, by decide +kernel, by decide +kernel⟩
theorem kv_X1_copyFrom : cwv yX1_copyFrom := ⟨gw_293, gw_294⟩
theorem kd_X1_countConflicts : cwd yX1_countConflicts cX1_countConflicts 5 (some .int) 1 := ⟨gw_2, gw_437, by decide +kernel, by decide +kernel, by decide +kernel⟩
theorem kv_X1_countConflicts : cwv yX1_countConflicts := ⟨gw_435, gw_436⟩
theorem kd_X1_countEdited : cwd yX1_countEdited cX1_countEdited 5 (some .int) 1 := ⟨gw_2, gw_628, by decide +kernel, by decide +kernel, by decide +kernel⟩
theorem kv_X1_countEdited : cwv yX1_countEdited := ⟨gw_626, gw_627⟩
theorem kd_X1_countUse : cwd yX1_countUse cX1_countUse 4 none 1 := ⟨gw_2, gw_654, by decide +kernel, by decide +kernel, by decide +kernel⟩
theorem kv_X1_countUse : cwv yX1_countUse := ⟨gw_653, gs_29⟩
theorem kd_X1_discardNow : cwd yX1_discardNow cX1_discardNow 3 (some .int) 1 := ⟨gw_2, gw_624, by decide +kernel, by decide +kernel, by decide +kernel⟩
theorem kv_X1_discardNow : cwv yX1_discardNow := ⟨gw_622, gw_623⟩
theorem kd_X1_editFault : cwd yX1_editFault cX1_editFault 5 (some .int) 4 := ⟨gw_2, gw_395, by decide +kernel, by decide +kernel, by decide +kernel⟩
theorem kv_X1_editFault : cwv yX1_editFault := ⟨gw_393, gw_394⟩
theorem kd_X1_editNow : cwd yX1_editNow cX1_editNow 7 (some .int) 4 := ⟨gw_2, gw_555, by decide +kernel, by decide +kernel, by decide +kernel⟩
theorem kv_X1_editNow : cwv yX1_editNow := ⟨gw_553, gw_554⟩
theorem kd_X1_giveBackFault : cwd yX1_giveBackFault cX1_giveBackFault 4 (some .int) 2 := ⟨gw_2, gw_423, by decide +kernel, by decide +kernel, by decide +kernel⟩
theorem kv_X1_giveBackFault : cwv yX1_giveBackFault := ⟨gw_421, gw_422⟩
theorem kd_X1_giveBackNow : cwd yX1_giveBackNow cX1_giveBackNow 4 (some .int) 2 := ⟨gw_2, gw_563, by decide +kernel, by decide +kernel, by decide +kernel⟩
theorem kv_X1_giveBackNow : cwv yX1_giveBackNow := ⟨gw_561, gw_562⟩
theorem kd_X1_hasCopy : cwd yX1_hasCopy cX1_hasCopy 4 (some .boolean) 3 := ⟨gw_2, gw_399, by decide +kernel, by decide +kernel, by decide +kernel⟩
theorem kv_X1_hasCopy : cwv yX1_hasCopy := ⟨gw_397, gw_398⟩
theorem kd_X1_hasLine : cwd yX1_hasLine cX1_hasLine 3 (some .boolean) 2 := ⟨gw_2, gw_407, by decide +kernel, by decide +kernel, by decide +kernel⟩
theorem kv_X1_hasLine : cwv yX1_hasLine := ⟨gw_405, gw_406⟩
theorem kd_X1_hashOnto : cwd yX1_hashOnto cX1_hashOnto 6 (some .long) 1 := ⟨gw_2, gw_676, by decide +kernel, by decide +kernel, by decide +kernel⟩
theorem kv_X1_hashOnto : cwv yX1_hashOnto := ⟨gw_674, gw_675⟩
theorem kd_X1_hinderersOf : cwd yX1_hinderersOf cX1_hinderersOf 7 (some .int) 2 := ⟨gw_2, gw_501, by decide +kernel, by decide +kernel, by decide +kernel⟩
theorem kv_X1_hinderersOf : cwv yX1_hinderersOf := ⟨gw_500, gs_15⟩
theorem kd_X1_holdsAround : cwd yX1_holdsAround cX1_holdsAround 6 (some .boolean) 3 := ⟨gw_2, gw_343, by decide +kernel, by decide +kernel, by decide +kernel⟩
theorem kv_X1_holdsAround : cwv yX1_holdsAround := ⟨gw_342, gs_8⟩
theorem kd_X1_isConflict : cwd yX1_isConflict cX1_isConflict 6 (some .boolean) 2 := ⟨gw_2, gw_441, by decide +kernel, by decide +kernel, by decide +kernel⟩
theorem kv_X1_isConflict : cwv yX1_isConflict := ⟨gw_440, gs_11⟩
theorem kd_X1_isCovered : cwd yX1_isCovered cX1_isCovered 2 (some .boolean) 1 := ⟨gw_2, gw_749, by decide +kernel, by decide +kernel, by decide +kernel⟩
theorem kv_X1_isCovered : cwv yX1_isCovered := ⟨gw_748, gs_34⟩
theorem kd_X1_isHeldAround : cwd yX1_isHeldAround cX1_isHeldAround 2 (some .boolean) 1 := ⟨gw_2, gw_427, by decide +kernel, by decide +kernel, by decide +kernel⟩
theorem kv_X1_isHeldAround : cwv yX1_isHeldAround := ⟨gw_426, gs_10⟩
theorem kd_X1_isTouched : cwd yX1_isTouched cX1_isTouched 2 (some .boolean) 1 := ⟨gw_2, gw_890, by decide +kernel, by decide +kernel, by decide +kernel⟩
theorem kv_X1_isTouched : cwv yX1_isTouched := ⟨gw_889, gs_39⟩
theorem kd_X1_lookAt : cwd yX1_lookAt cX1_lookAt 7 (some .int) 1 := ⟨gw_2, gw_482, by decide +kernel, by decide +kernel, by decide +kernel⟩
theorem kv_X1_lookAt : cwv yX1_lookAt := ⟨gw_481, gs_13⟩
theorem kd_X1_loseExpired : cwd yX1_loseExpired cX1_loseExpired 2 none 0 := ⟨gw_2, gw_658, by decide +kernel, by decide +kernel, by decide +kernel⟩
theorem kv_X1_loseExpired : cwv yX1_loseExpired := ⟨gw_657, gs_30⟩
theorem kd_X1_passFault : cwd yX1_passFault cX1_passFault 2 (some .int) 1 := ⟨gw_2, gw_465, by decide +kernel, by decide +kernel, by decide +kernel⟩
theorem kv_X1_passFault : cwv yX1_passFault := ⟨gw_463, gw_464⟩
theorem kd_X1_passTicks : cwd yX1_passTicks cX1_passTicks 7 none 2 := ⟨gw_2, gw_642, by decide +kernel, by decide +kernel, by decide +kernel⟩
theorem kv_X1_passTicks : cwv yX1_passTicks := ⟨gw_640, gw_641⟩
theorem kd_X1_requestFault : cwd yX1_requestFault cX1_requestFault 6 (some .int) 4 := ⟨gw_2, gw_339, by decide +kernel, by decide +kernel, by decide +kernel⟩
theorem kv_X1_requestFault : cwv yX1_requestFault := ⟨gw_337, gw_338⟩
theorem kd_X1_requestNow : cwd yX1_requestNow cX1_requestNow 5 (some .int) 4 := ⟨gw_2, gw_469, by decide +kernel, by decide +kernel, by decide +kernel⟩
theorem kv_X1_requestNow : cwv yX1_requestNow := ⟨gw_467, gw_468⟩
theorem kd_X1_returnedValue : cwd yX1_returnedValue cX1_returnedValue 6 (some .int) 3 := ⟨gw_2, gw_575, by decide +kernel, by decide +kernel, by decide +kernel⟩
theorem kv_X1_returnedValue : cwv yX1_returnedValue := ⟨gw_574, gs_22⟩
theorem kd_X1_sectionsOf : cwd yX1_sectionsOf cX1_sectionsOf 2 (some .int) 1 := ⟨gw_2, gw_414, by decide +kernel, by decide +kernel, by decide +kernel⟩
theorem kv_X1_sectionsOf : cwv yX1_sectionsOf := ⟨gw_413, gs_9⟩
theorem kd_X1_serve : cwd yX1_serve cX1_serve 5 (some .int) 0 := ⟨gw_2, gw_620, by decide +kernel, by decide +kernel, by decide +kernel⟩
theorem kv_X1_serve : cwv yX1_serve := ⟨gw_618, gw_619⟩
theorem kd_X1_startCopy : cwd yX1_startCopy cX1_startCopy 7 none 3 := ⟨gw_2, gw_514, by decide +kernel, by decide +kernel, by decide +kernel⟩
theorem kv_X1_startCopy : cwv yX1_startCopy := ⟨gw_513, gs_17⟩
theorem kd_X1_ticksToExpiry : cwd yX1_ticksToExpiry cX1_ticksToExpiry 4 (some .int) 1 := ⟨gw_2, gw_646, by decide +kernel, by decide +kernel, by decide +kernel⟩
theorem kv_X1_ticksToExpiry : cwv yX1_ticksToExpiry := ⟨gw_645, gs_28⟩
theorem kd_X1_want : cwd yX1_want cX1_want 3 none 2 := ⟨gw_2, gw_579, by decide +kernel, by decide +kernel, by decide +kernel⟩
theorem kv_X1_want : cwv yX1_want := ⟨gw_578, gs_23⟩
theorem kd_X1_wantPresent : cwd yX1_wantPresent cX1_wantPresent 1 none 0 := ⟨gw_2, gw_567, by decide +kernel, by decide +kernel, by decide +kernel⟩
theorem kv_X1_wantPresent : cwv yX1_wantPresent := ⟨gw_566, gs_20⟩
theorem kd_X1_wantReturned : cwd yX1_wantReturned cX1_wantReturned 5 none 2 := ⟨gw_2, gw_571, by decide +kernel, by decide +kernel, by decide +kernel⟩
theorem kv_X1_wantReturned : cwv yX1_wantReturned := ⟨gw_570, gs_21⟩
theorem kd_X2_add : cwd yX2_add cX2_add 6 none 5 := ⟨gw_7, gw_594, by decide +kernel, by decide +kernel, by decide +kernel⟩
theorem kv_X2_add : cwv yX2_add := ⟨gw_592, gw_593⟩
theorem kd_X2_copyFrom : cwd yX2_copyFrom cX2_copyFrom 2 none 1 := ⟨gw_7, gw_322, by decide +kernel, by decide +kernel, by decide +kernel⟩
theorem kv_X2_copyFrom : cwv yX2_copyFrom := ⟨gw_320, gw_321⟩
theorem kd_X2_fact : cwd yX2_fact cX2_fact 4 (some .int) 2 := ⟨gw_7, gw_731, by decide +kernel, by decide +kernel, by decide +kernel⟩
theorem kv_X2_fact : cwv yX2_fact := ⟨gw_729, gw_730⟩
theorem kd_X2_hashOnto : cwd yX2_hashOnto cX2_hashOnto 7 (some .long) 1 := ⟨gw_7, gw_726, by decide +kernel, by decide +kernel, by decide +kernel⟩
theorem kv_X2_hashOnto : cwv yX2_hashOnto := ⟨gw_724, gw_725⟩
theorem kd_X2_indexOf : cwd yX2_indexOf cX2_indexOf 4 (some .int) 2 := ⟨gw_7, gw_602, by decide +kernel, by decide +kernel, by decide +kernel⟩
theorem kv_X2_indexOf : cwv yX2_indexOf := ⟨gw_601, gs_27⟩
theorem kd_X2_removeOf : cwd yX2_removeOf cX2_removeOf 5 none 1 := ⟨gw_7, gw_898, by decide +kernel, by decide +kernel, by decide +kernel⟩
theorem kv_X2_removeOf : cwv yX2_removeOf := ⟨gw_896, gw_897⟩
theorem kd_X2_setFact : cwd yX2_setFact cX2_setFact 5 none 3 := ⟨gw_7, gw_598, by decide +kernel, by decide +kernel, by decide +kernel⟩
theorem kv_X2_setFact : cwv yX2_setFact := ⟨gw_597, gs_26⟩
theorem kd_X2_turnBack : cwd yX2_turnBack cX2_turnBack 5 none 2 := ⟨gw_7, gw_1147, by decide +kernel, by decide +kernel, by decide +kernel⟩
theorem kv_X2_turnBack : cwv yX2_turnBack := ⟨gw_1145, gw_1146⟩
theorem kd_X3_letterOf : cwd yX3_letterOf cX3_letterOf 2 (some .int) 1 := ⟨gw_9, gw_291, by decide +kernel, by decide +kernel, by decide +kernel⟩
theorem kv_X3_letterOf : cwv yX3_letterOf := ⟨gw_289, gw_290⟩
theorem kd_X3_numberOf : cwd yX3_numberOf cX3_numberOf 4 (some .int) 2 := ⟨gw_9, gw_283, by decide +kernel, by decide +kernel, by decide +kernel⟩
theorem kv_X3_numberOf : cwv yX3_numberOf := ⟨gw_281, gw_282⟩
theorem kd_X3_numbersAfter : cwd yX3_numbersAfter cX3_numbersAfter 1 (some .int) 1 := ⟨gw_9, gw_264, by decide +kernel, by decide +kernel, by decide +kernel⟩
theorem kd_X3_parse : cwd yX3_parse cX3_parse 2 (some .int) 0 := ⟨gw_9, gw_253, by decide +kernel, by decide +kernel, by decide +kernel⟩
theorem kv_X3_parse : cwv yX3_parse := ⟨gw_251, gw_252⟩
theorem kd_X3_setNumber : cwd yX3_setNumber cX3_setNumber 4 none 3 := ⟨gw_9, gw_275, by decide +kernel, by decide +kernel, by decide +kernel⟩
theorem kv_X3_setNumber : cwv yX3_setNumber := ⟨gw_274, gs_3⟩
theorem kd_X3_takes : cwd yX3_takes cX3_takes 2 (some .boolean) 1 := ⟨gw_9, gw_257, by decide +kernel, by decide +kernel, by decide +kernel⟩
theorem kv_X3_takes : cwv yX3_takes := ⟨gw_256, gs_0⟩
theorem kd_X3_takesDigit : cwd yX3_takesDigit cX3_takesDigit 2 (some .boolean) 1 := ⟨gw_9, gw_279, by decide +kernel, by decide +kernel, by decide +kernel⟩
theorem kv_X3_takesDigit : cwv yX3_takesDigit := ⟨gw_278, gs_4⟩
theorem kd_X3_takesInNumber : cwd yX3_takesInNumber cX3_takesInNumber 3 (some .boolean) 1 := ⟨gw_9, gw_287, by decide +kernel, by decide +kernel, by decide +kernel⟩
theorem kv_X3_takesInNumber : cwv yX3_takesInNumber := ⟨gw_286, gs_5⟩
theorem kd_X3_takesLetter : cwd yX3_takesLetter cX3_takesLetter 2 (some .boolean) 1 := ⟨gw_9, gw_261, by decide +kernel, by decide +kernel, by decide +kernel⟩
theorem kv_X3_takesLetter : cwv yX3_takesLetter := ⟨gw_260, gs_1⟩
theorem kd_X3_takesSpace : cwd yX3_takesSpace cX3_takesSpace 2 (some .boolean) 1 := ⟨gw_9, gw_271, by decide +kernel, by decide +kernel, by decide +kernel⟩
theorem kv_X3_takesSpace : cwv yX3_takesSpace := ⟨gw_270, gs_2⟩
theorem kd_X4_put : cwd yX4_put cX4_put 2 none 1 := ⟨gw_10, gw_1225, by decide +kernel, by decide +kernel, by decide +kernel⟩
theorem kv_X4_put : cwv yX4_put := ⟨gw_1224, gs_41⟩
theorem kd_X5_copyFrom : cwd yX5_copyFrom cX5_copyFrom 2 none 1 := ⟨gw_6, gw_317, by decide +kernel, by decide +kernel, by decide +kernel⟩
theorem kv_X5_copyFrom : cwv yX5_copyFrom := ⟨gw_315, gw_316⟩
theorem kd_X5_fact : cwd yX5_fact cX5_fact 4 (some .int) 2 := ⟨gw_6, gw_376, by decide +kernel, by decide +kernel, by decide +kernel⟩
theorem kv_X5_fact : cwv yX5_fact := ⟨gw_374, gw_375⟩
theorem kd_X5_hashOnto : cwd yX5_hashOnto cX5_hashOnto 7 (some .long) 1 := ⟨gw_6, gw_721, by decide +kernel, by decide +kernel, by decide +kernel⟩
theorem kv_X5_hashOnto : cwv yX5_hashOnto := ⟨gw_719, gw_720⟩
theorem kd_X5_isFull : cwd yX5_isFull cX5_isFull 1 (some .boolean) 0 := ⟨gw_6, gw_380, by decide +kernel, by decide +kernel, by decide +kernel⟩
theorem kv_X5_isFull : cwv yX5_isFull := ⟨gw_378, gw_379⟩
theorem kd_X5_join : cwd yX5_join cX5_join 5 (some .int) 4 := ⟨gw_6, gw_473, by decide +kernel, by decide +kernel, by decide +kernel⟩
theorem kv_X5_join : cwv yX5_join := ⟨gw_471, gw_472⟩
theorem kd_X5_leave : cwd yX5_leave cX5_leave 4 none 1 := ⟨gw_6, gw_550, by decide +kernel, by decide +kernel, by decide +kernel⟩
theorem kv_X5_leave : cwv yX5_leave := ⟨gw_548, gw_549⟩
theorem kd_X5_placeOf : cwd yX5_placeOf cX5_placeOf 3 (some .int) 1 := ⟨gw_6, gw_372, by decide +kernel, by decide +kernel, by decide +kernel⟩
theorem kv_X5_placeOf : cwv yX5_placeOf := ⟨gw_370, gw_371⟩
theorem kd_X5_setFact : cwd yX5_setFact cX5_setFact 4 none 3 := ⟨gw_6, gw_478, by decide +kernel, by decide +kernel, by decide +kernel⟩
theorem kv_X5_setFact : cwv yX5_setFact := ⟨gw_477, gs_12⟩
theorem kd_X5_tops : cwd yX5_tops cX5_tops 3 (some .int) 0 := ⟨gw_6, gw_757, by decide +kernel, by decide +kernel, by decide +kernel⟩
theorem kv_X5_tops : cwv yX5_tops := ⟨gw_755, gw_756⟩
theorem kd_X6_dropOldest : cwd yX6_dropOldest cX6_dropOldest 3 none 0 := ⟨gw_8, gw_666, by decide +kernel, by decide +kernel, by decide +kernel⟩
theorem kv_X6_dropOldest : cwv yX6_dropOldest := ⟨gw_665, gs_31⟩
theorem kd_X6_push : cwd yX6_push cX6_push 2 none 1 := ⟨gw_8, gw_662, by decide +kernel, by decide +kernel, by decide +kernel⟩
theorem kv_X6_push : cwv yX6_push := ⟨gw_660, gw_661⟩
theorem kd_X7_childAt : cwd yX7_childAt cX7_childAt 5 (some .int) 2 := ⟨gw_3, gw_705, by decide +kernel, by decide +kernel, by decide +kernel⟩
theorem kv_X7_childAt : cwv yX7_childAt := ⟨gw_703, gw_704⟩
theorem kd_X7_childrenOf : cwd yX7_childrenOf cX7_childrenOf 4 (some .int) 1 := ⟨gw_3, gw_692, by decide +kernel, by decide +kernel, by decide +kernel⟩
theorem kv_X7_childrenOf : cwv yX7_childrenOf := ⟨gw_690, gw_691⟩
theorem kd_X7_copyFrom : cwd yX7_copyFrom cX7_copyFrom 2 none 1 := ⟨gw_3, gw_299, by decide +kernel, by decide +kernel, by decide +kernel⟩
theorem kv_X7_copyFrom : cwv yX7_copyFrom := ⟨gw_297, gw_298⟩
theorem kd_X7_covers : cwd yX7_covers cX7_covers 3 (some .boolean) 2 := ⟨gw_3, gw_920, by decide +kernel, by decide +kernel, by decide +kernel⟩
theorem kv_X7_covers : cwv yX7_covers := ⟨gw_918, gw_919⟩
theorem kd_X7_findOverlaps : cwd yX7_findOverlaps cX7_findOverlaps 4 none 0 := ⟨gw_3, gw_874, by decide +kernel, by decide +kernel, by decide +kernel⟩
theorem kv_X7_findOverlaps : cwv yX7_findOverlaps := ⟨gw_873, gs_38⟩
theorem kd_X7_has : cwd yX7_has cX7_has 2 (some .boolean) 1 := ⟨gw_3, gw_387, by decide +kernel, by decide +kernel, by decide +kernel⟩
theorem kv_X7_has : cwv yX7_has := ⟨gw_385, gw_386⟩
theorem kd_X7_hashOnto : cwd yX7_hashOnto cX7_hashOnto 6 (some .long) 1 := ⟨gw_3, gw_684, by decide +kernel, by decide +kernel, by decide +kernel⟩
theorem kv_X7_hashOnto : cwv yX7_hashOnto := ⟨gw_682, gw_683⟩
theorem kd_X7_hashSection : cwd yX7_hashSection cX7_hashSection 8 (some .long) 2 := ⟨gw_3, gw_688, by decide +kernel, by decide +kernel, by decide +kernel⟩
theorem kv_X7_hashSection : cwv yX7_hashSection := ⟨gw_687, gs_32⟩
theorem kd_X7_lineageOf : cwd yX7_lineageOf cX7_lineageOf 2 (some .int) 1 := ⟨gw_3, gw_355, by decide +kernel, by decide +kernel, by decide +kernel⟩
theorem kv_X7_lineageOf : cwv yX7_lineageOf := ⟨gw_353, gw_354⟩
theorem kd_X7_lowestFree : cwd yX7_lowestFree cX7_lowestFree 2 (some .int) 0 := ⟨gw_3, gw_868, by decide +kernel, by decide +kernel, by decide +kernel⟩
theorem kv_X7_lowestFree : cwv yX7_lowestFree := ⟨gw_867, gs_37⟩
theorem kd_X7_overlapOf : cwd yX7_overlapOf cX7_overlapOf 2 (some .int) 1 := ⟨gw_3, gw_347, by decide +kernel, by decide +kernel, by decide +kernel⟩
theorem kv_X7_overlapOf : cwv yX7_overlapOf := ⟨gw_345, gw_346⟩
theorem kd_X7_parentOf : cwd yX7_parentOf cX7_parentOf 2 (some .int) 1 := ⟨gw_3, gw_696, by decide +kernel, by decide +kernel, by decide +kernel⟩
theorem kv_X7_parentOf : cwv yX7_parentOf := ⟨gw_694, gw_695⟩
theorem kd_X7_raiseVersion : cwd yX7_raiseVersion cX7_raiseVersion 2 none 1 := ⟨gw_3, gw_611, by decide +kernel, by decide +kernel, by decide +kernel⟩
theorem kv_X7_raiseVersion : cwv yX7_raiseVersion := ⟨gw_609, gw_610⟩
theorem kd_X7_remove : cwd yX7_remove cX7_remove 6 none 1 := ⟨gw_3, gw_903, by decide +kernel, by decide +kernel, by decide +kernel⟩
theorem kv_X7_remove : cwv yX7_remove := ⟨gw_901, gw_902⟩
theorem kd_X7_setValue : cwd yX7_setValue cX7_setValue 3 none 2 := ⟨gw_3, gw_606, by decide +kernel, by decide +kernel, by decide +kernel⟩
theorem kv_X7_setValue : cwv yX7_setValue := ⟨gw_604, gw_605⟩
theorem kd_X7_subtreeOf : cwd yX7_subtreeOf cX7_subtreeOf 2 (some .int) 1 := ⟨gw_3, gw_351, by decide +kernel, by decide +kernel, by decide +kernel⟩
theorem kv_X7_subtreeOf : cwv yX7_subtreeOf := ⟨gw_349, gw_350⟩
theorem kd_X7_valueAt : cwd yX7_valueAt cX7_valueAt 2 (some .int) 1 := ⟨gw_3, gw_453, by decide +kernel, by decide +kernel, by decide +kernel⟩
theorem kv_X7_valueAt : cwv yX7_valueAt := ⟨gw_451, gw_452⟩
theorem kd_X7_versionOf : cwd yX7_versionOf cX7_versionOf 2 (some .int) 1 := ⟨gw_3, gw_701, by decide +kernel, by decide +kernel, by decide +kernel⟩
theorem kv_X7_versionOf : cwv yX7_versionOf := ⟨gw_699, gw_700⟩
theorem kd_X8_cellOf : cwd yX8_cellOf cX8_cellOf 2 (some .int) 2 := ⟨gw_1, gw_558, by decide +kernel, by decide +kernel, by decide +kernel⟩
theorem kd_X8_copyRow : cwd yX8_copyRow cX8_copyRow 2 none 2 := ⟨gw_1, gw_302, by decide +kernel, by decide +kernel, by decide +kernel⟩
theorem kd_X8_faultOf : cwd yX8_faultOf cX8_faultOf 3 (some .int) 3 := ⟨gw_1, gw_391, by decide +kernel, by decide +kernel, by decide +kernel⟩
theorem kd_X8_hasBit : cwd yX8_hasBit cX8_hasBit 2 (some .boolean) 2 := ⟨gw_1, gw_368, by decide +kernel, by decide +kernel, by decide +kernel⟩
theorem kd_X8_hashed : cwd yX8_hashed cX8_hashed 3 (some .long) 2 := ⟨gw_1, gw_679, by decide +kernel, by decide +kernel, by decide +kernel⟩
theorem kd_X8_isCell : cwd yX8_isCell cX8_isCell 1 (some .boolean) 1 := ⟨gw_1, gw_582, by decide +kernel, by decide +kernel, by decide +kernel⟩
theorem kd_X8_isLine : cwd yX8_isLine cX8_isLine 1 (some .boolean) 1 := ⟨gw_1, gw_410, by decide +kernel, by decide +kernel, by decide +kernel⟩
theorem kd_X8_isUser : cwd yX8_isUser cX8_isUser 1 (some .boolean) 1 := ⟨gw_1, gw_383, by decide +kernel, by decide +kernel, by decide +kernel⟩
theorem kd_X8_isWithin : cwd yX8_isWithin cX8_isWithin 3 (some .boolean) 3 := ⟨gw_1, gw_267, by decide +kernel, by decide +kernel, by decide +kernel⟩
theorem kd_X8_orderFault : cwd yX8_orderFault cX8_orderFault 6 (some .int) 5 := ⟨gw_1, gw_334, by decide +kernel, by decide +kernel, by decide +kernel⟩
theorem kv_X8_orderFault : cwv yX8_orderFault := ⟨gw_333, gs_7⟩
theorem kd_X8_runOrder : cwd yX8_runOrder cX8_runOrder 7 (some .boolean) 1 := ⟨gw_1, gw_328, by decide +kernel, by decide +kernel, by decide +kernel⟩
theorem kv_X8_runOrder : cwv yX8_runOrder := ⟨gw_327, gs_6⟩
theorem kd_X9_absorbs : cwd yX9_absorbs cX9_absorbs 5 (some .boolean) 4 := ⟨gw_11, gw_1485, by decide +kernel, by decide +kernel, by decide +kernel⟩
theorem kv_X9_absorbs : cwv yX9_absorbs := ⟨gw_1484, gs_71⟩
theorem kd_X9_barBreak : cwd yX9_barBreak cX9_barBreak 2 (some .int) 1 := ⟨gw_11, gw_1528, by decide +kernel, by decide +kernel, by decide +kernel⟩
theorem kv_X9_barBreak : cwv yX9_barBreak := ⟨gw_1527, gs_78⟩
theorem kd_X9_barEdit : cwd yX9_barEdit cX9_barEdit 5 (some .int) 4 := ⟨gw_11, gw_1556, by decide +kernel, by decide +kernel, by decide +kernel⟩
theorem kv_X9_barEdit : cwv yX9_barEdit := ⟨gw_1555, gs_83⟩
theorem kd_X9_barGive : cwd yX9_barGive cX9_barGive 4 (some .int) 2 := ⟨gw_11, gw_1584, by decide +kernel, by decide +kernel, by decide +kernel⟩
theorem kv_X9_barGive : cwv yX9_barGive := ⟨gw_1583, gs_87⟩
theorem kd_X9_barRequest : cwd yX9_barRequest cX9_barRequest 8 (some .int) 4 := ⟨gw_11, gw_1462, by decide +kernel, by decide +kernel, by decide +kernel⟩
theorem kv_X9_barRequest : cwv yX9_barRequest := ⟨gw_1461, gs_66⟩
theorem kd_X9_bars : cwd yX9_bars cX9_bars 6 (some .boolean) 4 := ⟨gw_11, gw_1481, by decide +kernel, by decide +kernel, by decide +kernel⟩
theorem kv_X9_bars : cwv yX9_bars := ⟨gw_1480, gs_70⟩
theorem kd_X9_becomes : cwd yX9_becomes cX9_becomes 7 (some .int) 1 := ⟨gw_11, gw_1450, by decide +kernel, by decide +kernel, by decide +kernel⟩
theorem kv_X9_becomes : cwv yX9_becomes := ⟨gw_1449, gs_64⟩
theorem kd_X9_below : cwd yX9_below cX9_below 4 (some .int) 1 := ⟨gw_11, gw_1386, by decide +kernel, by decide +kernel, by decide +kernel⟩
theorem kv_X9_below : cwv yX9_below := ⟨gw_1385, gs_54⟩
theorem kd_X9_breaks : cwd yX9_breaks cX9_breaks 2 (some .int) 1 := ⟨gw_11, gw_1532, by decide +kernel, by decide +kernel, by decide +kernel⟩
theorem kv_X9_breaks : cwv yX9_breaks := ⟨gw_1531, gs_79⟩
theorem kd_X9_canGrant : cwd yX9_canGrant cX9_canGrant 7 (some .boolean) 3 := ⟨gw_11, gw_1477, by decide +kernel, by decide +kernel, by decide +kernel⟩
theorem kv_X9_canGrant : cwv yX9_canGrant := ⟨gw_1476, gs_69⟩
theorem kd_X9_check : cwd yX9_check cX9_check 2 (some .int) 2 := ⟨gw_11, gw_1351, by decide +kernel, by decide +kernel, by decide +kernel⟩
theorem kd_X9_childAt : cwd yX9_childAt cX9_childAt 7 (some .int) 2 := ⟨gw_11, gw_1422, by decide +kernel, by decide +kernel, by decide +kernel⟩
theorem kv_X9_childAt : cwv yX9_childAt := ⟨gw_1421, gs_59⟩
theorem kd_X9_childMany : cwd yX9_childMany cX9_childMany 4 (some .int) 1 := ⟨gw_11, gw_1410, by decide +kernel, by decide +kernel, by decide +kernel⟩
theorem kv_X9_childMany : cwv yX9_childMany := ⟨gw_1409, gs_57⟩
theorem kd_X9_copy : cwd yX9_copy cX9_copy 3 (some .int) 3 := ⟨gw_11, gw_1504, by decide +kernel, by decide +kernel, by decide +kernel⟩
theorem kd_X9_depth : cwd yX9_depth cX9_depth 4 (some .int) 1 := ⟨gw_11, gw_1394, by decide +kernel, by decide +kernel, by decide +kernel⟩
theorem kv_X9_depth : cwv yX9_depth := ⟨gw_1393, gs_55⟩
theorem kd_X9_discards : cwd yX9_discards cX9_discards 3 (some .int) 1 := ⟨gw_11, gw_1544, by decide +kernel, by decide +kernel, by decide +kernel⟩
theorem kv_X9_discards : cwv yX9_discards := ⟨gw_1543, gs_81⟩
theorem kd_X9_doesOrder : cwd yX9_doesOrder cX9_doesOrder 7 (some .boolean) 1 := ⟨gw_11, gw_1721, by decide +kernel, by decide +kernel, by decide +kernel⟩
theorem kv_X9_doesOrder : cwv yX9_doesOrder := ⟨gw_1720, gs_101⟩
theorem kd_X9_edited : cwd yX9_edited cX9_edited 5 (some .int) 1 := ⟨gw_11, gw_1548, by decide +kernel, by decide +kernel, by decide +kernel⟩
theorem kv_X9_edited : cwv yX9_edited := ⟨gw_1547, gs_82⟩
theorem kd_X9_edits : cwd yX9_edits cX9_edits 6 (some .int) 4 := ⟨gw_11, gw_1564, by decide +kernel, by decide +kernel, by decide +kernel⟩
theorem kv_X9_edits : cwv yX9_edits := ⟨gw_1563, gs_85⟩
theorem kd_X9_enters : cwd yX9_enters cX9_enters 7 none 5 := ⟨gw_11, gw_1454, by decide +kernel, by decide +kernel, by decide +kernel⟩
theorem kv_X9_enters : cwv yX9_enters := ⟨gw_1453, gs_65⟩
theorem kd_X9_get : cwd yX9_get cX9_get 3 (some .int) 2 := ⟨gw_11, gw_1348, by decide +kernel, by decide +kernel, by decide +kernel⟩
theorem kv_X9_get : cwv yX9_get := ⟨gw_1347, gs_47⟩
theorem kd_X9_gives : cwd yX9_gives cX9_gives 4 (some .int) 2 := ⟨gw_11, gw_1592, by decide +kernel, by decide +kernel, by decide +kernel⟩
theorem kv_X9_gives : cwv yX9_gives := ⟨gw_1591, gs_89⟩
theorem kd_X9_grants : cwd yX9_grants cX9_grants 7 (some .int) 4 := ⟨gw_11, gw_1497, by decide +kernel, by decide +kernel, by decide +kernel⟩
theorem kv_X9_grants : cwv yX9_grants := ⟨gw_1496, gs_74⟩
theorem kd_X9_holdersOf : cwd yX9_holdersOf cX9_holdersOf 4 (some .int) 1 := ⟨gw_11, gw_1438, by decide +kernel, by decide +kernel, by decide +kernel⟩
theorem kv_X9_holdersOf : cwv yX9_holdersOf := ⟨gw_1437, gs_61⟩
theorem kd_X9_isAt : cwd yX9_isAt cX9_isAt 3 (some .boolean) 2 := ⟨gw_11, gw_1717, by decide +kernel, by decide +kernel, by decide +kernel⟩
theorem kv_X9_isAt : cwv yX9_isAt := ⟨gw_1716, gs_100⟩
theorem kd_X9_isBlocked : cwd yX9_isBlocked cX9_isBlocked 4 (some .boolean) 3 := ⟨gw_11, gw_1493, by decide +kernel, by decide +kernel, by decide +kernel⟩
theorem kv_X9_isBlocked : cwv yX9_isBlocked := ⟨gw_1492, gs_73⟩
theorem kd_X9_isBlockedAhead : cwd yX9_isBlockedAhead cX9_isBlockedAhead 6 (some .boolean) 3 := ⟨gw_11, gw_1489, by decide +kernel, by decide +kernel, by decide +kernel⟩
theorem kv_X9_isBlockedAhead : cwv yX9_isBlockedAhead := ⟨gw_1488, gs_72⟩
theorem kd_X9_isCheck : cwd yX9_isCheck cX9_isCheck 2 (some .boolean) 1 := ⟨gw_11, gw_1344, by decide +kernel, by decide +kernel, by decide +kernel⟩
theorem kv_X9_isCheck : cwv yX9_isCheck := ⟨gw_1343, gs_46⟩
theorem kd_X9_isChild : cwd yX9_isChild cX9_isChild 3 (some .boolean) 2 := ⟨gw_11, gw_1414, by decide +kernel, by decide +kernel, by decide +kernel⟩
theorem kv_X9_isChild : cwv yX9_isChild := ⟨gw_1413, gs_58⟩
theorem kd_X9_isCopied : cwd yX9_isCopied cX9_isCopied 4 (some .boolean) 3 := ⟨gw_11, gw_1560, by decide +kernel, by decide +kernel, by decide +kernel⟩
theorem kv_X9_isCopied : cwv yX9_isCopied := ⟨gw_1559, gs_84⟩
theorem kd_X9_isCovered : cwd yX9_isCovered cX9_isCovered 4 (some .boolean) 1 := ⟨gw_11, gw_1340, by decide +kernel, by decide +kernel, by decide +kernel⟩
theorem kv_X9_isCovered : cwv yX9_isCovered := ⟨gw_1339, gs_45⟩
theorem kd_X9_isHeld : cwd yX9_isHeld cX9_isHeld 2 (some .boolean) 1 := ⟨gw_11, gw_1442, by decide +kernel, by decide +kernel, by decide +kernel⟩
theorem kv_X9_isHeld : cwv yX9_isHeld := ⟨gw_1441, gs_62⟩
theorem kd_X9_isHeldAround : cwd yX9_isHeldAround cX9_isHeldAround 4 (some .boolean) 1 := ⟨gw_11, gw_1588, by decide +kernel, by decide +kernel, by decide +kernel⟩
theorem kv_X9_isHeldAround : cwv yX9_isHeldAround := ⟨gw_1587, gs_88⟩
theorem kd_X9_isIn : cwd yX9_isIn cX9_isIn 4 (some .boolean) 2 := ⟨gw_11, gw_1355, by decide +kernel, by decide +kernel, by decide +kernel⟩
theorem kv_X9_isIn : cwv yX9_isIn := ⟨gw_1354, gs_48⟩
theorem kd_X9_isLine : cwd yX9_isLine cX9_isLine 3 (some .boolean) 2 := ⟨gw_11, gw_1430, by decide +kernel, by decide +kernel, by decide +kernel⟩
theorem kv_X9_isLine : cwv yX9_isLine := ⟨gw_1429, gs_60⟩
theorem kd_X9_isSection : cwd yX9_isSection cX9_isSection 2 (some .boolean) 1 := ⟨gw_11, gw_1329, by decide +kernel, by decide +kernel, by decide +kernel⟩
theorem kv_X9_isSection : cwv yX9_isSection := ⟨gw_1328, gs_43⟩
theorem kd_X9_isTick : cwd yX9_isTick cX9_isTick 2 (some .boolean) 1 := ⟨gw_11, gw_1648, by decide +kernel, by decide +kernel, by decide +kernel⟩
theorem kv_X9_isTick : cwv yX9_isTick := ⟨gw_1647, gs_94⟩
theorem kd_X9_isTouched : cwd yX9_isTouched cX9_isTouched 4 (some .boolean) 1 := ⟨gw_11, gw_1374, by decide +kernel, by decide +kernel, by decide +kernel⟩
theorem kv_X9_isTouched : cwv yX9_isTouched := ⟨gw_1373, gs_51⟩
theorem kd_X9_isUser : cwd yX9_isUser cX9_isUser 1 (some .boolean) 1 := ⟨gw_11, gw_1465, by decide +kernel, by decide +kernel, by decide +kernel⟩
theorem kd_X9_isWaitedFor : cwd yX9_isWaitedFor cX9_isWaitedFor 4 (some .boolean) 1 := ⟨gw_11, gw_1378, by decide +kernel, by decide +kernel, by decide +kernel⟩
theorem kv_X9_isWaitedFor : cwv yX9_isWaitedFor := ⟨gw_1377, gs_52⟩
theorem kd_X9_laysAside : cwd yX9_laysAside cX9_laysAside 2 none 0 := ⟨gw_11, gw_1612, by decide +kernel, by decide +kernel, by decide +kernel⟩
theorem kv_X9_laysAside : cwv yX9_laysAside := ⟨gw_1611, gs_91⟩
theorem kd_X9_laysThen : cwd yX9_laysThen cX9_laysThen 2 none 0 := ⟨gw_11, gw_1446, by decide +kernel, by decide +kernel, by decide +kernel⟩
theorem kv_X9_laysThen : cwv yX9_laysThen := ⟨gw_1445, gs_63⟩
theorem kd_X9_leavesLine : cwd yX9_leavesLine cX9_leavesLine 3 none 1 := ⟨gw_11, gw_1512, by decide +kernel, by decide +kernel, by decide +kernel⟩
theorem kv_X9_leavesLine : cwv yX9_leavesLine := ⟨gw_1511, gs_76⟩
theorem kd_X9_loses : cwd yX9_loses cX9_loses 2 none 1 := ⟨gw_11, gw_1536, by decide +kernel, by decide +kernel, by decide +kernel⟩
theorem kv_X9_loses : cwv yX9_loses := ⟨gw_1535, gs_80⟩
theorem kd_X9_many : cwd yX9_many cX9_many 3 (some .int) 0 := ⟨gw_11, gw_1336, by decide +kernel, by decide +kernel, by decide +kernel⟩
theorem kv_X9_many : cwv yX9_many := ⟨gw_1335, gs_44⟩
theorem kd_X9_manyOf : cwd yX9_manyOf cX9_manyOf 1 (some .int) 1 := ⟨gw_11, gw_1709, by decide +kernel, by decide +kernel, by decide +kernel⟩
theorem kd_X9_merges : cwd yX9_merges cX9_merges 11 (some .int) 2 := ⟨gw_11, gw_1576, by decide +kernel, by decide +kernel, by decide +kernel⟩
theorem kv_X9_merges : cwv yX9_merges := ⟨gw_1575, gs_86⟩
theorem kd_X9_mix : cwd yX9_mix cX9_mix 2 none 1 := ⟨gw_11, gw_1746, by decide +kernel, by decide +kernel, by decide +kernel⟩
theorem kv_X9_mix : cwv yX9_mix := ⟨gw_1745, gs_105⟩
theorem kd_X9_mixAll : cwd yX9_mixAll cX9_mixAll 4 none 2 := ⟨gw_11, gw_1755, by decide +kernel, by decide +kernel, by decide +kernel⟩
theorem kv_X9_mixAll : cwv yX9_mixAll := ⟨gw_1754, gs_107⟩
theorem kd_X9_mixCheck : cwd yX9_mixCheck cX9_mixCheck 3 none 1 := ⟨gw_11, gw_1759, by decide +kernel, by decide +kernel, by decide +kernel⟩
theorem kv_X9_mixCheck : cwv yX9_mixCheck := ⟨gw_1758, gs_108⟩
theorem kd_X9_mixSection : cwd yX9_mixSection cX9_mixSection 3 none 1 := ⟨gw_11, gw_1751, by decide +kernel, by decide +kernel, by decide +kernel⟩
theorem kv_X9_mixSection : cwv yX9_mixSection := ⟨gw_1750, gs_106⟩
theorem kd_X9_outlines : cwd yX9_outlines cX9_outlines 4 none 0 := ⟨gw_11, gw_1729, by decide +kernel, by decide +kernel, by decide +kernel⟩
theorem kv_X9_outlines : cwv yX9_outlines := ⟨gw_1728, gs_102⟩
theorem kd_X9_overlap : cwd yX9_overlap cX9_overlap 3 (some .boolean) 2 := ⟨gw_11, gw_1382, by decide +kernel, by decide +kernel, by decide +kernel⟩
theorem kv_X9_overlap : cwv yX9_overlap := ⟨gw_1381, gs_53⟩
theorem kd_X9_passes : cwd yX9_passes cX9_passes 3 (some .int) 1 := ⟨gw_11, gw_1672, by decide +kernel, by decide +kernel, by decide +kernel⟩
theorem kv_X9_passes : cwv yX9_passes := ⟨gw_1671, gs_96⟩
theorem kd_X9_placeOf : cwd yX9_placeOf cX9_placeOf 4 (some .int) 1 := ⟨gw_11, gw_1469, by decide +kernel, by decide +kernel, by decide +kernel⟩
theorem kv_X9_placeOf : cwv yX9_placeOf := ⟨gw_1468, gs_67⟩
theorem kd_X9_puts : cwd yX9_puts cX9_puts 2 none 1 := ⟨gw_11, gw_1737, by decide +kernel, by decide +kernel, by decide +kernel⟩
theorem kv_X9_puts : cwv yX9_puts := ⟨gw_1736, gs_104⟩
theorem kd_X9_putsNumber : cwd yX9_putsNumber cX9_putsNumber 2 none 1 := ⟨gw_11, gw_1733, by decide +kernel, by decide +kernel, by decide +kernel⟩
theorem kv_X9_putsNumber : cwv yX9_putsNumber := ⟨gw_1732, gs_103⟩
theorem kd_X9_reads : cwd yX9_reads cX9_reads 2 (some .boolean) 0 := ⟨gw_11, gw_1702, by decide +kernel, by decide +kernel, by decide +kernel⟩
theorem kv_X9_reads : cwv yX9_reads := ⟨gw_1701, gs_97⟩
theorem kd_X9_readsNumber : cwd yX9_readsNumber cX9_readsNumber 4 (some .boolean) 1 := ⟨gw_11, gw_1713, by decide +kernel, by decide +kernel, by decide +kernel⟩
theorem kv_X9_readsNumber : cwv yX9_readsNumber := ⟨gw_1712, gs_99⟩
theorem kd_X9_readsOrder : cwd yX9_readsOrder cX9_readsOrder 5 (some .boolean) 0 := ⟨gw_11, gw_1706, by decide +kernel, by decide +kernel, by decide +kernel⟩
theorem kv_X9_readsOrder : cwv yX9_readsOrder := ⟨gw_1705, gs_98⟩
theorem kd_X9_refused : cwd yX9_refused cX9_refused 2 (some .boolean) 1 := ⟨gw_11, gw_1321, by decide +kernel, by decide +kernel, by decide +kernel⟩
theorem kv_X9_refused : cwv yX9_refused := ⟨gw_1320, gs_42⟩
theorem kd_X9_requests : cwd yX9_requests cX9_requests 6 (some .int) 4 := ⟨gw_11, gw_1473, by decide +kernel, by decide +kernel, by decide +kernel⟩
theorem kv_X9_requests : cwv yX9_requests := ⟨gw_1472, gs_68⟩
theorem kd_X9_saves : cwd yX9_saves cX9_saves 2 none 0 := ⟨gw_11, gw_1366, by decide +kernel, by decide +kernel, by decide +kernel⟩
theorem kv_X9_saves : cwv yX9_saves := ⟨gw_1365, gs_50⟩
theorem kd_X9_serves : cwd yX9_serves cX9_serves 6 none 0 := ⟨gw_11, gw_1516, by decide +kernel, by decide +kernel, by decide +kernel⟩
theorem kv_X9_serves : cwv yX9_serves := ⟨gw_1515, gs_77⟩
theorem kd_X9_takesBack : cwd yX9_takesBack cX9_takesBack 2 none 0 := ⟨gw_11, gw_1616, by decide +kernel, by decide +kernel, by decide +kernel⟩
theorem kv_X9_takesBack : cwv yX9_takesBack := ⟨gw_1615, gs_92⟩
theorem kd_X9_takesOver : cwd yX9_takesOver cX9_takesOver 4 none 1 := ⟨gw_11, gw_1501, by decide +kernel, by decide +kernel, by decide +kernel⟩
theorem kv_X9_takesOver : cwv yX9_takesOver := ⟨gw_1500, gs_75⟩
theorem kd_X9_tellCheck : cwd yX9_tellCheck cX9_tellCheck 3 (some .int) 2 := ⟨gw_11, gw_1600, by decide +kernel, by decide +kernel, by decide +kernel⟩
theorem kv_X9_tellCheck : cwv yX9_tellCheck := ⟨gw_1599, gs_90⟩
theorem kd_X9_tellSection : cwd yX9_tellSection cX9_tellSection 3 (some .int) 2 := ⟨gw_11, gw_1406, by decide +kernel, by decide +kernel, by decide +kernel⟩
theorem kv_X9_tellSection : cwv yX9_tellSection := ⟨gw_1405, gs_56⟩
theorem kd_X9_tickOn : cwd yX9_tickOn cX9_tickOn 2 none 0 := ⟨gw_11, gw_1624, by decide +kernel, by decide +kernel, by decide +kernel⟩
theorem kv_X9_tickOn : cwv yX9_tickOn := ⟨gw_1623, gs_93⟩
theorem kd_X9_wait : cwd yX9_wait cX9_wait 2 (some .int) 2 := ⟨gw_11, gw_1362, by decide +kernel, by decide +kernel, by decide +kernel⟩
theorem kd_X9_waits : cwd yX9_waits cX9_waits 1 (some .int) 0 := ⟨gw_11, gw_1359, by decide +kernel, by decide +kernel, by decide +kernel⟩
theorem kv_X9_waits : cwv yX9_waits := ⟨gw_1358, gs_49⟩
theorem kd_X9_was : cwd yX9_was cX9_was 6 (some .int) 3 := ⟨gw_11, gw_1652, by decide +kernel, by decide +kernel, by decide +kernel⟩
theorem kv_X9_was : cwv yX9_was := ⟨gw_1651, gs_95⟩
theorem kd_X9_within : cwd yX9_within cX9_within 3 (some .boolean) 3 := ⟨gw_11, gw_1332, by decide +kernel, by decide +kernel, by decide +kernel⟩
