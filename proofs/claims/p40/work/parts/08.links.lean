/-! ===== links of fields and calls, by the tables ===== -/
theorem in_pos {C : String} {T : u_T} {N : Nat} (ps : List Nat) (h : u_ws C T N = ps.filterMap (fun i => lw_tbl[i]?)) (hg : (u_ws C T N).all goodWord = true) : ∀ w ∈ u_ws C T N, w ∈ GL := by
  intro w hw
  have h1 := List.all_eq_true.mp hg w hw
  rw [h] at hw
  obtain ⟨i, -, hi⟩ := List.mem_filterMap.mp hw
  exact gl_of i hi h1
theorem inX0 : ∀ w ∈ u_ws RX0 TX0 4, w ∈ GL := in_pos [119, 121, 123, 125] (by decide +kernel) (by decide +kernel)
theorem inX1 : ∀ w ∈ u_ws RX1 TX1 7, w ∈ GL := in_pos [172, 174, 176, 178, 180, 182, 184] (by decide +kernel) (by decide +kernel)
theorem inX2 : ∀ w ∈ u_ws RX2 TX2 3, w ∈ GL := in_pos [153, 155, 157] (by decide +kernel) (by decide +kernel)
theorem inX3 : ∀ w ∈ u_ws RX3 TX3 8, w ∈ GL := in_pos [220, 222, 224, 226, 228, 230, 232, 234] (by decide +kernel) (by decide +kernel)
theorem inX4 : ∀ w ∈ u_ws RX4 TX4 2, w ∈ GL := in_pos [246, 248] (by decide +kernel) (by decide +kernel)
theorem inX5 : ∀ w ∈ u_ws RX5 TX5 2, w ∈ GL := in_pos [138, 140] (by decide +kernel) (by decide +kernel)
theorem inX6 : ∀ w ∈ u_ws RX6 TX6 2, w ∈ GL := in_pos [199, 201] (by decide +kernel) (by decide +kernel)
theorem inX7 : ∀ w ∈ u_ws RX7 TX7 7, w ∈ GL := in_pos [93, 95, 97, 99, 101, 103, 105] (by decide +kernel) (by decide +kernel)
theorem inX8 : ∀ w ∈ u_ws RX8 TX8 5, w ∈ GL := in_pos [256, 258, 260, 262, 264] (by decide +kernel) (by decide +kernel)
theorem gs_0 : Cond.selects "SectionDesk$Desk" ⟨"SectionDesk$Desk", "isCovered", "(I)Z"⟩ ⟨"SectionDesk$Desk", "isCovered", "(I)Z"⟩ ∈ GL := gl_of 0 (by decide +kernel) (by decide +kernel)
theorem gs_1 : Cond.selects "SectionDesk$Desk" ⟨"SectionDesk$Desk", "claims", "()I"⟩ ⟨"SectionDesk$Desk", "claims", "()I"⟩ ∈ GL := gl_of 1 (by decide +kernel) (by decide +kernel)
theorem gs_3 : Cond.selects "SectionDesk$SavedStates" ⟨"SectionDesk$SavedStates", "dropOldest", "()V"⟩ ⟨"SectionDesk$SavedStates", "dropOldest", "()V"⟩ ∈ GL := gl_of 3 (by decide +kernel) (by decide +kernel)
theorem gs_4 : Cond.selects "SectionDesk$Tree" ⟨"SectionDesk$Tree", "lowestFree", "()I"⟩ ⟨"SectionDesk$Tree", "lowestFree", "()I"⟩ ∈ GL := gl_of 4 (by decide +kernel) (by decide +kernel)
theorem gs_5 : Cond.selects "SectionDesk$Tree" ⟨"SectionDesk$Tree", "findOverlaps", "()V"⟩ ⟨"SectionDesk$Tree", "findOverlaps", "()V"⟩ ∈ GL := gl_of 5 (by decide +kernel) (by decide +kernel)
theorem gs_6 : Cond.selects "SectionDesk$Desk" ⟨"SectionDesk$Desk", "isTouched", "(I)Z"⟩ ⟨"SectionDesk$Desk", "isTouched", "(I)Z"⟩ ∈ GL := gl_of 6 (by decide +kernel) (by decide +kernel)
theorem gs_7 : Cond.selects "SectionDesk$History" ⟨"SectionDesk$History", "indexOf", "(II)I"⟩ ⟨"SectionDesk$History", "indexOf", "(II)I"⟩ ∈ GL := gl_of 7 (by decide +kernel) (by decide +kernel)
theorem gs_8 : Cond.selects "SectionDesk$History" ⟨"SectionDesk$History", "setFact", "(III)V"⟩ ⟨"SectionDesk$History", "setFact", "(III)V"⟩ ∈ GL := gl_of 8 (by decide +kernel) (by decide +kernel)
theorem gs_9 : Cond.selects "SectionDesk$Desk" ⟨"SectionDesk$Desk", "wantPresent", "()V"⟩ ⟨"SectionDesk$Desk", "wantPresent", "()V"⟩ ∈ GL := gl_of 9 (by decide +kernel) (by decide +kernel)
theorem gs_10 : Cond.selects "SectionDesk$Desk" ⟨"SectionDesk$Desk", "want", "(II)V"⟩ ⟨"SectionDesk$Desk", "want", "(II)V"⟩ ∈ GL := gl_of 10 (by decide +kernel) (by decide +kernel)
theorem gs_11 : Cond.selects "SectionDesk$Desk" ⟨"SectionDesk$Desk", "changeToWanted", "(I)I"⟩ ⟨"SectionDesk$Desk", "changeToWanted", "(I)I"⟩ ∈ GL := gl_of 11 (by decide +kernel) (by decide +kernel)
theorem gs_12 : Cond.selects "SectionDesk$Desk" ⟨"SectionDesk$Desk", "changeCell", "(II)I"⟩ ⟨"SectionDesk$Desk", "changeCell", "(II)I"⟩ ∈ GL := gl_of 12 (by decide +kernel) (by decide +kernel)
theorem gs_13 : Cond.selects "SectionDesk$Desk" ⟨"SectionDesk$Desk", "holdsAround", "(IIZ)Z"⟩ ⟨"SectionDesk$Desk", "holdsAround", "(IIZ)Z"⟩ ∈ GL := gl_of 13 (by decide +kernel) (by decide +kernel)
theorem gs_14 : Cond.selects "SectionDesk$Queue" ⟨"SectionDesk$Queue", "setFact", "(III)V"⟩ ⟨"SectionDesk$Queue", "setFact", "(III)V"⟩ ∈ GL := gl_of 14 (by decide +kernel) (by decide +kernel)
theorem gs_15 : Cond.selects "SectionDesk$Desk" ⟨"SectionDesk$Desk", "lookAt", "(I)I"⟩ ⟨"SectionDesk$Desk", "lookAt", "(I)I"⟩ ∈ GL := gl_of 15 (by decide +kernel) (by decide +kernel)
theorem gs_16 : Cond.selects "SectionDesk$Desk" ⟨"SectionDesk$Desk", "absorbedBy", "(I)I"⟩ ⟨"SectionDesk$Desk", "absorbedBy", "(I)I"⟩ ∈ GL := gl_of 16 (by decide +kernel) (by decide +kernel)
theorem gs_17 : Cond.selects "SectionDesk$Desk" ⟨"SectionDesk$Desk", "hinderersOf", "(II)I"⟩ ⟨"SectionDesk$Desk", "hinderersOf", "(II)I"⟩ ∈ GL := gl_of 17 (by decide +kernel) (by decide +kernel)
theorem gs_18 : Cond.selects "SectionDesk$Desk" ⟨"SectionDesk$Desk", "blockersOf", "(I)I"⟩ ⟨"SectionDesk$Desk", "blockersOf", "(I)I"⟩ ∈ GL := gl_of 18 (by decide +kernel) (by decide +kernel)
theorem gs_19 : Cond.selects "SectionDesk$Desk" ⟨"SectionDesk$Desk", "startCopy", "(III)V"⟩ ⟨"SectionDesk$Desk", "startCopy", "(III)V"⟩ ∈ GL := gl_of 19 (by decide +kernel) (by decide +kernel)
theorem gs_20 : Cond.selects "SectionDesk$CheckOuts" ⟨"SectionDesk$CheckOuts", "setBase", "(III)V"⟩ ⟨"SectionDesk$CheckOuts", "setBase", "(III)V"⟩ ∈ GL := gl_of 20 (by decide +kernel) (by decide +kernel)
theorem gs_21 : Cond.selects "SectionDesk$CheckOuts" ⟨"SectionDesk$CheckOuts", "setFact", "(III)V"⟩ ⟨"SectionDesk$CheckOuts", "setFact", "(III)V"⟩ ∈ GL := gl_of 21 (by decide +kernel) (by decide +kernel)
theorem gs_22 : Cond.selects "SectionDesk$Desk" ⟨"SectionDesk$Desk", "sectionsOf", "(I)I"⟩ ⟨"SectionDesk$Desk", "sectionsOf", "(I)I"⟩ ∈ GL := gl_of 22 (by decide +kernel) (by decide +kernel)
theorem gs_23 : Cond.selects "SectionDesk$Desk" ⟨"SectionDesk$Desk", "isHeldAround", "(I)Z"⟩ ⟨"SectionDesk$Desk", "isHeldAround", "(I)Z"⟩ ∈ GL := gl_of 23 (by decide +kernel) (by decide +kernel)
theorem gs_24 : Cond.selects "SectionDesk$Desk" ⟨"SectionDesk$Desk", "isConflict", "(II)Z"⟩ ⟨"SectionDesk$Desk", "isConflict", "(II)Z"⟩ ∈ GL := gl_of 24 (by decide +kernel) (by decide +kernel)
theorem gs_25 : Cond.selects "SectionDesk$Desk" ⟨"SectionDesk$Desk", "wantReturned", "(II)V"⟩ ⟨"SectionDesk$Desk", "wantReturned", "(II)V"⟩ ∈ GL := gl_of 25 (by decide +kernel) (by decide +kernel)
theorem gs_26 : Cond.selects "SectionDesk$Desk" ⟨"SectionDesk$Desk", "returnedValue", "(III)I"⟩ ⟨"SectionDesk$Desk", "returnedValue", "(III)I"⟩ ∈ GL := gl_of 26 (by decide +kernel) (by decide +kernel)
theorem gs_27 : Cond.selects "SectionDesk$Desk" ⟨"SectionDesk$Desk", "ticksToExpiry", "(I)I"⟩ ⟨"SectionDesk$Desk", "ticksToExpiry", "(I)I"⟩ ∈ GL := gl_of 27 (by decide +kernel) (by decide +kernel)
theorem gs_28 : Cond.selects "SectionDesk$Desk" ⟨"SectionDesk$Desk", "countUse", "(I)V"⟩ ⟨"SectionDesk$Desk", "countUse", "(I)V"⟩ ∈ GL := gl_of 28 (by decide +kernel) (by decide +kernel)
theorem gs_29 : Cond.selects "SectionDesk$Desk" ⟨"SectionDesk$Desk", "loseExpired", "()V"⟩ ⟨"SectionDesk$Desk", "loseExpired", "()V"⟩ ∈ GL := gl_of 29 (by decide +kernel) (by decide +kernel)
theorem gs_31 : Cond.selects "SectionDesk$Outline" ⟨"SectionDesk$Outline", "put", "(I)V"⟩ ⟨"SectionDesk$Outline", "put", "(I)V"⟩ ∈ GL := gl_of 31 (by decide +kernel) (by decide +kernel)
theorem gs_32 : Cond.selects "SectionDesk$OrderText" ⟨"SectionDesk$OrderText", "takes", "(I)Z"⟩ ⟨"SectionDesk$OrderText", "takes", "(I)Z"⟩ ∈ GL := gl_of 32 (by decide +kernel) (by decide +kernel)
theorem gs_33 : Cond.selects "SectionDesk$OrderText" ⟨"SectionDesk$OrderText", "takesLetter", "(I)Z"⟩ ⟨"SectionDesk$OrderText", "takesLetter", "(I)Z"⟩ ∈ GL := gl_of 33 (by decide +kernel) (by decide +kernel)
theorem gs_34 : Cond.selects "SectionDesk$OrderText" ⟨"SectionDesk$OrderText", "takesSpace", "(I)Z"⟩ ⟨"SectionDesk$OrderText", "takesSpace", "(I)Z"⟩ ∈ GL := gl_of 34 (by decide +kernel) (by decide +kernel)
theorem gs_35 : Cond.selects "SectionDesk$OrderText" ⟨"SectionDesk$OrderText", "setNumber", "(III)V"⟩ ⟨"SectionDesk$OrderText", "setNumber", "(III)V"⟩ ∈ GL := gl_of 35 (by decide +kernel) (by decide +kernel)
theorem gs_36 : Cond.selects "SectionDesk$OrderText" ⟨"SectionDesk$OrderText", "takesDigit", "(I)Z"⟩ ⟨"SectionDesk$OrderText", "takesDigit", "(I)Z"⟩ ∈ GL := gl_of 36 (by decide +kernel) (by decide +kernel)
theorem gs_37 : Cond.selects "SectionDesk$OrderText" ⟨"SectionDesk$OrderText", "takesInNumber", "(I)Z"⟩ ⟨"SectionDesk$OrderText", "takesInNumber", "(I)Z"⟩ ∈ GL := gl_of 37 (by decide +kernel) (by decide +kernel)
theorem gs_38 : Cond.selects "SectionDesk" ⟨"SectionDesk", "runOrder", "(I)Z"⟩ ⟨"SectionDesk", "runOrder", "(I)Z"⟩ ∈ GL := gl_of 38 (by decide +kernel) (by decide +kernel)
theorem gs_39 : Cond.selects "SectionDesk" ⟨"SectionDesk", "orderFault", "(IIIII)I"⟩ ⟨"SectionDesk", "orderFault", "(IIIII)I"⟩ ∈ GL := gl_of 39 (by decide +kernel) (by decide +kernel)
theorem gw_1 : (Cond.initialized "SectionDesk") ∈ GL := gl_of 41 (by decide +kernel) (by decide +kernel)
theorem gw_2 : (Cond.initialized "SectionDesk$Desk") ∈ GL := gl_of 42 (by decide +kernel) (by decide +kernel)
theorem gw_3 : (Cond.initialized "SectionDesk$Tree") ∈ GL := gl_of 43 (by decide +kernel) (by decide +kernel)
theorem gw_4 : (Cond.initialized "java/util/Arrays") ∈ GL := gl_of 44 (by decide +kernel) (by decide +kernel)
theorem gw_5 : (Cond.initialized "SectionDesk$CheckOuts") ∈ GL := gl_of 45 (by decide +kernel) (by decide +kernel)
theorem gw_6 : (Cond.initialized "SectionDesk$Queue") ∈ GL := gl_of 46 (by decide +kernel) (by decide +kernel)
theorem gw_7 : (Cond.initialized "SectionDesk$History") ∈ GL := gl_of 47 (by decide +kernel) (by decide +kernel)
theorem gw_8 : (Cond.initialized "SectionDesk$SavedStates") ∈ GL := gl_of 48 (by decide +kernel) (by decide +kernel)
theorem gw_9 : (Cond.initialized "SectionDesk$OrderText") ∈ GL := gl_of 49 (by decide +kernel) (by decide +kernel)
theorem gw_10 : (Cond.initialized "SectionDesk$Outline") ∈ GL := gl_of 50 (by decide +kernel) (by decide +kernel)
theorem gw_17 : (Cond.initialized "java/lang/Math") ∈ GL := gl_of 57 (by decide +kernel) (by decide +kernel)
theorem gw_18 : (Cond.initialized "java/lang/System") ∈ GL := gl_of 58 (by decide +kernel) (by decide +kernel)
theorem gw_19 : (Cond.initialized "java/lang/Integer") ∈ GL := gl_of 59 (by decide +kernel) (by decide +kernel)
theorem gw_40 : (Cond.methodLink "SectionDesk$Tree" (30 : Nat) ({ cls := "java/util/Arrays", name := "fill", desc := "([II)V" } : MethodName)) ∈ GL := gl_of 80 (by decide +kernel) (by decide +kernel)
theorem gw_41 : (Cond.static ({ cls := "java/util/Arrays", name := "fill", desc := "([II)V" } : MethodName)) ∈ GL := gl_of 81 (by decide +kernel) (by decide +kernel)
theorem gw_42 : (Cond.code ({ cls := "java/util/Arrays", name := "fill", desc := "([II)V" } : MethodName) prog_22_method_103_code (4 : Nat) (Option.none : Option FieldType)) ∈ GL := gl_of 82 (by decide +kernel) (by decide +kernel)
theorem gw_43 : (Cond.fieldLink "SectionDesk$Tree" (9 : Nat) "SectionDesk$Tree" "parents" "[I") ∈ GL := gl_of 83 (by decide +kernel) (by decide +kernel)
theorem gw_44 : (Cond.fieldLink "SectionDesk$Tree" (15 : Nat) "SectionDesk$Tree" "sequence" "[I") ∈ GL := gl_of 84 (by decide +kernel) (by decide +kernel)
theorem gw_45 : (Cond.fieldLink "SectionDesk$Tree" (18 : Nat) "SectionDesk$Tree" "versions" "[I") ∈ GL := gl_of 85 (by decide +kernel) (by decide +kernel)
theorem gw_46 : (Cond.fieldLink "SectionDesk$Tree" (21 : Nat) "SectionDesk$Tree" "values" "[I") ∈ GL := gl_of 86 (by decide +kernel) (by decide +kernel)
theorem gw_48 : (Cond.fieldLink "SectionDesk$Tree" (24 : Nat) "SectionDesk$Tree" "subtrees" "[I") ∈ GL := gl_of 88 (by decide +kernel) (by decide +kernel)
theorem gw_49 : (Cond.fieldLink "SectionDesk$Tree" (27 : Nat) "SectionDesk$Tree" "lineages" "[I") ∈ GL := gl_of 89 (by decide +kernel) (by decide +kernel)
theorem gw_50 : (Cond.fieldLink "SectionDesk$Tree" (36 : Nat) "SectionDesk$Tree" "size" "I") ∈ GL := gl_of 90 (by decide +kernel) (by decide +kernel)
theorem gw_75 : (Cond.fieldLink "SectionDesk$CheckOuts" (11 : Nat) "SectionDesk$CheckOuts" "facts" "[I") ∈ GL := gl_of 115 (by decide +kernel) (by decide +kernel)
theorem gw_76 : (Cond.fieldLink "SectionDesk$CheckOuts" (15 : Nat) "SectionDesk$CheckOuts" "bases" "[I") ∈ GL := gl_of 116 (by decide +kernel) (by decide +kernel)
theorem gw_77 : (Cond.fieldLink "SectionDesk$CheckOuts" (18 : Nat) "SectionDesk$CheckOuts" "owns" "[I") ∈ GL := gl_of 117 (by decide +kernel) (by decide +kernel)
theorem gw_78 : (Cond.fieldLink "SectionDesk$CheckOuts" (25 : Nat) "SectionDesk$CheckOuts" "used" "I") ∈ GL := gl_of 118 (by decide +kernel) (by decide +kernel)
theorem gw_94 : (Cond.fieldLink "SectionDesk$Queue" (11 : Nat) "SectionDesk$Queue" "facts" "[I") ∈ GL := gl_of 134 (by decide +kernel) (by decide +kernel)
theorem gw_95 : (Cond.fieldLink "SectionDesk$Queue" (19 : Nat) "SectionDesk$Queue" "count" "I") ∈ GL := gl_of 135 (by decide +kernel) (by decide +kernel)
theorem gw_109 : (Cond.fieldLink "SectionDesk$History" (11 : Nat) "SectionDesk$History" "facts" "[I") ∈ GL := gl_of 149 (by decide +kernel) (by decide +kernel)
theorem gw_110 : (Cond.fieldLink "SectionDesk$History" (19 : Nat) "SectionDesk$History" "first" "I") ∈ GL := gl_of 150 (by decide +kernel) (by decide +kernel)
theorem gw_111 : (Cond.fieldLink "SectionDesk$History" (23 : Nat) "SectionDesk$History" "count" "I") ∈ GL := gl_of 151 (by decide +kernel) (by decide +kernel)
theorem gw_120 : (Cond.fieldLink "SectionDesk$Desk" (12 : Nat) "SectionDesk$Desk" "tree" "LSectionDesk$Tree;") ∈ GL := gl_of 160 (by decide +kernel) (by decide +kernel)
theorem gw_122 : (Cond.fieldLink "SectionDesk$Desk" (21 : Nat) "SectionDesk$Desk" "outs" "LSectionDesk$CheckOuts;") ∈ GL := gl_of 162 (by decide +kernel) (by decide +kernel)
theorem gw_124 : (Cond.fieldLink "SectionDesk$Desk" (28 : Nat) "SectionDesk$Desk" "queue" "LSectionDesk$Queue;") ∈ GL := gl_of 164 (by decide +kernel) (by decide +kernel)
theorem gw_126 : (Cond.fieldLink "SectionDesk$Desk" (35 : Nat) "SectionDesk$Desk" "history" "LSectionDesk$History;") ∈ GL := gl_of 166 (by decide +kernel) (by decide +kernel)
theorem gw_128 : (Cond.fieldLink "SectionDesk$Desk" (39 : Nat) "SectionDesk$Desk" "heldTicks" "[I") ∈ GL := gl_of 168 (by decide +kernel) (by decide +kernel)
theorem gw_129 : (Cond.fieldLink "SectionDesk$Desk" (43 : Nat) "SectionDesk$Desk" "wanted" "[I") ∈ GL := gl_of 169 (by decide +kernel) (by decide +kernel)
theorem gw_130 : (Cond.fieldLink "SectionDesk$Desk" (63 : Nat) "SectionDesk$Desk" "tick" "I") ∈ GL := gl_of 170 (by decide +kernel) (by decide +kernel)
theorem gw_156 : (Cond.fieldLink "SectionDesk$SavedStates" (11 : Nat) "SectionDesk$SavedStates" "states" "[LSectionDesk$Desk;") ∈ GL := gl_of 196 (by decide +kernel) (by decide +kernel)
theorem gw_157 : (Cond.fieldLink "SectionDesk$SavedStates" (18 : Nat) "SectionDesk$SavedStates" "count" "I") ∈ GL := gl_of 197 (by decide +kernel) (by decide +kernel)
theorem gw_170 : (Cond.fieldLink "SectionDesk$OrderText" (9 : Nat) "SectionDesk$OrderText" "bytes" "[I") ∈ GL := gl_of 210 (by decide +kernel) (by decide +kernel)
theorem gw_171 : (Cond.fieldLink "SectionDesk$OrderText" (21 : Nat) "SectionDesk$OrderText" "length" "I") ∈ GL := gl_of 211 (by decide +kernel) (by decide +kernel)
theorem gw_173 : (Cond.fieldLink "SectionDesk$OrderText" (15 : Nat) "SectionDesk$OrderText" "letters" "[I") ∈ GL := gl_of 213 (by decide +kernel) (by decide +kernel)
theorem gw_174 : (Cond.fieldLink "SectionDesk$OrderText" (18 : Nat) "SectionDesk$OrderText" "numbers" "[I") ∈ GL := gl_of 214 (by decide +kernel) (by decide +kernel)
theorem gw_175 : (Cond.fieldLink "SectionDesk$OrderText" (29 : Nat) "SectionDesk$OrderText" "orders" "I") ∈ GL := gl_of 215 (by decide +kernel) (by decide +kernel)
theorem gw_177 : (Cond.fieldLink "SectionDesk$OrderText" (32 : Nat) "SectionDesk$OrderText" "state" "I") ∈ GL := gl_of 217 (by decide +kernel) (by decide +kernel)
theorem gw_178 : (Cond.fieldLink "SectionDesk$OrderText" (55 : Nat) "SectionDesk$OrderText" "read" "I") ∈ GL := gl_of 218 (by decide +kernel) (by decide +kernel)
theorem gw_179 : (Cond.fieldLink "SectionDesk$OrderText" (62 : Nat) "SectionDesk$OrderText" "digits" "I") ∈ GL := gl_of 219 (by decide +kernel) (by decide +kernel)
theorem gw_203 : (Cond.fieldLink "SectionDesk$Outline" (9 : Nat) "SectionDesk$Outline" "bytes" "[I") ∈ GL := gl_of 243 (by decide +kernel) (by decide +kernel)
theorem gw_204 : (Cond.fieldLink "SectionDesk$Outline" (15 : Nat) "SectionDesk$Outline" "length" "I") ∈ GL := gl_of 244 (by decide +kernel) (by decide +kernel)
theorem gw_211 : (Cond.fieldLink "SectionDesk" (12 : Nat) "SectionDesk" "desk" "LSectionDesk$Desk;") ∈ GL := gl_of 251 (by decide +kernel) (by decide +kernel)
theorem gw_212 : (Cond.fieldLink "SectionDesk" (16 : Nat) "SectionDesk" "trial" "LSectionDesk$Desk;") ∈ GL := gl_of 252 (by decide +kernel) (by decide +kernel)
theorem gw_213 : (Cond.fieldLink "SectionDesk" (22 : Nat) "SectionDesk" "saved" "LSectionDesk$SavedStates;") ∈ GL := gl_of 253 (by decide +kernel) (by decide +kernel)
theorem gw_214 : (Cond.fieldLink "SectionDesk" (29 : Nat) "SectionDesk" "text" "LSectionDesk$OrderText;") ∈ GL := gl_of 254 (by decide +kernel) (by decide +kernel)
theorem gw_248 : (Cond.methodLink "SectionDesk$Desk" (84 : Nat) ({ cls := "SectionDesk$Tree", name := "has", desc := "(I)Z" } : MethodName)) ∈ GL := gl_of 288 (by decide +kernel) (by decide +kernel)
theorem gw_249 : (Cond.instanceMethod ({ cls := "SectionDesk$Tree", name := "has", desc := "(I)Z" } : MethodName)) ∈ GL := gl_of 289 (by decide +kernel) (by decide +kernel)
theorem gw_250 : (Cond.selects "SectionDesk$Tree" ({ cls := "SectionDesk$Tree", name := "has", desc := "(I)Z" } : MethodName) ({ cls := "SectionDesk$Tree", name := "has", desc := "(I)Z" } : MethodName)) ∈ GL := gl_of 290 (by decide +kernel) (by decide +kernel)
theorem gw_251 : (Cond.code ({ cls := "SectionDesk$Tree", name := "has", desc := "(I)Z" } : MethodName) prog_9_method_3_code (2 : Nat) (Option.some FieldType.boolean)) ∈ GL := gl_of 291 (by decide +kernel) (by decide +kernel)
theorem gw_252 : (Cond.methodLink "SectionDesk$Desk" (91 : Nat) ({ cls := "SectionDesk$Desk", name := "isCovered", desc := "(I)Z" } : MethodName)) ∈ GL := gl_of 292 (by decide +kernel) (by decide +kernel)
theorem gw_254 : (Cond.instanceMethod ({ cls := "SectionDesk$Desk", name := "isCovered", desc := "(I)Z" } : MethodName)) ∈ GL := gl_of 294 (by decide +kernel) (by decide +kernel)
theorem gw_255 : (Cond.code ({ cls := "SectionDesk$Desk", name := "isCovered", desc := "(I)Z" } : MethodName) prog_3_method_4_code (2 : Nat) (Option.some FieldType.boolean)) ∈ GL := gl_of 295 (by decide +kernel) (by decide +kernel)
theorem gw_256 : (Cond.methodLink "SectionDesk$Desk" (74 : Nat) ({ cls := "SectionDesk$Desk", name := "claims", desc := "()I" } : MethodName)) ∈ GL := gl_of 296 (by decide +kernel) (by decide +kernel)
theorem gw_258 : (Cond.instanceMethod ({ cls := "SectionDesk$Desk", name := "claims", desc := "()I" } : MethodName)) ∈ GL := gl_of 298 (by decide +kernel) (by decide +kernel)
theorem gw_259 : (Cond.code ({ cls := "SectionDesk$Desk", name := "claims", desc := "()I" } : MethodName) prog_3_method_3_code (1 : Nat) (Option.some FieldType.int)) ∈ GL := gl_of 299 (by decide +kernel) (by decide +kernel)
theorem gw_260 : (Cond.methodLink "SectionDesk$Desk" (67 : Nat) ({ cls := "SectionDesk$CheckOuts", name := "tops", desc := "(Z)I" } : MethodName)) ∈ GL := gl_of 300 (by decide +kernel) (by decide +kernel)
theorem gw_261 : (Cond.instanceMethod ({ cls := "SectionDesk$CheckOuts", name := "tops", desc := "(Z)I" } : MethodName)) ∈ GL := gl_of 301 (by decide +kernel) (by decide +kernel)
theorem gw_262 : (Cond.selects "SectionDesk$CheckOuts" ({ cls := "SectionDesk$CheckOuts", name := "tops", desc := "(Z)I" } : MethodName) ({ cls := "SectionDesk$CheckOuts", name := "tops", desc := "(Z)I" } : MethodName)) ∈ GL := gl_of 302 (by decide +kernel) (by decide +kernel)
theorem gw_263 : (Cond.code ({ cls := "SectionDesk$CheckOuts", name := "tops", desc := "(Z)I" } : MethodName) prog_2_method_8_code (4 : Nat) (Option.some FieldType.int)) ∈ GL := gl_of 303 (by decide +kernel) (by decide +kernel)
theorem gw_264 : (Cond.methodLink "SectionDesk$CheckOuts" (33 : Nat) ({ cls := "SectionDesk$CheckOuts", name := "has", desc := "(I)Z" } : MethodName)) ∈ GL := gl_of 304 (by decide +kernel) (by decide +kernel)
theorem gw_265 : (Cond.instanceMethod ({ cls := "SectionDesk$CheckOuts", name := "has", desc := "(I)Z" } : MethodName)) ∈ GL := gl_of 305 (by decide +kernel) (by decide +kernel)
theorem gw_266 : (Cond.selects "SectionDesk$CheckOuts" ({ cls := "SectionDesk$CheckOuts", name := "has", desc := "(I)Z" } : MethodName) ({ cls := "SectionDesk$CheckOuts", name := "has", desc := "(I)Z" } : MethodName)) ∈ GL := gl_of 306 (by decide +kernel) (by decide +kernel)
theorem gw_267 : (Cond.code ({ cls := "SectionDesk$CheckOuts", name := "has", desc := "(I)Z" } : MethodName) prog_2_method_3_code (2 : Nat) (Option.some FieldType.boolean)) ∈ GL := gl_of 307 (by decide +kernel) (by decide +kernel)
theorem gw_268 : (Cond.methodLink "SectionDesk$CheckOuts" (37 : Nat) ({ cls := "SectionDesk$CheckOuts", name := "isHeld", desc := "(I)Z" } : MethodName)) ∈ GL := gl_of 308 (by decide +kernel) (by decide +kernel)
theorem gw_269 : (Cond.instanceMethod ({ cls := "SectionDesk$CheckOuts", name := "isHeld", desc := "(I)Z" } : MethodName)) ∈ GL := gl_of 309 (by decide +kernel) (by decide +kernel)
theorem gw_270 : (Cond.selects "SectionDesk$CheckOuts" ({ cls := "SectionDesk$CheckOuts", name := "isHeld", desc := "(I)Z" } : MethodName) ({ cls := "SectionDesk$CheckOuts", name := "isHeld", desc := "(I)Z" } : MethodName)) ∈ GL := gl_of 310 (by decide +kernel) (by decide +kernel)
theorem gw_271 : (Cond.code ({ cls := "SectionDesk$CheckOuts", name := "isHeld", desc := "(I)Z" } : MethodName) prog_2_method_6_code (2 : Nat) (Option.some FieldType.boolean)) ∈ GL := gl_of 311 (by decide +kernel) (by decide +kernel)
theorem gw_272 : (Cond.methodLink "SectionDesk$CheckOuts" (29 : Nat) ({ cls := "SectionDesk$CheckOuts", name := "fact", desc := "(II)I" } : MethodName)) ∈ GL := gl_of 312 (by decide +kernel) (by decide +kernel)
theorem gw_273 : (Cond.instanceMethod ({ cls := "SectionDesk$CheckOuts", name := "fact", desc := "(II)I" } : MethodName)) ∈ GL := gl_of 313 (by decide +kernel) (by decide +kernel)
theorem gw_274 : (Cond.selects "SectionDesk$CheckOuts" ({ cls := "SectionDesk$CheckOuts", name := "fact", desc := "(II)I" } : MethodName) ({ cls := "SectionDesk$CheckOuts", name := "fact", desc := "(II)I" } : MethodName)) ∈ GL := gl_of 314 (by decide +kernel) (by decide +kernel)
theorem gw_275 : (Cond.code ({ cls := "SectionDesk$CheckOuts", name := "fact", desc := "(II)I" } : MethodName) prog_2_method_4_code (4 : Nat) (Option.some FieldType.int)) ∈ GL := gl_of 315 (by decide +kernel) (by decide +kernel)
theorem gw_276 : (Cond.methodLink "SectionDesk$Desk" (71 : Nat) ({ cls := "SectionDesk$Queue", name := "tops", desc := "()I" } : MethodName)) ∈ GL := gl_of 316 (by decide +kernel) (by decide +kernel)
theorem gw_277 : (Cond.instanceMethod ({ cls := "SectionDesk$Queue", name := "tops", desc := "()I" } : MethodName)) ∈ GL := gl_of 317 (by decide +kernel) (by decide +kernel)
theorem gw_278 : (Cond.selects "SectionDesk$Queue" ({ cls := "SectionDesk$Queue", name := "tops", desc := "()I" } : MethodName) ({ cls := "SectionDesk$Queue", name := "tops", desc := "()I" } : MethodName)) ∈ GL := gl_of 318 (by decide +kernel) (by decide +kernel)
theorem gw_279 : (Cond.code ({ cls := "SectionDesk$Queue", name := "tops", desc := "()I" } : MethodName) prog_7_method_7_code (3 : Nat) (Option.some FieldType.int)) ∈ GL := gl_of 319 (by decide +kernel) (by decide +kernel)
theorem gw_280 : (Cond.methodLink "SectionDesk$Queue" (23 : Nat) ({ cls := "SectionDesk$Queue", name := "fact", desc := "(II)I" } : MethodName)) ∈ GL := gl_of 320 (by decide +kernel) (by decide +kernel)
theorem gw_281 : (Cond.instanceMethod ({ cls := "SectionDesk$Queue", name := "fact", desc := "(II)I" } : MethodName)) ∈ GL := gl_of 321 (by decide +kernel) (by decide +kernel)
theorem gw_282 : (Cond.selects "SectionDesk$Queue" ({ cls := "SectionDesk$Queue", name := "fact", desc := "(II)I" } : MethodName) ({ cls := "SectionDesk$Queue", name := "fact", desc := "(II)I" } : MethodName)) ∈ GL := gl_of 322 (by decide +kernel) (by decide +kernel)
theorem gw_283 : (Cond.code ({ cls := "SectionDesk$Queue", name := "fact", desc := "(II)I" } : MethodName) prog_7_method_3_code (4 : Nat) (Option.some FieldType.int)) ∈ GL := gl_of 323 (by decide +kernel) (by decide +kernel)
theorem gw_284 : (Cond.methodLink "SectionDesk$Desk" (77 : Nat) ({ cls := "SectionDesk$Tree", name := "lineageOf", desc := "(I)I" } : MethodName)) ∈ GL := gl_of 324 (by decide +kernel) (by decide +kernel)
theorem gw_285 : (Cond.instanceMethod ({ cls := "SectionDesk$Tree", name := "lineageOf", desc := "(I)I" } : MethodName)) ∈ GL := gl_of 325 (by decide +kernel) (by decide +kernel)
theorem gw_286 : (Cond.selects "SectionDesk$Tree" ({ cls := "SectionDesk$Tree", name := "lineageOf", desc := "(I)I" } : MethodName) ({ cls := "SectionDesk$Tree", name := "lineageOf", desc := "(I)I" } : MethodName)) ∈ GL := gl_of 326 (by decide +kernel) (by decide +kernel)
theorem gw_287 : (Cond.code ({ cls := "SectionDesk$Tree", name := "lineageOf", desc := "(I)I" } : MethodName) prog_9_method_8_code (2 : Nat) (Option.some FieldType.int)) ∈ GL := gl_of 327 (by decide +kernel) (by decide +kernel)
theorem gw_289 : (Cond.static ({ cls := "SectionDesk", name := "faultOf", desc := "(ZZZ)I" } : MethodName)) ∈ GL := gl_of 329 (by decide +kernel) (by decide +kernel)
theorem gw_290 : (Cond.code ({ cls := "SectionDesk", name := "faultOf", desc := "(ZZZ)I" } : MethodName) prog_1_method_41_code (3 : Nat) (Option.some FieldType.int)) ∈ GL := gl_of 330 (by decide +kernel) (by decide +kernel)
theorem gw_394 : (Cond.methodLink "SectionDesk" (48 : Nat) ({ cls := "SectionDesk$SavedStates", name := "push", desc := "(LSectionDesk$Desk;)V" } : MethodName)) ∈ GL := gl_of 434 (by decide +kernel) (by decide +kernel)
theorem gw_395 : (Cond.instanceMethod ({ cls := "SectionDesk$SavedStates", name := "push", desc := "(LSectionDesk$Desk;)V" } : MethodName)) ∈ GL := gl_of 435 (by decide +kernel) (by decide +kernel)
theorem gw_396 : (Cond.selects "SectionDesk$SavedStates" ({ cls := "SectionDesk$SavedStates", name := "push", desc := "(LSectionDesk$Desk;)V" } : MethodName) ({ cls := "SectionDesk$SavedStates", name := "push", desc := "(LSectionDesk$Desk;)V" } : MethodName)) ∈ GL := gl_of 436 (by decide +kernel) (by decide +kernel)
theorem gw_397 : (Cond.code ({ cls := "SectionDesk$SavedStates", name := "push", desc := "(LSectionDesk$Desk;)V" } : MethodName) prog_8_method_2_code (2 : Nat) (Option.none : Option FieldType)) ∈ GL := gl_of 437 (by decide +kernel) (by decide +kernel)
theorem gw_398 : (Cond.methodLink "SectionDesk$SavedStates" (22 : Nat) ({ cls := "SectionDesk$SavedStates", name := "dropOldest", desc := "()V" } : MethodName)) ∈ GL := gl_of 438 (by decide +kernel) (by decide +kernel)
theorem gw_400 : (Cond.instanceMethod ({ cls := "SectionDesk$SavedStates", name := "dropOldest", desc := "()V" } : MethodName)) ∈ GL := gl_of 440 (by decide +kernel) (by decide +kernel)
theorem gw_401 : (Cond.code ({ cls := "SectionDesk$SavedStates", name := "dropOldest", desc := "()V" } : MethodName) prog_8_method_3_code (3 : Nat) (Option.none : Option FieldType)) ∈ GL := gl_of 441 (by decide +kernel) (by decide +kernel)
theorem gw_402 : (Cond.methodLink "SectionDesk$SavedStates" (25 : Nat) ({ cls := "SectionDesk$Desk", name := "copyFrom", desc := "(LSectionDesk$Desk;)V" } : MethodName)) ∈ GL := gl_of 442 (by decide +kernel) (by decide +kernel)
theorem gw_403 : (Cond.instanceMethod ({ cls := "SectionDesk$Desk", name := "copyFrom", desc := "(LSectionDesk$Desk;)V" } : MethodName)) ∈ GL := gl_of 443 (by decide +kernel) (by decide +kernel)
theorem gw_404 : (Cond.selects "SectionDesk$Desk" ({ cls := "SectionDesk$Desk", name := "copyFrom", desc := "(LSectionDesk$Desk;)V" } : MethodName) ({ cls := "SectionDesk$Desk", name := "copyFrom", desc := "(LSectionDesk$Desk;)V" } : MethodName)) ∈ GL := gl_of 444 (by decide +kernel) (by decide +kernel)
theorem gw_405 : (Cond.code ({ cls := "SectionDesk$Desk", name := "copyFrom", desc := "(LSectionDesk$Desk;)V" } : MethodName) prog_3_method_2_code (2 : Nat) (Option.none : Option FieldType)) ∈ GL := gl_of 445 (by decide +kernel) (by decide +kernel)
theorem gw_406 : (Cond.methodLink "SectionDesk$Desk" (46 : Nat) ({ cls := "SectionDesk$Tree", name := "copyFrom", desc := "(LSectionDesk$Tree;)V" } : MethodName)) ∈ GL := gl_of 446 (by decide +kernel) (by decide +kernel)
theorem gw_407 : (Cond.instanceMethod ({ cls := "SectionDesk$Tree", name := "copyFrom", desc := "(LSectionDesk$Tree;)V" } : MethodName)) ∈ GL := gl_of 447 (by decide +kernel) (by decide +kernel)
theorem gw_408 : (Cond.selects "SectionDesk$Tree" ({ cls := "SectionDesk$Tree", name := "copyFrom", desc := "(LSectionDesk$Tree;)V" } : MethodName) ({ cls := "SectionDesk$Tree", name := "copyFrom", desc := "(LSectionDesk$Tree;)V" } : MethodName)) ∈ GL := gl_of 448 (by decide +kernel) (by decide +kernel)
theorem gw_409 : (Cond.code ({ cls := "SectionDesk$Tree", name := "copyFrom", desc := "(LSectionDesk$Tree;)V" } : MethodName) prog_9_method_2_code (2 : Nat) (Option.none : Option FieldType)) ∈ GL := gl_of 449 (by decide +kernel) (by decide +kernel)
theorem gw_411 : (Cond.static ({ cls := "SectionDesk", name := "copyRow", desc := "([I[I)V" } : MethodName)) ∈ GL := gl_of 451 (by decide +kernel) (by decide +kernel)
theorem gw_412 : (Cond.code ({ cls := "SectionDesk", name := "copyRow", desc := "([I[I)V" } : MethodName) prog_1_method_50_code (2 : Nat) (Option.none : Option FieldType)) ∈ GL := gl_of 452 (by decide +kernel) (by decide +kernel)
theorem gw_413 : (Cond.methodLink "SectionDesk" (337 : Nat) ({ cls := "java/lang/Math", name := "min", desc := "(II)I" } : MethodName)) ∈ GL := gl_of 453 (by decide +kernel) (by decide +kernel)
theorem gw_414 : (Cond.static ({ cls := "java/lang/Math", name := "min", desc := "(II)I" } : MethodName)) ∈ GL := gl_of 454 (by decide +kernel) (by decide +kernel)
theorem gw_415 : (Cond.code ({ cls := "java/lang/Math", name := "min", desc := "(II)I" } : MethodName) prog_17_method_69_code (2 : Nat) (Option.some FieldType.int)) ∈ GL := gl_of 455 (by decide +kernel) (by decide +kernel)
theorem gw_416 : (Cond.methodLink "SectionDesk" (342 : Nat) ({ cls := "java/lang/System", name := "arraycopy", desc := "(Ljava/lang/Object;ILjava/lang/Object;II)V" } : MethodName)) ∈ GL := gl_of 456 (by decide +kernel) (by decide +kernel)
theorem gw_417 : (Cond.static ({ cls := "java/lang/System", name := "arraycopy", desc := "(Ljava/lang/Object;ILjava/lang/Object;II)V" } : MethodName)) ∈ GL := gl_of 457 (by decide +kernel) (by decide +kernel)
theorem gw_418 : (Cond.native ({ cls := "java/lang/System", name := "arraycopy", desc := "(Ljava/lang/Object;ILjava/lang/Object;II)V" } : MethodName)) ∈ GL := gl_of 458 (by decide +kernel) (by decide +kernel)
theorem gw_419 : (Cond.methodLink "SectionDesk$Desk" (50 : Nat) ({ cls := "SectionDesk$CheckOuts", name := "copyFrom", desc := "(LSectionDesk$CheckOuts;)V" } : MethodName)) ∈ GL := gl_of 459 (by decide +kernel) (by decide +kernel)
theorem gw_420 : (Cond.instanceMethod ({ cls := "SectionDesk$CheckOuts", name := "copyFrom", desc := "(LSectionDesk$CheckOuts;)V" } : MethodName)) ∈ GL := gl_of 460 (by decide +kernel) (by decide +kernel)
theorem gw_421 : (Cond.selects "SectionDesk$CheckOuts" ({ cls := "SectionDesk$CheckOuts", name := "copyFrom", desc := "(LSectionDesk$CheckOuts;)V" } : MethodName) ({ cls := "SectionDesk$CheckOuts", name := "copyFrom", desc := "(LSectionDesk$CheckOuts;)V" } : MethodName)) ∈ GL := gl_of 461 (by decide +kernel) (by decide +kernel)
theorem gw_422 : (Cond.code ({ cls := "SectionDesk$CheckOuts", name := "copyFrom", desc := "(LSectionDesk$CheckOuts;)V" } : MethodName) prog_2_method_2_code (2 : Nat) (Option.none : Option FieldType)) ∈ GL := gl_of 462 (by decide +kernel) (by decide +kernel)
theorem gw_424 : (Cond.methodLink "SectionDesk$Desk" (53 : Nat) ({ cls := "SectionDesk$Queue", name := "copyFrom", desc := "(LSectionDesk$Queue;)V" } : MethodName)) ∈ GL := gl_of 464 (by decide +kernel) (by decide +kernel)
theorem gw_425 : (Cond.instanceMethod ({ cls := "SectionDesk$Queue", name := "copyFrom", desc := "(LSectionDesk$Queue;)V" } : MethodName)) ∈ GL := gl_of 465 (by decide +kernel) (by decide +kernel)
theorem gw_426 : (Cond.selects "SectionDesk$Queue" ({ cls := "SectionDesk$Queue", name := "copyFrom", desc := "(LSectionDesk$Queue;)V" } : MethodName) ({ cls := "SectionDesk$Queue", name := "copyFrom", desc := "(LSectionDesk$Queue;)V" } : MethodName)) ∈ GL := gl_of 466 (by decide +kernel) (by decide +kernel)
theorem gw_427 : (Cond.code ({ cls := "SectionDesk$Queue", name := "copyFrom", desc := "(LSectionDesk$Queue;)V" } : MethodName) prog_7_method_2_code (2 : Nat) (Option.none : Option FieldType)) ∈ GL := gl_of 467 (by decide +kernel) (by decide +kernel)
theorem gw_429 : (Cond.methodLink "SectionDesk$Desk" (56 : Nat) ({ cls := "SectionDesk$History", name := "copyFrom", desc := "(LSectionDesk$History;)V" } : MethodName)) ∈ GL := gl_of 469 (by decide +kernel) (by decide +kernel)
theorem gw_430 : (Cond.instanceMethod ({ cls := "SectionDesk$History", name := "copyFrom", desc := "(LSectionDesk$History;)V" } : MethodName)) ∈ GL := gl_of 470 (by decide +kernel) (by decide +kernel)
theorem gw_431 : (Cond.selects "SectionDesk$History" ({ cls := "SectionDesk$History", name := "copyFrom", desc := "(LSectionDesk$History;)V" } : MethodName) ({ cls := "SectionDesk$History", name := "copyFrom", desc := "(LSectionDesk$History;)V" } : MethodName)) ∈ GL := gl_of 471 (by decide +kernel) (by decide +kernel)
theorem gw_432 : (Cond.code ({ cls := "SectionDesk$History", name := "copyFrom", desc := "(LSectionDesk$History;)V" } : MethodName) prog_4_method_2_code (2 : Nat) (Option.none : Option FieldType)) ∈ GL := gl_of 472 (by decide +kernel) (by decide +kernel)
theorem gw_439 : (Cond.methodLink "SectionDesk$Tree" (71 : Nat) ({ cls := "SectionDesk$Tree", name := "lowestFree", desc := "()I" } : MethodName)) ∈ GL := gl_of 479 (by decide +kernel) (by decide +kernel)
theorem gw_441 : (Cond.instanceMethod ({ cls := "SectionDesk$Tree", name := "lowestFree", desc := "()I" } : MethodName)) ∈ GL := gl_of 481 (by decide +kernel) (by decide +kernel)
theorem gw_442 : (Cond.code ({ cls := "SectionDesk$Tree", name := "lowestFree", desc := "()I" } : MethodName) prog_9_method_15_code (2 : Nat) (Option.some FieldType.int)) ∈ GL := gl_of 482 (by decide +kernel) (by decide +kernel)
theorem gw_444 : (Cond.static ({ cls := "SectionDesk", name := "isWithin", desc := "(III)Z" } : MethodName)) ∈ GL := gl_of 484 (by decide +kernel) (by decide +kernel)
theorem gw_445 : (Cond.code ({ cls := "SectionDesk", name := "isWithin", desc := "(III)Z" } : MethodName) prog_1_method_43_code (3 : Nat) (Option.some FieldType.boolean)) ∈ GL := gl_of 485 (by decide +kernel) (by decide +kernel)
theorem gw_447 : (Cond.static ({ cls := "SectionDesk", name := "cellOf", desc := "(II)I" } : MethodName)) ∈ GL := gl_of 487 (by decide +kernel) (by decide +kernel)
theorem gw_448 : (Cond.code ({ cls := "SectionDesk", name := "cellOf", desc := "(II)I" } : MethodName) prog_1_method_47_code (2 : Nat) (Option.some FieldType.int)) ∈ GL := gl_of 488 (by decide +kernel) (by decide +kernel)
theorem gw_449 : (Cond.methodLink "SectionDesk$Tree" (79 : Nat) ({ cls := "SectionDesk$Tree", name := "setValue", desc := "(II)V" } : MethodName)) ∈ GL := gl_of 489 (by decide +kernel) (by decide +kernel)
theorem gw_450 : (Cond.instanceMethod ({ cls := "SectionDesk$Tree", name := "setValue", desc := "(II)V" } : MethodName)) ∈ GL := gl_of 490 (by decide +kernel) (by decide +kernel)
theorem gw_451 : (Cond.selects "SectionDesk$Tree" ({ cls := "SectionDesk$Tree", name := "setValue", desc := "(II)V" } : MethodName) ({ cls := "SectionDesk$Tree", name := "setValue", desc := "(II)V" } : MethodName)) ∈ GL := gl_of 491 (by decide +kernel) (by decide +kernel)
theorem gw_452 : (Cond.code ({ cls := "SectionDesk$Tree", name := "setValue", desc := "(II)V" } : MethodName) prog_9_method_19_code (3 : Nat) (Option.none : Option FieldType)) ∈ GL := gl_of 492 (by decide +kernel) (by decide +kernel)
theorem gw_454 : (Cond.static ({ cls := "SectionDesk", name := "isCell", desc := "(I)Z" } : MethodName)) ∈ GL := gl_of 494 (by decide +kernel) (by decide +kernel)
theorem gw_455 : (Cond.code ({ cls := "SectionDesk", name := "isCell", desc := "(I)Z" } : MethodName) prog_1_method_46_code (1 : Nat) (Option.some FieldType.boolean)) ∈ GL := gl_of 495 (by decide +kernel) (by decide +kernel)
theorem gw_456 : (Cond.methodLink "SectionDesk" (86 : Nat) ({ cls := "SectionDesk", name := "isWithin", desc := "(III)Z" } : MethodName)) ∈ GL := gl_of 496 (by decide +kernel) (by decide +kernel)
theorem gw_457 : (Cond.methodLink "SectionDesk$Tree" (83 : Nat) ({ cls := "SectionDesk$Tree", name := "findOverlaps", desc := "()V" } : MethodName)) ∈ GL := gl_of 497 (by decide +kernel) (by decide +kernel)
theorem gw_459 : (Cond.instanceMethod ({ cls := "SectionDesk$Tree", name := "findOverlaps", desc := "()V" } : MethodName)) ∈ GL := gl_of 499 (by decide +kernel) (by decide +kernel)
theorem gw_460 : (Cond.code ({ cls := "SectionDesk$Tree", name := "findOverlaps", desc := "()V" } : MethodName) prog_9_method_18_code (4 : Nat) (Option.none : Option FieldType)) ∈ GL := gl_of 500 (by decide +kernel) (by decide +kernel)
theorem gw_461 : (Cond.methodLink "SectionDesk$Tree" (44 : Nat) ({ cls := "SectionDesk$Tree", name := "has", desc := "(I)Z" } : MethodName)) ∈ GL := gl_of 501 (by decide +kernel) (by decide +kernel)
theorem gw_474 : (Cond.methodLink "SectionDesk$Desk" (98 : Nat) ({ cls := "SectionDesk$Desk", name := "isTouched", desc := "(I)Z" } : MethodName)) ∈ GL := gl_of 514 (by decide +kernel) (by decide +kernel)
theorem gw_476 : (Cond.instanceMethod ({ cls := "SectionDesk$Desk", name := "isTouched", desc := "(I)Z" } : MethodName)) ∈ GL := gl_of 516 (by decide +kernel) (by decide +kernel)
theorem gw_477 : (Cond.code ({ cls := "SectionDesk$Desk", name := "isTouched", desc := "(I)Z" } : MethodName) prog_3_method_5_code (2 : Nat) (Option.some FieldType.boolean)) ∈ GL := gl_of 517 (by decide +kernel) (by decide +kernel)
theorem gw_478 : (Cond.methodLink "SectionDesk$Desk" (81 : Nat) ({ cls := "SectionDesk$Tree", name := "overlapOf", desc := "(I)I" } : MethodName)) ∈ GL := gl_of 518 (by decide +kernel) (by decide +kernel)
theorem gw_479 : (Cond.instanceMethod ({ cls := "SectionDesk$Tree", name := "overlapOf", desc := "(I)I" } : MethodName)) ∈ GL := gl_of 519 (by decide +kernel) (by decide +kernel)
theorem gw_480 : (Cond.selects "SectionDesk$Tree" ({ cls := "SectionDesk$Tree", name := "overlapOf", desc := "(I)I" } : MethodName) ({ cls := "SectionDesk$Tree", name := "overlapOf", desc := "(I)I" } : MethodName)) ∈ GL := gl_of 520 (by decide +kernel) (by decide +kernel)
theorem gw_481 : (Cond.code ({ cls := "SectionDesk$Tree", name := "overlapOf", desc := "(I)I" } : MethodName) prog_9_method_9_code (2 : Nat) (Option.some FieldType.int)) ∈ GL := gl_of 521 (by decide +kernel) (by decide +kernel)
theorem gw_482 : (Cond.methodLink "SectionDesk$Tree" (48 : Nat) ({ cls := "SectionDesk$Tree", name := "subtreeOf", desc := "(I)I" } : MethodName)) ∈ GL := gl_of 522 (by decide +kernel) (by decide +kernel)
theorem gw_483 : (Cond.instanceMethod ({ cls := "SectionDesk$Tree", name := "subtreeOf", desc := "(I)I" } : MethodName)) ∈ GL := gl_of 523 (by decide +kernel) (by decide +kernel)
theorem gw_484 : (Cond.selects "SectionDesk$Tree" ({ cls := "SectionDesk$Tree", name := "subtreeOf", desc := "(I)I" } : MethodName) ({ cls := "SectionDesk$Tree", name := "subtreeOf", desc := "(I)I" } : MethodName)) ∈ GL := gl_of 524 (by decide +kernel) (by decide +kernel)
theorem gw_485 : (Cond.code ({ cls := "SectionDesk$Tree", name := "subtreeOf", desc := "(I)I" } : MethodName) prog_9_method_7_code (2 : Nat) (Option.some FieldType.int)) ∈ GL := gl_of 525 (by decide +kernel) (by decide +kernel)
theorem gw_486 : (Cond.methodLink "SectionDesk$Tree" (52 : Nat) ({ cls := "SectionDesk$Tree", name := "lineageOf", desc := "(I)I" } : MethodName)) ∈ GL := gl_of 526 (by decide +kernel) (by decide +kernel)
theorem gw_491 : (Cond.methodLink "SectionDesk$Desk" (101 : Nat) ({ cls := "SectionDesk$Tree", name := "subtreeOf", desc := "(I)I" } : MethodName)) ∈ GL := gl_of 531 (by decide +kernel) (by decide +kernel)
theorem gw_492 : (Cond.methodLink "SectionDesk$Desk" (104 : Nat) ({ cls := "SectionDesk$History", name := "removeOf", desc := "(I)V" } : MethodName)) ∈ GL := gl_of 532 (by decide +kernel) (by decide +kernel)
theorem gw_493 : (Cond.instanceMethod ({ cls := "SectionDesk$History", name := "removeOf", desc := "(I)V" } : MethodName)) ∈ GL := gl_of 533 (by decide +kernel) (by decide +kernel)
theorem gw_494 : (Cond.selects "SectionDesk$History" ({ cls := "SectionDesk$History", name := "removeOf", desc := "(I)V" } : MethodName) ({ cls := "SectionDesk$History", name := "removeOf", desc := "(I)V" } : MethodName)) ∈ GL := gl_of 534 (by decide +kernel) (by decide +kernel)
theorem gw_495 : (Cond.code ({ cls := "SectionDesk$History", name := "removeOf", desc := "(I)V" } : MethodName) prog_4_method_7_code (5 : Nat) (Option.none : Option FieldType)) ∈ GL := gl_of 535 (by decide +kernel) (by decide +kernel)
theorem gw_496 : (Cond.methodLink "SectionDesk$History" (34 : Nat) ({ cls := "SectionDesk$History", name := "fact", desc := "(II)I" } : MethodName)) ∈ GL := gl_of 536 (by decide +kernel) (by decide +kernel)
theorem gw_497 : (Cond.instanceMethod ({ cls := "SectionDesk$History", name := "fact", desc := "(II)I" } : MethodName)) ∈ GL := gl_of 537 (by decide +kernel) (by decide +kernel)
theorem gw_498 : (Cond.selects "SectionDesk$History" ({ cls := "SectionDesk$History", name := "fact", desc := "(II)I" } : MethodName) ({ cls := "SectionDesk$History", name := "fact", desc := "(II)I" } : MethodName)) ∈ GL := gl_of 538 (by decide +kernel) (by decide +kernel)
theorem gw_499 : (Cond.code ({ cls := "SectionDesk$History", name := "fact", desc := "(II)I" } : MethodName) prog_4_method_4_code (4 : Nat) (Option.some FieldType.int)) ∈ GL := gl_of 539 (by decide +kernel) (by decide +kernel)
theorem gw_500 : (Cond.methodLink "SectionDesk$History" (26 : Nat) ({ cls := "SectionDesk$History", name := "indexOf", desc := "(II)I" } : MethodName)) ∈ GL := gl_of 540 (by decide +kernel) (by decide +kernel)
theorem gw_502 : (Cond.instanceMethod ({ cls := "SectionDesk$History", name := "indexOf", desc := "(II)I" } : MethodName)) ∈ GL := gl_of 542 (by decide +kernel) (by decide +kernel)
theorem gw_503 : (Cond.code ({ cls := "SectionDesk$History", name := "indexOf", desc := "(II)I" } : MethodName) prog_4_method_3_code (4 : Nat) (Option.some FieldType.int)) ∈ GL := gl_of 543 (by decide +kernel) (by decide +kernel)
theorem gw_505 : (Cond.static ({ cls := "SectionDesk", name := "hasBit", desc := "(II)Z" } : MethodName)) ∈ GL := gl_of 545 (by decide +kernel) (by decide +kernel)
theorem gw_506 : (Cond.code ({ cls := "SectionDesk", name := "hasBit", desc := "(II)Z" } : MethodName) prog_1_method_48_code (2 : Nat) (Option.some FieldType.boolean)) ∈ GL := gl_of 546 (by decide +kernel) (by decide +kernel)
theorem gw_507 : (Cond.methodLink "SectionDesk$History" (30 : Nat) ({ cls := "SectionDesk$History", name := "setFact", desc := "(III)V" } : MethodName)) ∈ GL := gl_of 547 (by decide +kernel) (by decide +kernel)
theorem gw_509 : (Cond.instanceMethod ({ cls := "SectionDesk$History", name := "setFact", desc := "(III)V" } : MethodName)) ∈ GL := gl_of 549 (by decide +kernel) (by decide +kernel)
theorem gw_510 : (Cond.code ({ cls := "SectionDesk$History", name := "setFact", desc := "(III)V" } : MethodName) prog_4_method_5_code (5 : Nat) (Option.none : Option FieldType)) ∈ GL := gl_of 550 (by decide +kernel) (by decide +kernel)
theorem gw_511 : (Cond.methodLink "SectionDesk$Desk" (108 : Nat) ({ cls := "SectionDesk$Tree", name := "remove", desc := "(I)V" } : MethodName)) ∈ GL := gl_of 551 (by decide +kernel) (by decide +kernel)
theorem gw_512 : (Cond.instanceMethod ({ cls := "SectionDesk$Tree", name := "remove", desc := "(I)V" } : MethodName)) ∈ GL := gl_of 552 (by decide +kernel) (by decide +kernel)
theorem gw_513 : (Cond.selects "SectionDesk$Tree" ({ cls := "SectionDesk$Tree", name := "remove", desc := "(I)V" } : MethodName) ({ cls := "SectionDesk$Tree", name := "remove", desc := "(I)V" } : MethodName)) ∈ GL := gl_of 553 (by decide +kernel) (by decide +kernel)
theorem gw_514 : (Cond.code ({ cls := "SectionDesk$Tree", name := "remove", desc := "(I)V" } : MethodName) prog_9_method_16_code (6 : Nat) (Option.none : Option FieldType)) ∈ GL := gl_of 554 (by decide +kernel) (by decide +kernel)
theorem gw_516 : (Cond.methodLink "SectionDesk$Desk" (111 : Nat) ({ cls := "java/lang/Integer", name := "bitCount", desc := "(I)I" } : MethodName)) ∈ GL := gl_of 556 (by decide +kernel) (by decide +kernel)
theorem gw_517 : (Cond.static ({ cls := "java/lang/Integer", name := "bitCount", desc := "(I)I" } : MethodName)) ∈ GL := gl_of 557 (by decide +kernel) (by decide +kernel)
theorem gw_518 : (Cond.code ({ cls := "java/lang/Integer", name := "bitCount", desc := "(I)I" } : MethodName) prog_16_method_49_code (1 : Nat) (Option.some FieldType.int)) ∈ GL := gl_of 558 (by decide +kernel) (by decide +kernel)
theorem gw_519 : (Cond.constant "java/lang/Integer" (265 : Nat) (1431655765 : Int32)) ∈ GL := gl_of 559 (by decide +kernel) (by decide +kernel)
theorem gw_520 : (Cond.constant "java/lang/Integer" (266 : Nat) (858993459 : Int32)) ∈ GL := gl_of 560 (by decide +kernel) (by decide +kernel)
theorem gw_521 : (Cond.constant "java/lang/Integer" (267 : Nat) (252645135 : Int32)) ∈ GL := gl_of 561 (by decide +kernel) (by decide +kernel)
theorem gw_533 : (Cond.methodLink "SectionDesk$Desk" (116 : Nat) ({ cls := "SectionDesk$Tree", name := "covers", desc := "(II)Z" } : MethodName)) ∈ GL := gl_of 573 (by decide +kernel) (by decide +kernel)
theorem gw_534 : (Cond.instanceMethod ({ cls := "SectionDesk$Tree", name := "covers", desc := "(II)Z" } : MethodName)) ∈ GL := gl_of 574 (by decide +kernel) (by decide +kernel)
theorem gw_535 : (Cond.selects "SectionDesk$Tree" ({ cls := "SectionDesk$Tree", name := "covers", desc := "(II)Z" } : MethodName) ({ cls := "SectionDesk$Tree", name := "covers", desc := "(II)Z" } : MethodName)) ∈ GL := gl_of 575 (by decide +kernel) (by decide +kernel)
theorem gw_536 : (Cond.code ({ cls := "SectionDesk$Tree", name := "covers", desc := "(II)Z" } : MethodName) prog_9_method_10_code (3 : Nat) (Option.some FieldType.boolean)) ∈ GL := gl_of 576 (by decide +kernel) (by decide +kernel)
theorem gw_545 : (Cond.methodLink "SectionDesk$Tree" (63 : Nat) ({ cls := "java/lang/Integer", name := "bitCount", desc := "(I)I" } : MethodName)) ∈ GL := gl_of 585 (by decide +kernel) (by decide +kernel)
theorem gw_557 : (Cond.methodLink "SectionDesk$Desk" (123 : Nat) ({ cls := "SectionDesk$Desk", name := "hasLine", desc := "(II)Z" } : MethodName)) ∈ GL := gl_of 597 (by decide +kernel) (by decide +kernel)
theorem gw_558 : (Cond.instanceMethod ({ cls := "SectionDesk$Desk", name := "hasLine", desc := "(II)Z" } : MethodName)) ∈ GL := gl_of 598 (by decide +kernel) (by decide +kernel)
theorem gw_559 : (Cond.selects "SectionDesk$Desk" ({ cls := "SectionDesk$Desk", name := "hasLine", desc := "(II)Z" } : MethodName) ({ cls := "SectionDesk$Desk", name := "hasLine", desc := "(II)Z" } : MethodName)) ∈ GL := gl_of 599 (by decide +kernel) (by decide +kernel)
theorem gw_560 : (Cond.code ({ cls := "SectionDesk$Desk", name := "hasLine", desc := "(II)Z" } : MethodName) prog_3_method_11_code (3 : Nat) (Option.some FieldType.boolean)) ∈ GL := gl_of 600 (by decide +kernel) (by decide +kernel)
theorem gw_562 : (Cond.static ({ cls := "SectionDesk", name := "isLine", desc := "(I)Z" } : MethodName)) ∈ GL := gl_of 602 (by decide +kernel) (by decide +kernel)
theorem gw_563 : (Cond.code ({ cls := "SectionDesk", name := "isLine", desc := "(I)Z" } : MethodName) prog_1_method_45_code (1 : Nat) (Option.some FieldType.boolean)) ∈ GL := gl_of 603 (by decide +kernel) (by decide +kernel)
theorem gw_570 : (Cond.methodLink "SectionDesk$Desk" (134 : Nat) ({ cls := "SectionDesk$Tree", name := "valueAt", desc := "(I)I" } : MethodName)) ∈ GL := gl_of 610 (by decide +kernel) (by decide +kernel)
theorem gw_571 : (Cond.instanceMethod ({ cls := "SectionDesk$Tree", name := "valueAt", desc := "(I)I" } : MethodName)) ∈ GL := gl_of 611 (by decide +kernel) (by decide +kernel)
theorem gw_572 : (Cond.selects "SectionDesk$Tree" ({ cls := "SectionDesk$Tree", name := "valueAt", desc := "(I)I" } : MethodName) ({ cls := "SectionDesk$Tree", name := "valueAt", desc := "(I)I" } : MethodName)) ∈ GL := gl_of 612 (by decide +kernel) (by decide +kernel)
theorem gw_573 : (Cond.code ({ cls := "SectionDesk$Tree", name := "valueAt", desc := "(I)I" } : MethodName) prog_9_method_6_code (2 : Nat) (Option.some FieldType.int)) ∈ GL := gl_of 613 (by decide +kernel) (by decide +kernel)
theorem gw_574 : (Cond.methodLink "SectionDesk$Desk" (137 : Nat) ({ cls := "SectionDesk$Desk", name := "wantPresent", desc := "()V" } : MethodName)) ∈ GL := gl_of 614 (by decide +kernel) (by decide +kernel)
theorem gw_576 : (Cond.instanceMethod ({ cls := "SectionDesk$Desk", name := "wantPresent", desc := "()V" } : MethodName)) ∈ GL := gl_of 616 (by decide +kernel) (by decide +kernel)
theorem gw_577 : (Cond.code ({ cls := "SectionDesk$Desk", name := "wantPresent", desc := "()V" } : MethodName) prog_3_method_14_code (1 : Nat) (Option.none : Option FieldType)) ∈ GL := gl_of 617 (by decide +kernel) (by decide +kernel)
theorem gw_578 : (Cond.methodLink "SectionDesk$Desk" (140 : Nat) ({ cls := "SectionDesk$Desk", name := "want", desc := "(II)V" } : MethodName)) ∈ GL := gl_of 618 (by decide +kernel) (by decide +kernel)
theorem gw_580 : (Cond.instanceMethod ({ cls := "SectionDesk$Desk", name := "want", desc := "(II)V" } : MethodName)) ∈ GL := gl_of 620 (by decide +kernel) (by decide +kernel)
theorem gw_581 : (Cond.code ({ cls := "SectionDesk$Desk", name := "want", desc := "(II)V" } : MethodName) prog_3_method_15_code (3 : Nat) (Option.none : Option FieldType)) ∈ GL := gl_of 621 (by decide +kernel) (by decide +kernel)
theorem gw_583 : (Cond.methodLink "SectionDesk$Desk" (144 : Nat) ({ cls := "SectionDesk$Desk", name := "changeToWanted", desc := "(I)I" } : MethodName)) ∈ GL := gl_of 623 (by decide +kernel) (by decide +kernel)
theorem gw_585 : (Cond.instanceMethod ({ cls := "SectionDesk$Desk", name := "changeToWanted", desc := "(I)I" } : MethodName)) ∈ GL := gl_of 625 (by decide +kernel) (by decide +kernel)
theorem gw_586 : (Cond.code ({ cls := "SectionDesk$Desk", name := "changeToWanted", desc := "(I)I" } : MethodName) prog_3_method_16_code (6 : Nat) (Option.some FieldType.int)) ∈ GL := gl_of 626 (by decide +kernel) (by decide +kernel)
theorem gw_587 : (Cond.methodLink "SectionDesk$Desk" (153 : Nat) ({ cls := "SectionDesk$Desk", name := "changeCell", desc := "(II)I" } : MethodName)) ∈ GL := gl_of 627 (by decide +kernel) (by decide +kernel)
theorem gw_589 : (Cond.instanceMethod ({ cls := "SectionDesk$Desk", name := "changeCell", desc := "(II)I" } : MethodName)) ∈ GL := gl_of 629 (by decide +kernel) (by decide +kernel)
theorem gw_590 : (Cond.code ({ cls := "SectionDesk$Desk", name := "changeCell", desc := "(II)I" } : MethodName) prog_3_method_17_code (3 : Nat) (Option.some FieldType.int)) ∈ GL := gl_of 630 (by decide +kernel) (by decide +kernel)
theorem gw_591 : (Cond.methodLink "SectionDesk$Desk" (159 : Nat) ({ cls := "SectionDesk$History", name := "add", desc := "(IIIII)V" } : MethodName)) ∈ GL := gl_of 631 (by decide +kernel) (by decide +kernel)
theorem gw_592 : (Cond.instanceMethod ({ cls := "SectionDesk$History", name := "add", desc := "(IIIII)V" } : MethodName)) ∈ GL := gl_of 632 (by decide +kernel) (by decide +kernel)
theorem gw_593 : (Cond.selects "SectionDesk$History" ({ cls := "SectionDesk$History", name := "add", desc := "(IIIII)V" } : MethodName) ({ cls := "SectionDesk$History", name := "add", desc := "(IIIII)V" } : MethodName)) ∈ GL := gl_of 633 (by decide +kernel) (by decide +kernel)
theorem gw_594 : (Cond.code ({ cls := "SectionDesk$History", name := "add", desc := "(IIIII)V" } : MethodName) prog_4_method_6_code (6 : Nat) (Option.none : Option FieldType)) ∈ GL := gl_of 634 (by decide +kernel) (by decide +kernel)
theorem gw_595 : (Cond.methodLink "SectionDesk$Desk" (163 : Nat) ({ cls := "SectionDesk$Tree", name := "setValue", desc := "(II)V" } : MethodName)) ∈ GL := gl_of 635 (by decide +kernel) (by decide +kernel)
theorem gw_596 : (Cond.methodLink "SectionDesk$Desk" (156 : Nat) ({ cls := "SectionDesk$Tree", name := "raiseVersion", desc := "(I)V" } : MethodName)) ∈ GL := gl_of 636 (by decide +kernel) (by decide +kernel)
theorem gw_597 : (Cond.instanceMethod ({ cls := "SectionDesk$Tree", name := "raiseVersion", desc := "(I)V" } : MethodName)) ∈ GL := gl_of 637 (by decide +kernel) (by decide +kernel)
theorem gw_598 : (Cond.selects "SectionDesk$Tree" ({ cls := "SectionDesk$Tree", name := "raiseVersion", desc := "(I)V" } : MethodName) ({ cls := "SectionDesk$Tree", name := "raiseVersion", desc := "(I)V" } : MethodName)) ∈ GL := gl_of 638 (by decide +kernel) (by decide +kernel)
theorem gw_599 : (Cond.code ({ cls := "SectionDesk$Tree", name := "raiseVersion", desc := "(I)V" } : MethodName) prog_9_method_20_code (2 : Nat) (Option.none : Option FieldType)) ∈ GL := gl_of 639 (by decide +kernel) (by decide +kernel)
theorem gw_607 : (Cond.methodLink "SectionDesk" (131 : Nat) ({ cls := "SectionDesk$Desk", name := "requestFault", desc := "(IIIZ)I" } : MethodName)) ∈ GL := gl_of 647 (by decide +kernel) (by decide +kernel)
theorem gw_608 : (Cond.instanceMethod ({ cls := "SectionDesk$Desk", name := "requestFault", desc := "(IIIZ)I" } : MethodName)) ∈ GL := gl_of 648 (by decide +kernel) (by decide +kernel)
theorem gw_609 : (Cond.selects "SectionDesk$Desk" ({ cls := "SectionDesk$Desk", name := "requestFault", desc := "(IIIZ)I" } : MethodName) ({ cls := "SectionDesk$Desk", name := "requestFault", desc := "(IIIZ)I" } : MethodName)) ∈ GL := gl_of 649 (by decide +kernel) (by decide +kernel)
theorem gw_610 : (Cond.code ({ cls := "SectionDesk$Desk", name := "requestFault", desc := "(IIIZ)I" } : MethodName) prog_3_method_21_code (6 : Nat) (Option.some FieldType.int)) ∈ GL := gl_of 650 (by decide +kernel) (by decide +kernel)
theorem gw_611 : (Cond.methodLink "SectionDesk$Desk" (176 : Nat) ({ cls := "SectionDesk$Desk", name := "holdsAround", desc := "(IIZ)Z" } : MethodName)) ∈ GL := gl_of 651 (by decide +kernel) (by decide +kernel)
theorem gw_613 : (Cond.instanceMethod ({ cls := "SectionDesk$Desk", name := "holdsAround", desc := "(IIZ)Z" } : MethodName)) ∈ GL := gl_of 653 (by decide +kernel) (by decide +kernel)
theorem gw_614 : (Cond.code ({ cls := "SectionDesk$Desk", name := "holdsAround", desc := "(IIZ)Z" } : MethodName) prog_3_method_22_code (6 : Nat) (Option.some FieldType.boolean)) ∈ GL := gl_of 654 (by decide +kernel) (by decide +kernel)
theorem gw_615 : (Cond.methodLink "SectionDesk$Desk" (190 : Nat) ({ cls := "SectionDesk$CheckOuts", name := "isHeld", desc := "(I)Z" } : MethodName)) ∈ GL := gl_of 655 (by decide +kernel) (by decide +kernel)
theorem gw_616 : (Cond.methodLink "SectionDesk$Desk" (193 : Nat) ({ cls := "SectionDesk$CheckOuts", name := "fact", desc := "(II)I" } : MethodName)) ∈ GL := gl_of 656 (by decide +kernel) (by decide +kernel)
theorem gw_618 : (Cond.methodLink "SectionDesk$Desk" (180 : Nat) ({ cls := "SectionDesk$Queue", name := "placeOf", desc := "(I)I" } : MethodName)) ∈ GL := gl_of 658 (by decide +kernel) (by decide +kernel)
theorem gw_619 : (Cond.instanceMethod ({ cls := "SectionDesk$Queue", name := "placeOf", desc := "(I)I" } : MethodName)) ∈ GL := gl_of 659 (by decide +kernel) (by decide +kernel)
theorem gw_620 : (Cond.selects "SectionDesk$Queue" ({ cls := "SectionDesk$Queue", name := "placeOf", desc := "(I)I" } : MethodName) ({ cls := "SectionDesk$Queue", name := "placeOf", desc := "(I)I" } : MethodName)) ∈ GL := gl_of 660 (by decide +kernel) (by decide +kernel)
theorem gw_621 : (Cond.code ({ cls := "SectionDesk$Queue", name := "placeOf", desc := "(I)I" } : MethodName) prog_7_method_6_code (3 : Nat) (Option.some FieldType.int)) ∈ GL := gl_of 661 (by decide +kernel) (by decide +kernel)
theorem gw_622 : (Cond.methodLink "SectionDesk$Desk" (183 : Nat) ({ cls := "SectionDesk$Queue", name := "isFull", desc := "()Z" } : MethodName)) ∈ GL := gl_of 662 (by decide +kernel) (by decide +kernel)
theorem gw_623 : (Cond.instanceMethod ({ cls := "SectionDesk$Queue", name := "isFull", desc := "()Z" } : MethodName)) ∈ GL := gl_of 663 (by decide +kernel) (by decide +kernel)
theorem gw_624 : (Cond.selects "SectionDesk$Queue" ({ cls := "SectionDesk$Queue", name := "isFull", desc := "()Z" } : MethodName) ({ cls := "SectionDesk$Queue", name := "isFull", desc := "()Z" } : MethodName)) ∈ GL := gl_of 664 (by decide +kernel) (by decide +kernel)
theorem gw_625 : (Cond.code ({ cls := "SectionDesk$Queue", name := "isFull", desc := "()Z" } : MethodName) prog_7_method_5_code (1 : Nat) (Option.some FieldType.boolean)) ∈ GL := gl_of 665 (by decide +kernel) (by decide +kernel)
theorem gw_627 : (Cond.static ({ cls := "SectionDesk", name := "isUser", desc := "(I)Z" } : MethodName)) ∈ GL := gl_of 667 (by decide +kernel) (by decide +kernel)
theorem gw_628 : (Cond.code ({ cls := "SectionDesk", name := "isUser", desc := "(I)Z" } : MethodName) prog_1_method_44_code (1 : Nat) (Option.some FieldType.boolean)) ∈ GL := gl_of 668 (by decide +kernel) (by decide +kernel)
theorem gw_629 : (Cond.methodLink "SectionDesk" (135 : Nat) ({ cls := "SectionDesk$Desk", name := "requestNow", desc := "(IIIZ)I" } : MethodName)) ∈ GL := gl_of 669 (by decide +kernel) (by decide +kernel)
theorem gw_630 : (Cond.instanceMethod ({ cls := "SectionDesk$Desk", name := "requestNow", desc := "(IIIZ)I" } : MethodName)) ∈ GL := gl_of 670 (by decide +kernel) (by decide +kernel)
theorem gw_631 : (Cond.selects "SectionDesk$Desk" ({ cls := "SectionDesk$Desk", name := "requestNow", desc := "(IIIZ)I" } : MethodName) ({ cls := "SectionDesk$Desk", name := "requestNow", desc := "(IIIZ)I" } : MethodName)) ∈ GL := gl_of 671 (by decide +kernel) (by decide +kernel)
theorem gw_632 : (Cond.code ({ cls := "SectionDesk$Desk", name := "requestNow", desc := "(IIIZ)I" } : MethodName) prog_3_method_23_code (5 : Nat) (Option.some FieldType.int)) ∈ GL := gl_of 672 (by decide +kernel) (by decide +kernel)
theorem gw_633 : (Cond.methodLink "SectionDesk$Desk" (196 : Nat) ({ cls := "SectionDesk$Queue", name := "join", desc := "(IIIZ)I" } : MethodName)) ∈ GL := gl_of 673 (by decide +kernel) (by decide +kernel)
theorem gw_634 : (Cond.instanceMethod ({ cls := "SectionDesk$Queue", name := "join", desc := "(IIIZ)I" } : MethodName)) ∈ GL := gl_of 674 (by decide +kernel) (by decide +kernel)
theorem gw_635 : (Cond.selects "SectionDesk$Queue" ({ cls := "SectionDesk$Queue", name := "join", desc := "(IIIZ)I" } : MethodName) ({ cls := "SectionDesk$Queue", name := "join", desc := "(IIIZ)I" } : MethodName)) ∈ GL := gl_of 675 (by decide +kernel) (by decide +kernel)
theorem gw_636 : (Cond.code ({ cls := "SectionDesk$Queue", name := "join", desc := "(IIIZ)I" } : MethodName) prog_7_method_8_code (5 : Nat) (Option.some FieldType.int)) ∈ GL := gl_of 676 (by decide +kernel) (by decide +kernel)
theorem gw_637 : (Cond.methodLink "SectionDesk$Queue" (27 : Nat) ({ cls := "SectionDesk$Queue", name := "isFull", desc := "()Z" } : MethodName)) ∈ GL := gl_of 677 (by decide +kernel) (by decide +kernel)
theorem gw_638 : (Cond.methodLink "SectionDesk$Queue" (31 : Nat) ({ cls := "SectionDesk$Queue", name := "setFact", desc := "(III)V" } : MethodName)) ∈ GL := gl_of 678 (by decide +kernel) (by decide +kernel)
theorem gw_640 : (Cond.instanceMethod ({ cls := "SectionDesk$Queue", name := "setFact", desc := "(III)V" } : MethodName)) ∈ GL := gl_of 680 (by decide +kernel) (by decide +kernel)
theorem gw_641 : (Cond.code ({ cls := "SectionDesk$Queue", name := "setFact", desc := "(III)V" } : MethodName) prog_7_method_4_code (4 : Nat) (Option.none : Option FieldType)) ∈ GL := gl_of 681 (by decide +kernel) (by decide +kernel)
theorem gw_642 : (Cond.methodLink "SectionDesk$Desk" (200 : Nat) ({ cls := "SectionDesk$Desk", name := "lookAt", desc := "(I)I" } : MethodName)) ∈ GL := gl_of 682 (by decide +kernel) (by decide +kernel)
theorem gw_644 : (Cond.instanceMethod ({ cls := "SectionDesk$Desk", name := "lookAt", desc := "(I)I" } : MethodName)) ∈ GL := gl_of 684 (by decide +kernel) (by decide +kernel)
theorem gw_645 : (Cond.code ({ cls := "SectionDesk$Desk", name := "lookAt", desc := "(I)I" } : MethodName) prog_3_method_25_code (7 : Nat) (Option.some FieldType.int)) ∈ GL := gl_of 685 (by decide +kernel) (by decide +kernel)
theorem gw_646 : (Cond.methodLink "SectionDesk$Desk" (206 : Nat) ({ cls := "SectionDesk$Desk", name := "absorbedBy", desc := "(I)I" } : MethodName)) ∈ GL := gl_of 686 (by decide +kernel) (by decide +kernel)
theorem gw_648 : (Cond.instanceMethod ({ cls := "SectionDesk$Desk", name := "absorbedBy", desc := "(I)I" } : MethodName)) ∈ GL := gl_of 688 (by decide +kernel) (by decide +kernel)
theorem gw_649 : (Cond.code ({ cls := "SectionDesk$Desk", name := "absorbedBy", desc := "(I)I" } : MethodName) prog_3_method_26_code (6 : Nat) (Option.some FieldType.int)) ∈ GL := gl_of 689 (by decide +kernel) (by decide +kernel)
theorem gw_650 : (Cond.methodLink "SectionDesk$Desk" (221 : Nat) ({ cls := "SectionDesk$Queue", name := "fact", desc := "(II)I" } : MethodName)) ∈ GL := gl_of 690 (by decide +kernel) (by decide +kernel)
theorem gw_651 : (Cond.methodLink "SectionDesk$Desk" (209 : Nat) ({ cls := "SectionDesk$CheckOuts", name := "countWithout", desc := "(I)I" } : MethodName)) ∈ GL := gl_of 691 (by decide +kernel) (by decide +kernel)
theorem gw_652 : (Cond.instanceMethod ({ cls := "SectionDesk$CheckOuts", name := "countWithout", desc := "(I)I" } : MethodName)) ∈ GL := gl_of 692 (by decide +kernel) (by decide +kernel)
theorem gw_653 : (Cond.selects "SectionDesk$CheckOuts" ({ cls := "SectionDesk$CheckOuts", name := "countWithout", desc := "(I)I" } : MethodName) ({ cls := "SectionDesk$CheckOuts", name := "countWithout", desc := "(I)I" } : MethodName)) ∈ GL := gl_of 693 (by decide +kernel) (by decide +kernel)
theorem gw_654 : (Cond.code ({ cls := "SectionDesk$CheckOuts", name := "countWithout", desc := "(I)I" } : MethodName) prog_2_method_9_code (2 : Nat) (Option.some FieldType.int)) ∈ GL := gl_of 694 (by decide +kernel) (by decide +kernel)
theorem gw_655 : (Cond.methodLink "SectionDesk$CheckOuts" (40 : Nat) ({ cls := "java/lang/Integer", name := "bitCount", desc := "(I)I" } : MethodName)) ∈ GL := gl_of 695 (by decide +kernel) (by decide +kernel)
theorem gw_656 : (Cond.methodLink "SectionDesk$Desk" (212 : Nat) ({ cls := "SectionDesk$Desk", name := "hinderersOf", desc := "(II)I" } : MethodName)) ∈ GL := gl_of 696 (by decide +kernel) (by decide +kernel)
theorem gw_658 : (Cond.instanceMethod ({ cls := "SectionDesk$Desk", name := "hinderersOf", desc := "(II)I" } : MethodName)) ∈ GL := gl_of 698 (by decide +kernel) (by decide +kernel)
theorem gw_659 : (Cond.code ({ cls := "SectionDesk$Desk", name := "hinderersOf", desc := "(II)I" } : MethodName) prog_3_method_27_code (7 : Nat) (Option.some FieldType.int)) ∈ GL := gl_of 699 (by decide +kernel) (by decide +kernel)
theorem gw_660 : (Cond.methodLink "SectionDesk$Desk" (235 : Nat) ({ cls := "SectionDesk$CheckOuts", name := "isShared", desc := "(I)Z" } : MethodName)) ∈ GL := gl_of 700 (by decide +kernel) (by decide +kernel)
theorem gw_661 : (Cond.instanceMethod ({ cls := "SectionDesk$CheckOuts", name := "isShared", desc := "(I)Z" } : MethodName)) ∈ GL := gl_of 701 (by decide +kernel) (by decide +kernel)
theorem gw_662 : (Cond.selects "SectionDesk$CheckOuts" ({ cls := "SectionDesk$CheckOuts", name := "isShared", desc := "(I)Z" } : MethodName) ({ cls := "SectionDesk$CheckOuts", name := "isShared", desc := "(I)Z" } : MethodName)) ∈ GL := gl_of 702 (by decide +kernel) (by decide +kernel)
theorem gw_663 : (Cond.code ({ cls := "SectionDesk$CheckOuts", name := "isShared", desc := "(I)Z" } : MethodName) prog_2_method_7_code (2 : Nat) (Option.some FieldType.boolean)) ∈ GL := gl_of 703 (by decide +kernel) (by decide +kernel)
theorem gw_664 : (Cond.methodLink "SectionDesk$Desk" (215 : Nat) ({ cls := "SectionDesk$Desk", name := "blockersOf", desc := "(I)I" } : MethodName)) ∈ GL := gl_of 704 (by decide +kernel) (by decide +kernel)
theorem gw_666 : (Cond.instanceMethod ({ cls := "SectionDesk$Desk", name := "blockersOf", desc := "(I)I" } : MethodName)) ∈ GL := gl_of 706 (by decide +kernel) (by decide +kernel)
theorem gw_667 : (Cond.code ({ cls := "SectionDesk$Desk", name := "blockersOf", desc := "(I)I" } : MethodName) prog_3_method_28_code (6 : Nat) (Option.some FieldType.int)) ∈ GL := gl_of 707 (by decide +kernel) (by decide +kernel)
theorem gw_668 : (Cond.methodLink "SectionDesk$Desk" (218 : Nat) ({ cls := "SectionDesk$CheckOuts", name := "lowestFree", desc := "(I)I" } : MethodName)) ∈ GL := gl_of 708 (by decide +kernel) (by decide +kernel)
theorem gw_669 : (Cond.instanceMethod ({ cls := "SectionDesk$CheckOuts", name := "lowestFree", desc := "(I)I" } : MethodName)) ∈ GL := gl_of 709 (by decide +kernel) (by decide +kernel)
theorem gw_670 : (Cond.selects "SectionDesk$CheckOuts" ({ cls := "SectionDesk$CheckOuts", name := "lowestFree", desc := "(I)I" } : MethodName) ({ cls := "SectionDesk$CheckOuts", name := "lowestFree", desc := "(I)I" } : MethodName)) ∈ GL := gl_of 710 (by decide +kernel) (by decide +kernel)
theorem gw_671 : (Cond.code ({ cls := "SectionDesk$CheckOuts", name := "lowestFree", desc := "(I)I" } : MethodName) prog_2_method_10_code (3 : Nat) (Option.some FieldType.int)) ∈ GL := gl_of 711 (by decide +kernel) (by decide +kernel)
theorem gw_673 : (Cond.methodLink "SectionDesk$Desk" (222 : Nat) ({ cls := "SectionDesk$Desk", name := "startCopy", desc := "(III)V" } : MethodName)) ∈ GL := gl_of 713 (by decide +kernel) (by decide +kernel)
theorem gw_675 : (Cond.instanceMethod ({ cls := "SectionDesk$Desk", name := "startCopy", desc := "(III)V" } : MethodName)) ∈ GL := gl_of 715 (by decide +kernel) (by decide +kernel)
theorem gw_676 : (Cond.code ({ cls := "SectionDesk$Desk", name := "startCopy", desc := "(III)V" } : MethodName) prog_3_method_30_code (7 : Nat) (Option.none : Option FieldType)) ∈ GL := gl_of 716 (by decide +kernel) (by decide +kernel)
theorem gw_677 : (Cond.methodLink "SectionDesk$Desk" (238 : Nat) ({ cls := "SectionDesk$CheckOuts", name := "copyOther", desc := "(III)V" } : MethodName)) ∈ GL := gl_of 717 (by decide +kernel) (by decide +kernel)
theorem gw_678 : (Cond.instanceMethod ({ cls := "SectionDesk$CheckOuts", name := "copyOther", desc := "(III)V" } : MethodName)) ∈ GL := gl_of 718 (by decide +kernel) (by decide +kernel)
theorem gw_679 : (Cond.selects "SectionDesk$CheckOuts" ({ cls := "SectionDesk$CheckOuts", name := "copyOther", desc := "(III)V" } : MethodName) ({ cls := "SectionDesk$CheckOuts", name := "copyOther", desc := "(III)V" } : MethodName)) ∈ GL := gl_of 719 (by decide +kernel) (by decide +kernel)
theorem gw_680 : (Cond.code ({ cls := "SectionDesk$CheckOuts", name := "copyOther", desc := "(III)V" } : MethodName) prog_2_method_21_code (5 : Nat) (Option.none : Option FieldType)) ∈ GL := gl_of 720 (by decide +kernel) (by decide +kernel)
theorem gw_681 : (Cond.methodLink "SectionDesk$CheckOuts" (76 : Nat) ({ cls := "SectionDesk$CheckOuts", name := "baseAt", desc := "(II)I" } : MethodName)) ∈ GL := gl_of 721 (by decide +kernel) (by decide +kernel)
theorem gw_682 : (Cond.instanceMethod ({ cls := "SectionDesk$CheckOuts", name := "baseAt", desc := "(II)I" } : MethodName)) ∈ GL := gl_of 722 (by decide +kernel) (by decide +kernel)
theorem gw_683 : (Cond.selects "SectionDesk$CheckOuts" ({ cls := "SectionDesk$CheckOuts", name := "baseAt", desc := "(II)I" } : MethodName) ({ cls := "SectionDesk$CheckOuts", name := "baseAt", desc := "(II)I" } : MethodName)) ∈ GL := gl_of 723 (by decide +kernel) (by decide +kernel)
theorem gw_684 : (Cond.code ({ cls := "SectionDesk$CheckOuts", name := "baseAt", desc := "(II)I" } : MethodName) prog_2_method_16_code (4 : Nat) (Option.some FieldType.int)) ∈ GL := gl_of 724 (by decide +kernel) (by decide +kernel)
theorem gw_685 : (Cond.methodLink "SectionDesk$CheckOuts" (70 : Nat) ({ cls := "SectionDesk$CheckOuts", name := "setBase", desc := "(III)V" } : MethodName)) ∈ GL := gl_of 725 (by decide +kernel) (by decide +kernel)
theorem gw_687 : (Cond.instanceMethod ({ cls := "SectionDesk$CheckOuts", name := "setBase", desc := "(III)V" } : MethodName)) ∈ GL := gl_of 727 (by decide +kernel) (by decide +kernel)
theorem gw_688 : (Cond.code ({ cls := "SectionDesk$CheckOuts", name := "setBase", desc := "(III)V" } : MethodName) prog_2_method_19_code (4 : Nat) (Option.none : Option FieldType)) ∈ GL := gl_of 728 (by decide +kernel) (by decide +kernel)
theorem gw_689 : (Cond.methodLink "SectionDesk$CheckOuts" (79 : Nat) ({ cls := "SectionDesk$CheckOuts", name := "ownAt", desc := "(II)I" } : MethodName)) ∈ GL := gl_of 729 (by decide +kernel) (by decide +kernel)
theorem gw_690 : (Cond.instanceMethod ({ cls := "SectionDesk$CheckOuts", name := "ownAt", desc := "(II)I" } : MethodName)) ∈ GL := gl_of 730 (by decide +kernel) (by decide +kernel)
theorem gw_691 : (Cond.selects "SectionDesk$CheckOuts" ({ cls := "SectionDesk$CheckOuts", name := "ownAt", desc := "(II)I" } : MethodName) ({ cls := "SectionDesk$CheckOuts", name := "ownAt", desc := "(II)I" } : MethodName)) ∈ GL := gl_of 731 (by decide +kernel) (by decide +kernel)
theorem gw_692 : (Cond.code ({ cls := "SectionDesk$CheckOuts", name := "ownAt", desc := "(II)I" } : MethodName) prog_2_method_17_code (4 : Nat) (Option.some FieldType.int)) ∈ GL := gl_of 732 (by decide +kernel) (by decide +kernel)
theorem gw_693 : (Cond.methodLink "SectionDesk$CheckOuts" (73 : Nat) ({ cls := "SectionDesk$CheckOuts", name := "setOwn", desc := "(III)V" } : MethodName)) ∈ GL := gl_of 733 (by decide +kernel) (by decide +kernel)
theorem gw_694 : (Cond.instanceMethod ({ cls := "SectionDesk$CheckOuts", name := "setOwn", desc := "(III)V" } : MethodName)) ∈ GL := gl_of 734 (by decide +kernel) (by decide +kernel)
theorem gw_695 : (Cond.selects "SectionDesk$CheckOuts" ({ cls := "SectionDesk$CheckOuts", name := "setOwn", desc := "(III)V" } : MethodName) ({ cls := "SectionDesk$CheckOuts", name := "setOwn", desc := "(III)V" } : MethodName)) ∈ GL := gl_of 735 (by decide +kernel) (by decide +kernel)
theorem gw_696 : (Cond.code ({ cls := "SectionDesk$CheckOuts", name := "setOwn", desc := "(III)V" } : MethodName) prog_2_method_18_code (4 : Nat) (Option.none : Option FieldType)) ∈ GL := gl_of 736 (by decide +kernel) (by decide +kernel)
theorem gw_697 : (Cond.methodLink "SectionDesk$Desk" (241 : Nat) ({ cls := "SectionDesk$CheckOuts", name := "copyDocument", desc := "(IILSectionDesk$Tree;)V" } : MethodName)) ∈ GL := gl_of 737 (by decide +kernel) (by decide +kernel)
theorem gw_698 : (Cond.instanceMethod ({ cls := "SectionDesk$CheckOuts", name := "copyDocument", desc := "(IILSectionDesk$Tree;)V" } : MethodName)) ∈ GL := gl_of 738 (by decide +kernel) (by decide +kernel)
theorem gw_699 : (Cond.selects "SectionDesk$CheckOuts" ({ cls := "SectionDesk$CheckOuts", name := "copyDocument", desc := "(IILSectionDesk$Tree;)V" } : MethodName) ({ cls := "SectionDesk$CheckOuts", name := "copyDocument", desc := "(IILSectionDesk$Tree;)V" } : MethodName)) ∈ GL := gl_of 739 (by decide +kernel) (by decide +kernel)
theorem gw_700 : (Cond.code ({ cls := "SectionDesk$CheckOuts", name := "copyDocument", desc := "(IILSectionDesk$Tree;)V" } : MethodName) prog_2_method_20_code (5 : Nat) (Option.none : Option FieldType)) ∈ GL := gl_of 740 (by decide +kernel) (by decide +kernel)
theorem gw_701 : (Cond.methodLink "SectionDesk$CheckOuts" (65 : Nat) ({ cls := "SectionDesk$Tree", name := "valueAt", desc := "(I)I" } : MethodName)) ∈ GL := gl_of 741 (by decide +kernel) (by decide +kernel)
theorem gw_702 : (Cond.methodLink "SectionDesk$Desk" (226 : Nat) ({ cls := "SectionDesk$CheckOuts", name := "closeAll", desc := "(I)V" } : MethodName)) ∈ GL := gl_of 742 (by decide +kernel) (by decide +kernel)
theorem gw_703 : (Cond.instanceMethod ({ cls := "SectionDesk$CheckOuts", name := "closeAll", desc := "(I)V" } : MethodName)) ∈ GL := gl_of 743 (by decide +kernel) (by decide +kernel)
theorem gw_704 : (Cond.selects "SectionDesk$CheckOuts" ({ cls := "SectionDesk$CheckOuts", name := "closeAll", desc := "(I)V" } : MethodName) ({ cls := "SectionDesk$CheckOuts", name := "closeAll", desc := "(I)V" } : MethodName)) ∈ GL := gl_of 744 (by decide +kernel) (by decide +kernel)
theorem gw_705 : (Cond.code ({ cls := "SectionDesk$CheckOuts", name := "closeAll", desc := "(I)V" } : MethodName) prog_2_method_14_code (2 : Nat) (Option.none : Option FieldType)) ∈ GL := gl_of 745 (by decide +kernel) (by decide +kernel)
theorem gw_706 : (Cond.methodLink "SectionDesk$Desk" (229 : Nat) ({ cls := "SectionDesk$CheckOuts", name := "open", desc := "(IIIII)V" } : MethodName)) ∈ GL := gl_of 746 (by decide +kernel) (by decide +kernel)
theorem gw_707 : (Cond.instanceMethod ({ cls := "SectionDesk$CheckOuts", name := "open", desc := "(IIIII)V" } : MethodName)) ∈ GL := gl_of 747 (by decide +kernel) (by decide +kernel)
theorem gw_708 : (Cond.selects "SectionDesk$CheckOuts" ({ cls := "SectionDesk$CheckOuts", name := "open", desc := "(IIIII)V" } : MethodName) ({ cls := "SectionDesk$CheckOuts", name := "open", desc := "(IIIII)V" } : MethodName)) ∈ GL := gl_of 748 (by decide +kernel) (by decide +kernel)
theorem gw_709 : (Cond.code ({ cls := "SectionDesk$CheckOuts", name := "open", desc := "(IIIII)V" } : MethodName) prog_2_method_11_code (6 : Nat) (Option.none : Option FieldType)) ∈ GL := gl_of 749 (by decide +kernel) (by decide +kernel)
theorem gw_711 : (Cond.methodLink "SectionDesk$CheckOuts" (54 : Nat) ({ cls := "SectionDesk$CheckOuts", name := "setFact", desc := "(III)V" } : MethodName)) ∈ GL := gl_of 751 (by decide +kernel) (by decide +kernel)
theorem gw_713 : (Cond.instanceMethod ({ cls := "SectionDesk$CheckOuts", name := "setFact", desc := "(III)V" } : MethodName)) ∈ GL := gl_of 753 (by decide +kernel) (by decide +kernel)
theorem gw_714 : (Cond.code ({ cls := "SectionDesk$CheckOuts", name := "setFact", desc := "(III)V" } : MethodName) prog_2_method_5_code (4 : Nat) (Option.none : Option FieldType)) ∈ GL := gl_of 754 (by decide +kernel) (by decide +kernel)
theorem gw_715 : (Cond.methodLink "SectionDesk$Desk" (232 : Nat) ({ cls := "SectionDesk$Queue", name := "leave", desc := "(I)V" } : MethodName)) ∈ GL := gl_of 755 (by decide +kernel) (by decide +kernel)
theorem gw_716 : (Cond.instanceMethod ({ cls := "SectionDesk$Queue", name := "leave", desc := "(I)V" } : MethodName)) ∈ GL := gl_of 756 (by decide +kernel) (by decide +kernel)
theorem gw_717 : (Cond.selects "SectionDesk$Queue" ({ cls := "SectionDesk$Queue", name := "leave", desc := "(I)V" } : MethodName) ({ cls := "SectionDesk$Queue", name := "leave", desc := "(I)V" } : MethodName)) ∈ GL := gl_of 757 (by decide +kernel) (by decide +kernel)
theorem gw_718 : (Cond.code ({ cls := "SectionDesk$Queue", name := "leave", desc := "(I)V" } : MethodName) prog_7_method_9_code (4 : Nat) (Option.none : Option FieldType)) ∈ GL := gl_of 758 (by decide +kernel) (by decide +kernel)
theorem gw_735 : (Cond.methodLink "SectionDesk$Desk" (245 : Nat) ({ cls := "SectionDesk$Desk", name := "serve", desc := "()I" } : MethodName)) ∈ GL := gl_of 775 (by decide +kernel) (by decide +kernel)
theorem gw_736 : (Cond.instanceMethod ({ cls := "SectionDesk$Desk", name := "serve", desc := "()I" } : MethodName)) ∈ GL := gl_of 776 (by decide +kernel) (by decide +kernel)
theorem gw_737 : (Cond.selects "SectionDesk$Desk" ({ cls := "SectionDesk$Desk", name := "serve", desc := "()I" } : MethodName) ({ cls := "SectionDesk$Desk", name := "serve", desc := "()I" } : MethodName)) ∈ GL := gl_of 777 (by decide +kernel) (by decide +kernel)
theorem gw_738 : (Cond.code ({ cls := "SectionDesk$Desk", name := "serve", desc := "()I" } : MethodName) prog_3_method_24_code (5 : Nat) (Option.some FieldType.int)) ∈ GL := gl_of 778 (by decide +kernel) (by decide +kernel)
theorem gw_750 : (Cond.methodLink "SectionDesk$Desk" (248 : Nat) ({ cls := "SectionDesk$CheckOuts", name := "has", desc := "(I)Z" } : MethodName)) ∈ GL := gl_of 790 (by decide +kernel) (by decide +kernel)
theorem gw_755 : (Cond.methodLink "SectionDesk$Desk" (252 : Nat) ({ cls := "SectionDesk$CheckOuts", name := "setExpiry", desc := "(II)V" } : MethodName)) ∈ GL := gl_of 795 (by decide +kernel) (by decide +kernel)
theorem gw_756 : (Cond.instanceMethod ({ cls := "SectionDesk$CheckOuts", name := "setExpiry", desc := "(II)V" } : MethodName)) ∈ GL := gl_of 796 (by decide +kernel) (by decide +kernel)
theorem gw_757 : (Cond.selects "SectionDesk$CheckOuts" ({ cls := "SectionDesk$CheckOuts", name := "setExpiry", desc := "(II)V" } : MethodName) ({ cls := "SectionDesk$CheckOuts", name := "setExpiry", desc := "(II)V" } : MethodName)) ∈ GL := gl_of 797 (by decide +kernel) (by decide +kernel)
theorem gw_758 : (Cond.code ({ cls := "SectionDesk$CheckOuts", name := "setExpiry", desc := "(II)V" } : MethodName) prog_2_method_12_code (3 : Nat) (Option.none : Option FieldType)) ∈ GL := gl_of 798 (by decide +kernel) (by decide +kernel)
theorem gw_766 : (Cond.methodLink "SectionDesk" (150 : Nat) ({ cls := "SectionDesk$Desk", name := "breakFault", desc := "(I)I" } : MethodName)) ∈ GL := gl_of 806 (by decide +kernel) (by decide +kernel)
theorem gw_767 : (Cond.instanceMethod ({ cls := "SectionDesk$Desk", name := "breakFault", desc := "(I)I" } : MethodName)) ∈ GL := gl_of 807 (by decide +kernel) (by decide +kernel)
theorem gw_768 : (Cond.selects "SectionDesk$Desk" ({ cls := "SectionDesk$Desk", name := "breakFault", desc := "(I)I" } : MethodName) ({ cls := "SectionDesk$Desk", name := "breakFault", desc := "(I)I" } : MethodName)) ∈ GL := gl_of 808 (by decide +kernel) (by decide +kernel)
theorem gw_769 : (Cond.code ({ cls := "SectionDesk$Desk", name := "breakFault", desc := "(I)I" } : MethodName) prog_3_method_38_code (2 : Nat) (Option.some FieldType.int)) ∈ GL := gl_of 809 (by decide +kernel) (by decide +kernel)
theorem gw_770 : (Cond.methodLink "SectionDesk" (153 : Nat) ({ cls := "SectionDesk$Desk", name := "breakNow", desc := "(I)I" } : MethodName)) ∈ GL := gl_of 810 (by decide +kernel) (by decide +kernel)
theorem gw_771 : (Cond.instanceMethod ({ cls := "SectionDesk$Desk", name := "breakNow", desc := "(I)I" } : MethodName)) ∈ GL := gl_of 811 (by decide +kernel) (by decide +kernel)
theorem gw_772 : (Cond.selects "SectionDesk$Desk" ({ cls := "SectionDesk$Desk", name := "breakNow", desc := "(I)I" } : MethodName) ({ cls := "SectionDesk$Desk", name := "breakNow", desc := "(I)I" } : MethodName)) ∈ GL := gl_of 812 (by decide +kernel) (by decide +kernel)
theorem gw_773 : (Cond.code ({ cls := "SectionDesk$Desk", name := "breakNow", desc := "(I)I" } : MethodName) prog_3_method_39_code (3 : Nat) (Option.some FieldType.int)) ∈ GL := gl_of 813 (by decide +kernel) (by decide +kernel)
theorem gw_774 : (Cond.methodLink "SectionDesk$Desk" (255 : Nat) ({ cls := "SectionDesk$CheckOuts", name := "lose", desc := "(I)V" } : MethodName)) ∈ GL := gl_of 814 (by decide +kernel) (by decide +kernel)
theorem gw_775 : (Cond.instanceMethod ({ cls := "SectionDesk$CheckOuts", name := "lose", desc := "(I)V" } : MethodName)) ∈ GL := gl_of 815 (by decide +kernel) (by decide +kernel)
theorem gw_776 : (Cond.selects "SectionDesk$CheckOuts" ({ cls := "SectionDesk$CheckOuts", name := "lose", desc := "(I)V" } : MethodName) ({ cls := "SectionDesk$CheckOuts", name := "lose", desc := "(I)V" } : MethodName)) ∈ GL := gl_of 816 (by decide +kernel) (by decide +kernel)
theorem gw_777 : (Cond.code ({ cls := "SectionDesk$CheckOuts", name := "lose", desc := "(I)V" } : MethodName) prog_2_method_15_code (2 : Nat) (Option.none : Option FieldType)) ∈ GL := gl_of 817 (by decide +kernel) (by decide +kernel)
theorem gw_778 : (Cond.methodLink "SectionDesk$CheckOuts" (58 : Nat) ({ cls := "SectionDesk$CheckOuts", name := "isShared", desc := "(I)Z" } : MethodName)) ∈ GL := gl_of 818 (by decide +kernel) (by decide +kernel)
theorem gw_779 : (Cond.methodLink "SectionDesk$CheckOuts" (61 : Nat) ({ cls := "SectionDesk$CheckOuts", name := "close", desc := "(I)V" } : MethodName)) ∈ GL := gl_of 819 (by decide +kernel) (by decide +kernel)
theorem gw_780 : (Cond.instanceMethod ({ cls := "SectionDesk$CheckOuts", name := "close", desc := "(I)V" } : MethodName)) ∈ GL := gl_of 820 (by decide +kernel) (by decide +kernel)
theorem gw_781 : (Cond.selects "SectionDesk$CheckOuts" ({ cls := "SectionDesk$CheckOuts", name := "close", desc := "(I)V" } : MethodName) ({ cls := "SectionDesk$CheckOuts", name := "close", desc := "(I)V" } : MethodName)) ∈ GL := gl_of 821 (by decide +kernel) (by decide +kernel)
theorem gw_782 : (Cond.code ({ cls := "SectionDesk$CheckOuts", name := "close", desc := "(I)V" } : MethodName) prog_2_method_13_code (2 : Nat) (Option.none : Option FieldType)) ∈ GL := gl_of 822 (by decide +kernel) (by decide +kernel)
theorem gw_790 : (Cond.methodLink "SectionDesk" (162 : Nat) ({ cls := "SectionDesk$Desk", name := "editFault", desc := "(IIII)I" } : MethodName)) ∈ GL := gl_of 830 (by decide +kernel) (by decide +kernel)
theorem gw_791 : (Cond.instanceMethod ({ cls := "SectionDesk$Desk", name := "editFault", desc := "(IIII)I" } : MethodName)) ∈ GL := gl_of 831 (by decide +kernel) (by decide +kernel)
theorem gw_792 : (Cond.selects "SectionDesk$Desk" ({ cls := "SectionDesk$Desk", name := "editFault", desc := "(IIII)I" } : MethodName) ({ cls := "SectionDesk$Desk", name := "editFault", desc := "(IIII)I" } : MethodName)) ∈ GL := gl_of 832 (by decide +kernel) (by decide +kernel)
theorem gw_793 : (Cond.code ({ cls := "SectionDesk$Desk", name := "editFault", desc := "(IIII)I" } : MethodName) prog_3_method_42_code (5 : Nat) (Option.some FieldType.int)) ∈ GL := gl_of 833 (by decide +kernel) (by decide +kernel)
theorem gw_794 : (Cond.methodLink "SectionDesk$Desk" (270 : Nat) ({ cls := "SectionDesk$Desk", name := "hasCopy", desc := "(III)Z" } : MethodName)) ∈ GL := gl_of 834 (by decide +kernel) (by decide +kernel)
theorem gw_795 : (Cond.instanceMethod ({ cls := "SectionDesk$Desk", name := "hasCopy", desc := "(III)Z" } : MethodName)) ∈ GL := gl_of 835 (by decide +kernel) (by decide +kernel)
theorem gw_796 : (Cond.selects "SectionDesk$Desk" ({ cls := "SectionDesk$Desk", name := "hasCopy", desc := "(III)Z" } : MethodName) ({ cls := "SectionDesk$Desk", name := "hasCopy", desc := "(III)Z" } : MethodName)) ∈ GL := gl_of 836 (by decide +kernel) (by decide +kernel)
theorem gw_797 : (Cond.code ({ cls := "SectionDesk$Desk", name := "hasCopy", desc := "(III)Z" } : MethodName) prog_3_method_35_code (4 : Nat) (Option.some FieldType.boolean)) ∈ GL := gl_of 837 (by decide +kernel) (by decide +kernel)
theorem gw_798 : (Cond.methodLink "SectionDesk$Desk" (249 : Nat) ({ cls := "SectionDesk$Desk", name := "sectionsOf", desc := "(I)I" } : MethodName)) ∈ GL := gl_of 838 (by decide +kernel) (by decide +kernel)
theorem gw_800 : (Cond.instanceMethod ({ cls := "SectionDesk$Desk", name := "sectionsOf", desc := "(I)I" } : MethodName)) ∈ GL := gl_of 840 (by decide +kernel) (by decide +kernel)
theorem gw_801 : (Cond.code ({ cls := "SectionDesk$Desk", name := "sectionsOf", desc := "(I)I" } : MethodName) prog_3_method_34_code (2 : Nat) (Option.some FieldType.int)) ∈ GL := gl_of 841 (by decide +kernel) (by decide +kernel)
theorem gw_802 : (Cond.methodLink "SectionDesk" (166 : Nat) ({ cls := "SectionDesk$Desk", name := "editNow", desc := "(IIII)I" } : MethodName)) ∈ GL := gl_of 842 (by decide +kernel) (by decide +kernel)
theorem gw_803 : (Cond.instanceMethod ({ cls := "SectionDesk$Desk", name := "editNow", desc := "(IIII)I" } : MethodName)) ∈ GL := gl_of 843 (by decide +kernel) (by decide +kernel)
theorem gw_804 : (Cond.selects "SectionDesk$Desk" ({ cls := "SectionDesk$Desk", name := "editNow", desc := "(IIII)I" } : MethodName) ({ cls := "SectionDesk$Desk", name := "editNow", desc := "(IIII)I" } : MethodName)) ∈ GL := gl_of 844 (by decide +kernel) (by decide +kernel)
theorem gw_805 : (Cond.code ({ cls := "SectionDesk$Desk", name := "editNow", desc := "(IIII)I" } : MethodName) prog_3_method_43_code (7 : Nat) (Option.some FieldType.int)) ∈ GL := gl_of 845 (by decide +kernel) (by decide +kernel)
theorem gw_806 : (Cond.methodLink "SectionDesk$Desk" (264 : Nat) ({ cls := "SectionDesk$CheckOuts", name := "ownAt", desc := "(II)I" } : MethodName)) ∈ GL := gl_of 846 (by decide +kernel) (by decide +kernel)
theorem gw_807 : (Cond.methodLink "SectionDesk$Desk" (273 : Nat) ({ cls := "SectionDesk$CheckOuts", name := "setOwn", desc := "(III)V" } : MethodName)) ∈ GL := gl_of 847 (by decide +kernel) (by decide +kernel)
theorem gw_815 : (Cond.methodLink "SectionDesk" (187 : Nat) ({ cls := "SectionDesk$Desk", name := "giveBackFault", desc := "(II)I" } : MethodName)) ∈ GL := gl_of 855 (by decide +kernel) (by decide +kernel)
theorem gw_816 : (Cond.instanceMethod ({ cls := "SectionDesk$Desk", name := "giveBackFault", desc := "(II)I" } : MethodName)) ∈ GL := gl_of 856 (by decide +kernel) (by decide +kernel)
theorem gw_817 : (Cond.selects "SectionDesk$Desk" ({ cls := "SectionDesk$Desk", name := "giveBackFault", desc := "(II)I" } : MethodName) ({ cls := "SectionDesk$Desk", name := "giveBackFault", desc := "(II)I" } : MethodName)) ∈ GL := gl_of 857 (by decide +kernel) (by decide +kernel)
theorem gw_818 : (Cond.code ({ cls := "SectionDesk$Desk", name := "giveBackFault", desc := "(II)I" } : MethodName) prog_3_method_45_code (4 : Nat) (Option.some FieldType.int)) ∈ GL := gl_of 858 (by decide +kernel) (by decide +kernel)
theorem gw_819 : (Cond.methodLink "SectionDesk$Desk" (170 : Nat) ({ cls := "SectionDesk$Desk", name := "isHeldAround", desc := "(I)Z" } : MethodName)) ∈ GL := gl_of 859 (by decide +kernel) (by decide +kernel)
theorem gw_821 : (Cond.instanceMethod ({ cls := "SectionDesk$Desk", name := "isHeldAround", desc := "(I)Z" } : MethodName)) ∈ GL := gl_of 861 (by decide +kernel) (by decide +kernel)
theorem gw_822 : (Cond.code ({ cls := "SectionDesk$Desk", name := "isHeldAround", desc := "(I)Z" } : MethodName) prog_3_method_6_code (2 : Nat) (Option.some FieldType.boolean)) ∈ GL := gl_of 862 (by decide +kernel) (by decide +kernel)
theorem gw_823 : (Cond.methodLink "SectionDesk$Desk" (276 : Nat) ({ cls := "SectionDesk$Desk", name := "countConflicts", desc := "(I)I" } : MethodName)) ∈ GL := gl_of 863 (by decide +kernel) (by decide +kernel)
theorem gw_824 : (Cond.instanceMethod ({ cls := "SectionDesk$Desk", name := "countConflicts", desc := "(I)I" } : MethodName)) ∈ GL := gl_of 864 (by decide +kernel) (by decide +kernel)
theorem gw_825 : (Cond.selects "SectionDesk$Desk" ({ cls := "SectionDesk$Desk", name := "countConflicts", desc := "(I)I" } : MethodName) ({ cls := "SectionDesk$Desk", name := "countConflicts", desc := "(I)I" } : MethodName)) ∈ GL := gl_of 865 (by decide +kernel) (by decide +kernel)
theorem gw_826 : (Cond.code ({ cls := "SectionDesk$Desk", name := "countConflicts", desc := "(I)I" } : MethodName) prog_3_method_46_code (5 : Nat) (Option.some FieldType.int)) ∈ GL := gl_of 866 (by decide +kernel) (by decide +kernel)
theorem gw_827 : (Cond.methodLink "SectionDesk$Desk" (279 : Nat) ({ cls := "SectionDesk$Desk", name := "isConflict", desc := "(II)Z" } : MethodName)) ∈ GL := gl_of 867 (by decide +kernel) (by decide +kernel)
theorem gw_829 : (Cond.instanceMethod ({ cls := "SectionDesk$Desk", name := "isConflict", desc := "(II)Z" } : MethodName)) ∈ GL := gl_of 869 (by decide +kernel) (by decide +kernel)
theorem gw_830 : (Cond.code ({ cls := "SectionDesk$Desk", name := "isConflict", desc := "(II)Z" } : MethodName) prog_3_method_47_code (6 : Nat) (Option.some FieldType.boolean)) ∈ GL := gl_of 870 (by decide +kernel) (by decide +kernel)
theorem gw_831 : (Cond.methodLink "SectionDesk$Desk" (267 : Nat) ({ cls := "SectionDesk$CheckOuts", name := "baseAt", desc := "(II)I" } : MethodName)) ∈ GL := gl_of 871 (by decide +kernel) (by decide +kernel)
theorem gw_832 : (Cond.methodLink "SectionDesk" (190 : Nat) ({ cls := "SectionDesk$Desk", name := "giveBackNow", desc := "(II)I" } : MethodName)) ∈ GL := gl_of 872 (by decide +kernel) (by decide +kernel)
theorem gw_833 : (Cond.instanceMethod ({ cls := "SectionDesk$Desk", name := "giveBackNow", desc := "(II)I" } : MethodName)) ∈ GL := gl_of 873 (by decide +kernel) (by decide +kernel)
theorem gw_834 : (Cond.selects "SectionDesk$Desk" ({ cls := "SectionDesk$Desk", name := "giveBackNow", desc := "(II)I" } : MethodName) ({ cls := "SectionDesk$Desk", name := "giveBackNow", desc := "(II)I" } : MethodName)) ∈ GL := gl_of 874 (by decide +kernel) (by decide +kernel)
theorem gw_835 : (Cond.code ({ cls := "SectionDesk$Desk", name := "giveBackNow", desc := "(II)I" } : MethodName) prog_3_method_48_code (4 : Nat) (Option.some FieldType.int)) ∈ GL := gl_of 875 (by decide +kernel) (by decide +kernel)
theorem gw_836 : (Cond.methodLink "SectionDesk$Desk" (282 : Nat) ({ cls := "SectionDesk$Desk", name := "wantReturned", desc := "(II)V" } : MethodName)) ∈ GL := gl_of 876 (by decide +kernel) (by decide +kernel)
theorem gw_838 : (Cond.instanceMethod ({ cls := "SectionDesk$Desk", name := "wantReturned", desc := "(II)V" } : MethodName)) ∈ GL := gl_of 878 (by decide +kernel) (by decide +kernel)
theorem gw_839 : (Cond.code ({ cls := "SectionDesk$Desk", name := "wantReturned", desc := "(II)V" } : MethodName) prog_3_method_49_code (5 : Nat) (Option.none : Option FieldType)) ∈ GL := gl_of 879 (by decide +kernel) (by decide +kernel)
theorem gw_840 : (Cond.methodLink "SectionDesk$Desk" (285 : Nat) ({ cls := "SectionDesk$Desk", name := "returnedValue", desc := "(III)I" } : MethodName)) ∈ GL := gl_of 880 (by decide +kernel) (by decide +kernel)
theorem gw_842 : (Cond.instanceMethod ({ cls := "SectionDesk$Desk", name := "returnedValue", desc := "(III)I" } : MethodName)) ∈ GL := gl_of 882 (by decide +kernel) (by decide +kernel)
theorem gw_843 : (Cond.code ({ cls := "SectionDesk$Desk", name := "returnedValue", desc := "(III)I" } : MethodName) prog_3_method_50_code (6 : Nat) (Option.some FieldType.int)) ∈ GL := gl_of 883 (by decide +kernel) (by decide +kernel)
theorem gw_844 : (Cond.methodLink "SectionDesk$Desk" (261 : Nat) ({ cls := "SectionDesk$CheckOuts", name := "close", desc := "(I)V" } : MethodName)) ∈ GL := gl_of 884 (by decide +kernel) (by decide +kernel)
theorem gw_872 : (Cond.methodLink "SectionDesk$Desk" (166 : Nat) ({ cls := "SectionDesk$History", name := "turnBack", desc := "(I[I)V" } : MethodName)) ∈ GL := gl_of 912 (by decide +kernel) (by decide +kernel)
theorem gw_873 : (Cond.instanceMethod ({ cls := "SectionDesk$History", name := "turnBack", desc := "(I[I)V" } : MethodName)) ∈ GL := gl_of 913 (by decide +kernel) (by decide +kernel)
theorem gw_874 : (Cond.selects "SectionDesk$History" ({ cls := "SectionDesk$History", name := "turnBack", desc := "(I[I)V" } : MethodName) ({ cls := "SectionDesk$History", name := "turnBack", desc := "(I[I)V" } : MethodName)) ∈ GL := gl_of 914 (by decide +kernel) (by decide +kernel)
theorem gw_875 : (Cond.code ({ cls := "SectionDesk$History", name := "turnBack", desc := "(I[I)V" } : MethodName) prog_4_method_9_code (5 : Nat) (Option.none : Option FieldType)) ∈ GL := gl_of 915 (by decide +kernel) (by decide +kernel)
theorem gw_885 : (Cond.methodLink "SectionDesk" (258 : Nat) ({ cls := "SectionDesk$Desk", name := "passFault", desc := "(I)I" } : MethodName)) ∈ GL := gl_of 925 (by decide +kernel) (by decide +kernel)
theorem gw_886 : (Cond.instanceMethod ({ cls := "SectionDesk$Desk", name := "passFault", desc := "(I)I" } : MethodName)) ∈ GL := gl_of 926 (by decide +kernel) (by decide +kernel)
theorem gw_887 : (Cond.selects "SectionDesk$Desk" ({ cls := "SectionDesk$Desk", name := "passFault", desc := "(I)I" } : MethodName) ({ cls := "SectionDesk$Desk", name := "passFault", desc := "(I)I" } : MethodName)) ∈ GL := gl_of 927 (by decide +kernel) (by decide +kernel)
theorem gw_888 : (Cond.code ({ cls := "SectionDesk$Desk", name := "passFault", desc := "(I)I" } : MethodName) prog_3_method_51_code (2 : Nat) (Option.some FieldType.int)) ∈ GL := gl_of 928 (by decide +kernel) (by decide +kernel)
theorem gw_889 : (Cond.methodLink "SectionDesk" (216 : Nat) ({ cls := "SectionDesk$Desk", name := "passTicks", desc := "(II)V" } : MethodName)) ∈ GL := gl_of 929 (by decide +kernel) (by decide +kernel)
theorem gw_890 : (Cond.instanceMethod ({ cls := "SectionDesk$Desk", name := "passTicks", desc := "(II)V" } : MethodName)) ∈ GL := gl_of 930 (by decide +kernel) (by decide +kernel)
theorem gw_891 : (Cond.selects "SectionDesk$Desk" ({ cls := "SectionDesk$Desk", name := "passTicks", desc := "(II)V" } : MethodName) ({ cls := "SectionDesk$Desk", name := "passTicks", desc := "(II)V" } : MethodName)) ∈ GL := gl_of 931 (by decide +kernel) (by decide +kernel)
theorem gw_892 : (Cond.code ({ cls := "SectionDesk$Desk", name := "passTicks", desc := "(II)V" } : MethodName) prog_3_method_52_code (7 : Nat) (Option.none : Option FieldType)) ∈ GL := gl_of 932 (by decide +kernel) (by decide +kernel)
theorem gw_893 : (Cond.methodLink "SectionDesk$Desk" (289 : Nat) ({ cls := "SectionDesk$Desk", name := "ticksToExpiry", desc := "(I)I" } : MethodName)) ∈ GL := gl_of 933 (by decide +kernel) (by decide +kernel)
theorem gw_895 : (Cond.instanceMethod ({ cls := "SectionDesk$Desk", name := "ticksToExpiry", desc := "(I)I" } : MethodName)) ∈ GL := gl_of 935 (by decide +kernel) (by decide +kernel)
theorem gw_896 : (Cond.code ({ cls := "SectionDesk$Desk", name := "ticksToExpiry", desc := "(I)I" } : MethodName) prog_3_method_53_code (4 : Nat) (Option.some FieldType.int)) ∈ GL := gl_of 936 (by decide +kernel) (by decide +kernel)
theorem gw_897 : (Cond.methodLink "SectionDesk$Desk" (298 : Nat) ({ cls := "java/lang/Math", name := "min", desc := "(II)I" } : MethodName)) ∈ GL := gl_of 937 (by decide +kernel) (by decide +kernel)
theorem gw_898 : (Cond.methodLink "SectionDesk$Desk" (303 : Nat) ({ cls := "java/lang/Math", name := "max", desc := "(II)I" } : MethodName)) ∈ GL := gl_of 938 (by decide +kernel) (by decide +kernel)
theorem gw_899 : (Cond.static ({ cls := "java/lang/Math", name := "max", desc := "(II)I" } : MethodName)) ∈ GL := gl_of 939 (by decide +kernel) (by decide +kernel)
theorem gw_900 : (Cond.code ({ cls := "java/lang/Math", name := "max", desc := "(II)I" } : MethodName) prog_17_method_65_code (2 : Nat) (Option.some FieldType.int)) ∈ GL := gl_of 940 (by decide +kernel) (by decide +kernel)
theorem gw_901 : (Cond.methodLink "SectionDesk$Desk" (292 : Nat) ({ cls := "SectionDesk$Desk", name := "countUse", desc := "(I)V" } : MethodName)) ∈ GL := gl_of 941 (by decide +kernel) (by decide +kernel)
theorem gw_903 : (Cond.instanceMethod ({ cls := "SectionDesk$Desk", name := "countUse", desc := "(I)V" } : MethodName)) ∈ GL := gl_of 943 (by decide +kernel) (by decide +kernel)
theorem gw_904 : (Cond.code ({ cls := "SectionDesk$Desk", name := "countUse", desc := "(I)V" } : MethodName) prog_3_method_55_code (4 : Nat) (Option.none : Option FieldType)) ∈ GL := gl_of 944 (by decide +kernel) (by decide +kernel)
theorem gw_905 : (Cond.methodLink "SectionDesk$Desk" (295 : Nat) ({ cls := "SectionDesk$Desk", name := "loseExpired", desc := "()V" } : MethodName)) ∈ GL := gl_of 945 (by decide +kernel) (by decide +kernel)
theorem gw_907 : (Cond.instanceMethod ({ cls := "SectionDesk$Desk", name := "loseExpired", desc := "()V" } : MethodName)) ∈ GL := gl_of 947 (by decide +kernel) (by decide +kernel)
theorem gw_908 : (Cond.code ({ cls := "SectionDesk$Desk", name := "loseExpired", desc := "()V" } : MethodName) prog_3_method_54_code (2 : Nat) (Option.none : Option FieldType)) ∈ GL := gl_of 948 (by decide +kernel) (by decide +kernel)
theorem gw_924 : (Cond.methodLink "SectionDesk$Outline" (23 : Nat) ({ cls := "SectionDesk$Outline", name := "put", desc := "(I)V" } : MethodName)) ∈ GL := gl_of 964 (by decide +kernel) (by decide +kernel)
theorem gw_926 : (Cond.instanceMethod ({ cls := "SectionDesk$Outline", name := "put", desc := "(I)V" } : MethodName)) ∈ GL := gl_of 966 (by decide +kernel) (by decide +kernel)
theorem gw_927 : (Cond.code ({ cls := "SectionDesk$Outline", name := "put", desc := "(I)V" } : MethodName) prog_6_method_3_code (2 : Nat) (Option.none : Option FieldType)) ∈ GL := gl_of 967 (by decide +kernel) (by decide +kernel)
theorem gw_933 : (Cond.methodLink "SectionDesk$Tree" (68 : Nat) ({ cls := "SectionDesk$Tree", name := "parentOf", desc := "(I)I" } : MethodName)) ∈ GL := gl_of 973 (by decide +kernel) (by decide +kernel)
theorem gw_934 : (Cond.instanceMethod ({ cls := "SectionDesk$Tree", name := "parentOf", desc := "(I)I" } : MethodName)) ∈ GL := gl_of 974 (by decide +kernel) (by decide +kernel)
theorem gw_935 : (Cond.selects "SectionDesk$Tree" ({ cls := "SectionDesk$Tree", name := "parentOf", desc := "(I)I" } : MethodName) ({ cls := "SectionDesk$Tree", name := "parentOf", desc := "(I)I" } : MethodName)) ∈ GL := gl_of 975 (by decide +kernel) (by decide +kernel)
theorem gw_936 : (Cond.code ({ cls := "SectionDesk$Tree", name := "parentOf", desc := "(I)I" } : MethodName) prog_9_method_4_code (2 : Nat) (Option.some FieldType.int)) ∈ GL := gl_of 976 (by decide +kernel) (by decide +kernel)
theorem gw_1023 : (Cond.instanceMethod ({ cls := "SectionDesk$Desk", name := "countEdited", desc := "(I)I" } : MethodName)) ∈ GL := gl_of 1063 (by decide +kernel) (by decide +kernel)
theorem gw_1024 : (Cond.selects "SectionDesk$Desk" ({ cls := "SectionDesk$Desk", name := "countEdited", desc := "(I)I" } : MethodName) ({ cls := "SectionDesk$Desk", name := "countEdited", desc := "(I)I" } : MethodName)) ∈ GL := gl_of 1064 (by decide +kernel) (by decide +kernel)
theorem gw_1025 : (Cond.code ({ cls := "SectionDesk$Desk", name := "countEdited", desc := "(I)I" } : MethodName) prog_3_method_41_code (5 : Nat) (Option.some FieldType.int)) ∈ GL := gl_of 1065 (by decide +kernel) (by decide +kernel)
theorem gw_1059 : (Cond.constantFloat "SectionDesk" (348 : Nat) (1056964608 : UInt32)) ∈ GL := gl_of 1099 (by decide +kernel) (by decide +kernel)
theorem gw_1060 : (Cond.constantFloat "SectionDesk" (349 : Nat) (1258291200 : UInt32)) ∈ GL := gl_of 1100 (by decide +kernel) (by decide +kernel)
theorem gw_1076 : (Cond.methodLink "SectionDesk" (156 : Nat) ({ cls := "SectionDesk$Desk", name := "checkOutFault", desc := "(I)I" } : MethodName)) ∈ GL := gl_of 1116 (by decide +kernel) (by decide +kernel)
theorem gw_1077 : (Cond.instanceMethod ({ cls := "SectionDesk$Desk", name := "checkOutFault", desc := "(I)I" } : MethodName)) ∈ GL := gl_of 1117 (by decide +kernel) (by decide +kernel)
theorem gw_1078 : (Cond.selects "SectionDesk$Desk" ({ cls := "SectionDesk$Desk", name := "checkOutFault", desc := "(I)I" } : MethodName) ({ cls := "SectionDesk$Desk", name := "checkOutFault", desc := "(I)I" } : MethodName)) ∈ GL := gl_of 1118 (by decide +kernel) (by decide +kernel)
theorem gw_1079 : (Cond.code ({ cls := "SectionDesk$Desk", name := "checkOutFault", desc := "(I)I" } : MethodName) prog_3_method_33_code (2 : Nat) (Option.some FieldType.int)) ∈ GL := gl_of 1119 (by decide +kernel) (by decide +kernel)
theorem gw_1080 : (Cond.methodLink "SectionDesk" (159 : Nat) ({ cls := "SectionDesk$Desk", name := "discardNow", desc := "(I)I" } : MethodName)) ∈ GL := gl_of 1120 (by decide +kernel) (by decide +kernel)
theorem gw_1081 : (Cond.instanceMethod ({ cls := "SectionDesk$Desk", name := "discardNow", desc := "(I)I" } : MethodName)) ∈ GL := gl_of 1121 (by decide +kernel) (by decide +kernel)
theorem gw_1082 : (Cond.selects "SectionDesk$Desk" ({ cls := "SectionDesk$Desk", name := "discardNow", desc := "(I)I" } : MethodName) ({ cls := "SectionDesk$Desk", name := "discardNow", desc := "(I)I" } : MethodName)) ∈ GL := gl_of 1122 (by decide +kernel) (by decide +kernel)
theorem gw_1083 : (Cond.code ({ cls := "SectionDesk$Desk", name := "discardNow", desc := "(I)I" } : MethodName) prog_3_method_40_code (3 : Nat) (Option.some FieldType.int)) ∈ GL := gl_of 1123 (by decide +kernel) (by decide +kernel)
theorem gw_1084 : (Cond.methodLink "SectionDesk$Desk" (258 : Nat) ({ cls := "SectionDesk$Desk", name := "countEdited", desc := "(I)I" } : MethodName)) ∈ GL := gl_of 1124 (by decide +kernel) (by decide +kernel)
theorem gw_1093 : (Cond.methodLink "SectionDesk" (206 : Nat) ({ cls := "SectionDesk$Desk", name := "copyFrom", desc := "(LSectionDesk$Desk;)V" } : MethodName)) ∈ GL := gl_of 1133 (by decide +kernel) (by decide +kernel)
theorem gw_1188 : (Cond.methodLink "SectionDesk" (277 : Nat) ({ cls := "SectionDesk$OrderText", name := "parse", desc := "()I" } : MethodName)) ∈ GL := gl_of 1228 (by decide +kernel) (by decide +kernel)
theorem gw_1189 : (Cond.instanceMethod ({ cls := "SectionDesk$OrderText", name := "parse", desc := "()I" } : MethodName)) ∈ GL := gl_of 1229 (by decide +kernel) (by decide +kernel)
theorem gw_1190 : (Cond.selects "SectionDesk$OrderText" ({ cls := "SectionDesk$OrderText", name := "parse", desc := "()I" } : MethodName) ({ cls := "SectionDesk$OrderText", name := "parse", desc := "()I" } : MethodName)) ∈ GL := gl_of 1230 (by decide +kernel) (by decide +kernel)
theorem gw_1191 : (Cond.code ({ cls := "SectionDesk$OrderText", name := "parse", desc := "()I" } : MethodName) prog_5_method_3_code (2 : Nat) (Option.some FieldType.int)) ∈ GL := gl_of 1231 (by decide +kernel) (by decide +kernel)
theorem gw_1192 : (Cond.methodLink "SectionDesk$OrderText" (35 : Nat) ({ cls := "SectionDesk$OrderText", name := "takes", desc := "(I)Z" } : MethodName)) ∈ GL := gl_of 1232 (by decide +kernel) (by decide +kernel)
theorem gw_1194 : (Cond.instanceMethod ({ cls := "SectionDesk$OrderText", name := "takes", desc := "(I)Z" } : MethodName)) ∈ GL := gl_of 1234 (by decide +kernel) (by decide +kernel)
theorem gw_1195 : (Cond.code ({ cls := "SectionDesk$OrderText", name := "takes", desc := "(I)Z" } : MethodName) prog_5_method_4_code (2 : Nat) (Option.some FieldType.boolean)) ∈ GL := gl_of 1235 (by decide +kernel) (by decide +kernel)
theorem gw_1196 : (Cond.methodLink "SectionDesk$OrderText" (39 : Nat) ({ cls := "SectionDesk$OrderText", name := "takesLetter", desc := "(I)Z" } : MethodName)) ∈ GL := gl_of 1236 (by decide +kernel) (by decide +kernel)
theorem gw_1198 : (Cond.instanceMethod ({ cls := "SectionDesk$OrderText", name := "takesLetter", desc := "(I)Z" } : MethodName)) ∈ GL := gl_of 1238 (by decide +kernel) (by decide +kernel)
theorem gw_1199 : (Cond.code ({ cls := "SectionDesk$OrderText", name := "takesLetter", desc := "(I)Z" } : MethodName) prog_5_method_5_code (2 : Nat) (Option.some FieldType.boolean)) ∈ GL := gl_of 1239 (by decide +kernel) (by decide +kernel)
theorem gw_1200 : (Cond.methodLink "SectionDesk$OrderText" (51 : Nat) ({ cls := "SectionDesk$OrderText", name := "numbersAfter", desc := "(I)I" } : MethodName)) ∈ GL := gl_of 1240 (by decide +kernel) (by decide +kernel)
theorem gw_1201 : (Cond.static ({ cls := "SectionDesk$OrderText", name := "numbersAfter", desc := "(I)I" } : MethodName)) ∈ GL := gl_of 1241 (by decide +kernel) (by decide +kernel)
theorem gw_1202 : (Cond.code ({ cls := "SectionDesk$OrderText", name := "numbersAfter", desc := "(I)I" } : MethodName) prog_5_method_6_code (1 : Nat) (Option.some FieldType.int)) ∈ GL := gl_of 1242 (by decide +kernel) (by decide +kernel)
theorem gw_1203 : (Cond.methodLink "SectionDesk$OrderText" (42 : Nat) ({ cls := "SectionDesk$OrderText", name := "takesSpace", desc := "(I)Z" } : MethodName)) ∈ GL := gl_of 1243 (by decide +kernel) (by decide +kernel)
theorem gw_1205 : (Cond.instanceMethod ({ cls := "SectionDesk$OrderText", name := "takesSpace", desc := "(I)Z" } : MethodName)) ∈ GL := gl_of 1245 (by decide +kernel) (by decide +kernel)
theorem gw_1206 : (Cond.code ({ cls := "SectionDesk$OrderText", name := "takesSpace", desc := "(I)Z" } : MethodName) prog_5_method_7_code (2 : Nat) (Option.some FieldType.boolean)) ∈ GL := gl_of 1246 (by decide +kernel) (by decide +kernel)
theorem gw_1207 : (Cond.methodLink "SectionDesk$OrderText" (58 : Nat) ({ cls := "SectionDesk$OrderText", name := "setNumber", desc := "(III)V" } : MethodName)) ∈ GL := gl_of 1247 (by decide +kernel) (by decide +kernel)
theorem gw_1209 : (Cond.instanceMethod ({ cls := "SectionDesk$OrderText", name := "setNumber", desc := "(III)V" } : MethodName)) ∈ GL := gl_of 1249 (by decide +kernel) (by decide +kernel)
theorem gw_1210 : (Cond.code ({ cls := "SectionDesk$OrderText", name := "setNumber", desc := "(III)V" } : MethodName) prog_5_method_12_code (4 : Nat) (Option.none : Option FieldType)) ∈ GL := gl_of 1250 (by decide +kernel) (by decide +kernel)
theorem gw_1211 : (Cond.methodLink "SectionDesk$OrderText" (45 : Nat) ({ cls := "SectionDesk$OrderText", name := "takesDigit", desc := "(I)Z" } : MethodName)) ∈ GL := gl_of 1251 (by decide +kernel) (by decide +kernel)
theorem gw_1213 : (Cond.instanceMethod ({ cls := "SectionDesk$OrderText", name := "takesDigit", desc := "(I)Z" } : MethodName)) ∈ GL := gl_of 1253 (by decide +kernel) (by decide +kernel)
theorem gw_1214 : (Cond.code ({ cls := "SectionDesk$OrderText", name := "takesDigit", desc := "(I)Z" } : MethodName) prog_5_method_8_code (2 : Nat) (Option.some FieldType.boolean)) ∈ GL := gl_of 1254 (by decide +kernel) (by decide +kernel)
theorem gw_1215 : (Cond.methodLink "SectionDesk$OrderText" (65 : Nat) ({ cls := "SectionDesk$OrderText", name := "numberOf", desc := "(II)I" } : MethodName)) ∈ GL := gl_of 1255 (by decide +kernel) (by decide +kernel)
theorem gw_1216 : (Cond.instanceMethod ({ cls := "SectionDesk$OrderText", name := "numberOf", desc := "(II)I" } : MethodName)) ∈ GL := gl_of 1256 (by decide +kernel) (by decide +kernel)
theorem gw_1217 : (Cond.selects "SectionDesk$OrderText" ({ cls := "SectionDesk$OrderText", name := "numberOf", desc := "(II)I" } : MethodName) ({ cls := "SectionDesk$OrderText", name := "numberOf", desc := "(II)I" } : MethodName)) ∈ GL := gl_of 1257 (by decide +kernel) (by decide +kernel)
theorem gw_1218 : (Cond.code ({ cls := "SectionDesk$OrderText", name := "numberOf", desc := "(II)I" } : MethodName) prog_5_method_11_code (4 : Nat) (Option.some FieldType.int)) ∈ GL := gl_of 1258 (by decide +kernel) (by decide +kernel)
theorem gw_1219 : (Cond.methodLink "SectionDesk$OrderText" (48 : Nat) ({ cls := "SectionDesk$OrderText", name := "takesInNumber", desc := "(I)Z" } : MethodName)) ∈ GL := gl_of 1259 (by decide +kernel) (by decide +kernel)
theorem gw_1221 : (Cond.instanceMethod ({ cls := "SectionDesk$OrderText", name := "takesInNumber", desc := "(I)Z" } : MethodName)) ∈ GL := gl_of 1261 (by decide +kernel) (by decide +kernel)
theorem gw_1222 : (Cond.code ({ cls := "SectionDesk$OrderText", name := "takesInNumber", desc := "(I)Z" } : MethodName) prog_5_method_9_code (3 : Nat) (Option.some FieldType.boolean)) ∈ GL := gl_of 1262 (by decide +kernel) (by decide +kernel)
theorem gw_1223 : (Cond.methodLink "SectionDesk$OrderText" (69 : Nat) ({ cls := "SectionDesk$OrderText", name := "letterOf", desc := "(I)I" } : MethodName)) ∈ GL := gl_of 1263 (by decide +kernel) (by decide +kernel)
theorem gw_1224 : (Cond.instanceMethod ({ cls := "SectionDesk$OrderText", name := "letterOf", desc := "(I)I" } : MethodName)) ∈ GL := gl_of 1264 (by decide +kernel) (by decide +kernel)
theorem gw_1225 : (Cond.selects "SectionDesk$OrderText" ({ cls := "SectionDesk$OrderText", name := "letterOf", desc := "(I)I" } : MethodName) ({ cls := "SectionDesk$OrderText", name := "letterOf", desc := "(I)I" } : MethodName)) ∈ GL := gl_of 1265 (by decide +kernel) (by decide +kernel)
theorem gw_1226 : (Cond.code ({ cls := "SectionDesk$OrderText", name := "letterOf", desc := "(I)I" } : MethodName) prog_5_method_10_code (2 : Nat) (Option.some FieldType.int)) ∈ GL := gl_of 1266 (by decide +kernel) (by decide +kernel)
theorem gw_1227 : (Cond.methodLink "SectionDesk" (283 : Nat) ({ cls := "SectionDesk", name := "runOrder", desc := "(I)Z" } : MethodName)) ∈ GL := gl_of 1267 (by decide +kernel) (by decide +kernel)
theorem gw_1229 : (Cond.instanceMethod ({ cls := "SectionDesk", name := "runOrder", desc := "(I)Z" } : MethodName)) ∈ GL := gl_of 1269 (by decide +kernel) (by decide +kernel)
theorem gw_1230 : (Cond.code ({ cls := "SectionDesk", name := "runOrder", desc := "(I)Z" } : MethodName) prog_1_method_39_code (7 : Nat) (Option.some FieldType.boolean)) ∈ GL := gl_of 1270 (by decide +kernel) (by decide +kernel)
theorem gw_1231 : (Cond.methodLink "SectionDesk" (308 : Nat) ({ cls := "SectionDesk$OrderText", name := "numberOf", desc := "(II)I" } : MethodName)) ∈ GL := gl_of 1271 (by decide +kernel) (by decide +kernel)
theorem gw_1232 : (Cond.methodLink "SectionDesk" (311 : Nat) ({ cls := "SectionDesk$OrderText", name := "letterOf", desc := "(I)I" } : MethodName)) ∈ GL := gl_of 1272 (by decide +kernel) (by decide +kernel)
theorem gw_1233 : (Cond.methodLink "SectionDesk" (314 : Nat) ({ cls := "SectionDesk", name := "orderFault", desc := "(IIIII)I" } : MethodName)) ∈ GL := gl_of 1273 (by decide +kernel) (by decide +kernel)
theorem gw_1235 : (Cond.instanceMethod ({ cls := "SectionDesk", name := "orderFault", desc := "(IIIII)I" } : MethodName)) ∈ GL := gl_of 1275 (by decide +kernel) (by decide +kernel)
theorem gw_1236 : (Cond.code ({ cls := "SectionDesk", name := "orderFault", desc := "(IIIII)I" } : MethodName) prog_1_method_40_code (6 : Nat) (Option.some FieldType.int)) ∈ GL := gl_of 1276 (by decide +kernel) (by decide +kernel)
theorem fw_X0_11 : fldw RX0 11 0 0 "facts" "" := ⟨RX0, TX0, 4, rfl, by decide, inX0, rfl, rfl, Or.inl gw_75⟩
theorem fw_X0_15 : fldw RX0 15 0 1 "bases" "" := ⟨RX0, TX0, 4, rfl, by decide, inX0, rfl, rfl, Or.inl gw_76⟩
theorem fw_X0_18 : fldw RX0 18 0 2 "owns" "" := ⟨RX0, TX0, 4, rfl, by decide, inX0, rfl, rfl, Or.inl gw_77⟩
theorem fw_X0_25 : fldw RX0 25 0 3 "used" "" := ⟨RX0, TX0, 4, rfl, by decide, inX0, rfl, rfl, Or.inl gw_78⟩
theorem fw_X1_12 : fldw RX1 12 1 0 "tree" "" := ⟨RX1, TX1, 7, rfl, by decide, inX1, rfl, rfl, Or.inl gw_120⟩
theorem fw_X1_21 : fldw RX1 21 1 1 "outs" "" := ⟨RX1, TX1, 7, rfl, by decide, inX1, rfl, rfl, Or.inl gw_122⟩
theorem fw_X1_28 : fldw RX1 28 1 2 "queue" "" := ⟨RX1, TX1, 7, rfl, by decide, inX1, rfl, rfl, Or.inl gw_124⟩
theorem fw_X1_35 : fldw RX1 35 1 3 "history" "" := ⟨RX1, TX1, 7, rfl, by decide, inX1, rfl, rfl, Or.inl gw_126⟩
theorem fw_X1_39 : fldw RX1 39 1 4 "heldTicks" "" := ⟨RX1, TX1, 7, rfl, by decide, inX1, rfl, rfl, Or.inl gw_128⟩
theorem fw_X1_43 : fldw RX1 43 1 5 "wanted" "" := ⟨RX1, TX1, 7, rfl, by decide, inX1, rfl, rfl, Or.inl gw_129⟩
theorem fw_X1_63 : fldw RX1 63 1 6 "tick" "" := ⟨RX1, TX1, 7, rfl, by decide, inX1, rfl, rfl, Or.inl gw_130⟩
theorem fw_X1_88 : fldw RX1 88 7 6 "size" "SectionDesk" := ⟨RX7, TX7, 7, rfl, by decide, inX7, rfl, rfl, Or.inr nw_3⟩
theorem fw_X1_147 : fldw RX1 147 7 3 "values" "SectionDesk" := ⟨RX7, TX7, 7, rfl, by decide, inX7, rfl, rfl, Or.inr nw_1⟩
theorem fw_X1_203 : fldw RX1 203 5 1 "count" "SectionDesk" := ⟨RX5, TX5, 2, rfl, by decide, inX5, rfl, rfl, Or.inr nw_6⟩
theorem fw_X2_11 : fldw RX2 11 2 0 "facts" "" := ⟨RX2, TX2, 3, rfl, by decide, inX2, rfl, rfl, Or.inl gw_109⟩
theorem fw_X2_19 : fldw RX2 19 2 1 "first" "" := ⟨RX2, TX2, 3, rfl, by decide, inX2, rfl, rfl, Or.inl gw_110⟩
theorem fw_X2_23 : fldw RX2 23 2 2 "count" "" := ⟨RX2, TX2, 3, rfl, by decide, inX2, rfl, rfl, Or.inl gw_111⟩
theorem fw_X3_9 : fldw RX3 9 3 0 "bytes" "" := ⟨RX3, TX3, 8, rfl, by decide, inX3, rfl, rfl, Or.inl gw_170⟩
theorem fw_X3_15 : fldw RX3 15 3 2 "letters" "" := ⟨RX3, TX3, 8, rfl, by decide, inX3, rfl, rfl, Or.inl gw_173⟩
theorem fw_X3_18 : fldw RX3 18 3 3 "numbers" "" := ⟨RX3, TX3, 8, rfl, by decide, inX3, rfl, rfl, Or.inl gw_174⟩
theorem fw_X3_21 : fldw RX3 21 3 1 "length" "" := ⟨RX3, TX3, 8, rfl, by decide, inX3, rfl, rfl, Or.inl gw_171⟩
theorem fw_X3_29 : fldw RX3 29 3 4 "orders" "" := ⟨RX3, TX3, 8, rfl, by decide, inX3, rfl, rfl, Or.inl gw_175⟩
theorem fw_X3_32 : fldw RX3 32 3 5 "state" "" := ⟨RX3, TX3, 8, rfl, by decide, inX3, rfl, rfl, Or.inl gw_177⟩
theorem fw_X3_55 : fldw RX3 55 3 6 "read" "" := ⟨RX3, TX3, 8, rfl, by decide, inX3, rfl, rfl, Or.inl gw_178⟩
theorem fw_X3_62 : fldw RX3 62 3 7 "digits" "" := ⟨RX3, TX3, 8, rfl, by decide, inX3, rfl, rfl, Or.inl gw_179⟩
theorem fw_X4_9 : fldw RX4 9 4 0 "bytes" "" := ⟨RX4, TX4, 2, rfl, by decide, inX4, rfl, rfl, Or.inl gw_203⟩
theorem fw_X4_15 : fldw RX4 15 4 1 "length" "" := ⟨RX4, TX4, 2, rfl, by decide, inX4, rfl, rfl, Or.inl gw_204⟩
theorem fw_X5_11 : fldw RX5 11 5 0 "facts" "" := ⟨RX5, TX5, 2, rfl, by decide, inX5, rfl, rfl, Or.inl gw_94⟩
theorem fw_X5_19 : fldw RX5 19 5 1 "count" "" := ⟨RX5, TX5, 2, rfl, by decide, inX5, rfl, rfl, Or.inl gw_95⟩
theorem fw_X6_11 : fldw RX6 11 6 0 "states" "" := ⟨RX6, TX6, 2, rfl, by decide, inX6, rfl, rfl, Or.inl gw_156⟩
theorem fw_X6_18 : fldw RX6 18 6 1 "count" "" := ⟨RX6, TX6, 2, rfl, by decide, inX6, rfl, rfl, Or.inl gw_157⟩
theorem fw_X7_9 : fldw RX7 9 7 0 "parents" "" := ⟨RX7, TX7, 7, rfl, by decide, inX7, rfl, rfl, Or.inl gw_43⟩
theorem fw_X7_15 : fldw RX7 15 7 1 "sequence" "" := ⟨RX7, TX7, 7, rfl, by decide, inX7, rfl, rfl, Or.inl gw_44⟩
theorem fw_X7_18 : fldw RX7 18 7 2 "versions" "" := ⟨RX7, TX7, 7, rfl, by decide, inX7, rfl, rfl, Or.inl gw_45⟩
theorem fw_X7_21 : fldw RX7 21 7 3 "values" "" := ⟨RX7, TX7, 7, rfl, by decide, inX7, rfl, rfl, Or.inl gw_46⟩
theorem fw_X7_24 : fldw RX7 24 7 4 "subtrees" "" := ⟨RX7, TX7, 7, rfl, by decide, inX7, rfl, rfl, Or.inl gw_48⟩
theorem fw_X7_27 : fldw RX7 27 7 5 "lineages" "" := ⟨RX7, TX7, 7, rfl, by decide, inX7, rfl, rfl, Or.inl gw_49⟩
theorem fw_X7_36 : fldw RX7 36 7 6 "size" "" := ⟨RX7, TX7, 7, rfl, by decide, inX7, rfl, rfl, Or.inl gw_50⟩
theorem fw_X8_12 : fldw RX8 12 8 0 "desk" "" := ⟨RX8, TX8, 5, rfl, by decide, inX8, rfl, rfl, Or.inl gw_211⟩
theorem fw_X8_16 : fldw RX8 16 8 1 "trial" "" := ⟨RX8, TX8, 5, rfl, by decide, inX8, rfl, rfl, Or.inl gw_212⟩
theorem fw_X8_22 : fldw RX8 22 8 2 "saved" "" := ⟨RX8, TX8, 5, rfl, by decide, inX8, rfl, rfl, Or.inl gw_213⟩
theorem fw_X8_29 : fldw RX8 29 8 3 "text" "" := ⟨RX8, TX8, 5, rfl, by decide, inX8, rfl, rfl, Or.inl gw_214⟩
theorem fw_X8_52 : fldw RX8 52 1 0 "tree" "SectionDesk" := ⟨RX1, TX1, 7, rfl, by decide, inX1, rfl, rfl, Or.inr nw_10⟩
theorem fw_X8_78 : fldw RX8 78 7 6 "size" "SectionDesk" := ⟨RX7, TX7, 7, rfl, by decide, inX7, rfl, rfl, Or.inr nw_2⟩
theorem fw_X8_219 : fldw RX8 219 1 2 "queue" "SectionDesk" := ⟨RX1, TX1, 7, rfl, by decide, inX1, rfl, rfl, Or.inr nw_12⟩
theorem fw_X8_234 : fldw RX8 234 1 3 "history" "SectionDesk" := ⟨RX1, TX1, 7, rfl, by decide, inX1, rfl, rfl, Or.inr nw_13⟩
theorem fw_X8_238 : fldw RX8 238 2 2 "count" "SectionDesk" := ⟨RX2, TX2, 3, rfl, by decide, inX2, rfl, rfl, Or.inr nw_9⟩
theorem fw_X8_256 : fldw RX8 256 5 1 "count" "SectionDesk" := ⟨RX5, TX5, 2, rfl, by decide, inX5, rfl, rfl, Or.inr nw_7⟩
theorem fw_X8_271 : fldw RX8 271 3 1 "length" "SectionDesk" := ⟨RX3, TX3, 8, rfl, by decide, inX3, rfl, rfl, Or.inr nw_18⟩
theorem fw_X8_280 : fldw RX8 280 3 4 "orders" "SectionDesk" := ⟨RX3, TX3, 8, rfl, by decide, inX3, rfl, rfl, Or.inr nw_19⟩
theorem flp_0_3 : flpw 0 3 := ⟨RX0, TX0, 4, tyX0, rfl, tyX0_ok, nmX0, rfl, by decide +kernel⟩
theorem flp_1_6 : flpw 1 6 := ⟨RX1, TX1, 7, tyX1, rfl, tyX1_ok, nmX1, rfl, by decide +kernel⟩
theorem flp_2_1 : flpw 2 1 := ⟨RX2, TX2, 3, tyX2, rfl, tyX2_ok, nmX2, rfl, by decide +kernel⟩
theorem flp_2_2 : flpw 2 2 := ⟨RX2, TX2, 3, tyX2, rfl, tyX2_ok, nmX2, rfl, by decide +kernel⟩
theorem flp_3_1 : flpw 3 1 := ⟨RX3, TX3, 8, tyX3, rfl, tyX3_ok, nmX3, rfl, by decide +kernel⟩
theorem flp_3_4 : flpw 3 4 := ⟨RX3, TX3, 8, tyX3, rfl, tyX3_ok, nmX3, rfl, by decide +kernel⟩
theorem flp_3_5 : flpw 3 5 := ⟨RX3, TX3, 8, tyX3, rfl, tyX3_ok, nmX3, rfl, by decide +kernel⟩
theorem flp_3_6 : flpw 3 6 := ⟨RX3, TX3, 8, tyX3, rfl, tyX3_ok, nmX3, rfl, by decide +kernel⟩
theorem flp_3_7 : flpw 3 7 := ⟨RX3, TX3, 8, tyX3, rfl, tyX3_ok, nmX3, rfl, by decide +kernel⟩
theorem flp_4_1 : flpw 4 1 := ⟨RX4, TX4, 2, tyX4, rfl, tyX4_ok, nmX4, rfl, by decide +kernel⟩
theorem flp_5_1 : flpw 5 1 := ⟨RX5, TX5, 2, tyX5, rfl, tyX5_ok, nmX5, rfl, by decide +kernel⟩
theorem flp_6_1 : flpw 6 1 := ⟨RX6, TX6, 2, tyX6, rfl, tyX6_ok, nmX6, rfl, by decide +kernel⟩
theorem flp_7_6 : flpw 7 6 := ⟨RX7, TX7, 7, tyX7, rfl, tyX7_ok, nmX7, rfl, by decide +kernel⟩
theorem kd_J6_bitCount_0f7a4 : cwd yJ6_bitCount_0f7a4 cJ6_bitCount_0f7a4 1 (some .int) 1 := ⟨gw_19, gw_518, by decide +kernel, by decide +kernel, by decide +kernel⟩
theorem kd_J7_fill_53178 : cwd yJ7_fill_53178 cJ7_fill_53178 4 none 2 := ⟨gw_4, gw_42, by decide +kernel, by decide +kernel, by decide +kernel⟩
theorem kd_X0_baseAt : cwd yX0_baseAt cX0_baseAt 4 (some .int) 2 := ⟨gw_5, gw_684, by decide +kernel, by decide +kernel, by decide +kernel⟩
theorem kv_X0_baseAt : cwv yX0_baseAt := ⟨gw_682, gw_683⟩
theorem kd_X0_close : cwd yX0_close cX0_close 2 none 1 := ⟨gw_5, gw_782, by decide +kernel, by decide +kernel, by decide +kernel⟩
theorem kv_X0_close : cwv yX0_close := ⟨gw_780, gw_781⟩
theorem kd_X0_closeAll : cwd yX0_closeAll cX0_closeAll 2 none 1 := ⟨gw_5, gw_705, by decide +kernel, by decide +kernel, by decide +kernel⟩
theorem kv_X0_closeAll : cwv yX0_closeAll := ⟨gw_703, gw_704⟩
theorem kd_X0_copyDocument : cwd yX0_copyDocument cX0_copyDocument 5 none 3 := ⟨gw_5, gw_700, by decide +kernel, by decide +kernel, by decide +kernel⟩
theorem kv_X0_copyDocument : cwv yX0_copyDocument := ⟨gw_698, gw_699⟩
theorem kd_X0_copyFrom : cwd yX0_copyFrom cX0_copyFrom 2 none 1 := ⟨gw_5, gw_422, by decide +kernel, by decide +kernel, by decide +kernel⟩
theorem kv_X0_copyFrom : cwv yX0_copyFrom := ⟨gw_420, gw_421⟩
theorem kd_X0_copyOther : cwd yX0_copyOther cX0_copyOther 5 none 3 := ⟨gw_5, gw_680, by decide +kernel, by decide +kernel, by decide +kernel⟩
theorem kv_X0_copyOther : cwv yX0_copyOther := ⟨gw_678, gw_679⟩
theorem kd_X0_countWithout : cwd yX0_countWithout cX0_countWithout 2 (some .int) 1 := ⟨gw_5, gw_654, by decide +kernel, by decide +kernel, by decide +kernel⟩
theorem kv_X0_countWithout : cwv yX0_countWithout := ⟨gw_652, gw_653⟩
theorem kd_X0_fact : cwd yX0_fact cX0_fact 4 (some .int) 2 := ⟨gw_5, gw_275, by decide +kernel, by decide +kernel, by decide +kernel⟩
theorem kv_X0_fact : cwv yX0_fact := ⟨gw_273, gw_274⟩
theorem kd_X0_has : cwd yX0_has cX0_has 2 (some .boolean) 1 := ⟨gw_5, gw_267, by decide +kernel, by decide +kernel, by decide +kernel⟩
theorem kv_X0_has : cwv yX0_has := ⟨gw_265, gw_266⟩
theorem kd_X0_isHeld : cwd yX0_isHeld cX0_isHeld 2 (some .boolean) 1 := ⟨gw_5, gw_271, by decide +kernel, by decide +kernel, by decide +kernel⟩
theorem kv_X0_isHeld : cwv yX0_isHeld := ⟨gw_269, gw_270⟩
theorem kd_X0_isShared : cwd yX0_isShared cX0_isShared 2 (some .boolean) 1 := ⟨gw_5, gw_663, by decide +kernel, by decide +kernel, by decide +kernel⟩
theorem kv_X0_isShared : cwv yX0_isShared := ⟨gw_661, gw_662⟩
theorem kd_X0_lose : cwd yX0_lose cX0_lose 2 none 1 := ⟨gw_5, gw_777, by decide +kernel, by decide +kernel, by decide +kernel⟩
theorem kv_X0_lose : cwv yX0_lose := ⟨gw_775, gw_776⟩
theorem kd_X0_lowestFree : cwd yX0_lowestFree cX0_lowestFree 3 (some .int) 1 := ⟨gw_5, gw_671, by decide +kernel, by decide +kernel, by decide +kernel⟩
theorem kv_X0_lowestFree : cwv yX0_lowestFree := ⟨gw_669, gw_670⟩
theorem kd_X0_open : cwd yX0_open cX0_open 6 none 5 := ⟨gw_5, gw_709, by decide +kernel, by decide +kernel, by decide +kernel⟩
theorem kv_X0_open : cwv yX0_open := ⟨gw_707, gw_708⟩
theorem kd_X0_ownAt : cwd yX0_ownAt cX0_ownAt 4 (some .int) 2 := ⟨gw_5, gw_692, by decide +kernel, by decide +kernel, by decide +kernel⟩
theorem kv_X0_ownAt : cwv yX0_ownAt := ⟨gw_690, gw_691⟩
theorem kd_X0_setBase : cwd yX0_setBase cX0_setBase 4 none 3 := ⟨gw_5, gw_688, by decide +kernel, by decide +kernel, by decide +kernel⟩
theorem kv_X0_setBase : cwv yX0_setBase := ⟨gw_687, gs_20⟩
theorem kd_X0_setExpiry : cwd yX0_setExpiry cX0_setExpiry 3 none 2 := ⟨gw_5, gw_758, by decide +kernel, by decide +kernel, by decide +kernel⟩
theorem kv_X0_setExpiry : cwv yX0_setExpiry := ⟨gw_756, gw_757⟩
theorem kd_X0_setFact : cwd yX0_setFact cX0_setFact 4 none 3 := ⟨gw_5, gw_714, by decide +kernel, by decide +kernel, by decide +kernel⟩
theorem kv_X0_setFact : cwv yX0_setFact := ⟨gw_713, gs_21⟩
theorem kd_X0_setOwn : cwd yX0_setOwn cX0_setOwn 4 none 3 := ⟨gw_5, gw_696, by decide +kernel, by decide +kernel, by decide +kernel⟩
theorem kv_X0_setOwn : cwv yX0_setOwn := ⟨gw_694, gw_695⟩
theorem kd_X0_tops : cwd yX0_tops cX0_tops 4 (some .int) 1 := ⟨gw_5, gw_263, by decide +kernel, by decide +kernel, by decide +kernel⟩
theorem kv_X0_tops : cwv yX0_tops := ⟨gw_261, gw_262⟩
theorem kd_X1_absorbedBy : cwd yX1_absorbedBy cX1_absorbedBy 6 (some .int) 1 := ⟨gw_2, gw_649, by decide +kernel, by decide +kernel, by decide +kernel⟩
theorem kv_X1_absorbedBy : cwv yX1_absorbedBy := ⟨gw_648, gs_16⟩
theorem kd_X1_blockersOf : cwd yX1_blockersOf cX1_blockersOf 6 (some .int) 1 := ⟨gw_2, gw_667, by decide +kernel, by decide +kernel, by decide +kernel⟩
theorem kv_X1_blockersOf : cwv yX1_blockersOf := ⟨gw_666, gs_18⟩
theorem kd_X1_breakFault : cwd yX1_breakFault cX1_breakFault 2 (some .int) 1 := ⟨gw_2, gw_769, by decide +kernel, by decide +kernel, by decide +kernel⟩
theorem kv_X1_breakFault : cwv yX1_breakFault := ⟨gw_767, gw_768⟩
theorem kd_X1_breakNow : cwd yX1_breakNow cX1_breakNow 3 (some .int) 1 := ⟨gw_2, gw_773, by decide +kernel, by decide +kernel, by decide +kernel⟩
theorem kv_X1_breakNow : cwv yX1_breakNow := ⟨gw_771, gw_772⟩
theorem kd_X1_changeCell : cwd yX1_changeCell cX1_changeCell 3 (some .int) 2 := ⟨gw_2, gw_590, by decide +kernel, by decide +kernel, by decide +kernel⟩
theorem kv_X1_changeCell : cwv yX1_changeCell := ⟨gw_589, gs_12⟩
theorem kd_X1_changeToWanted : cwd yX1_changeToWanted cX1_changeToWanted 6 (some .int) 1 := ⟨gw_2, gw_586, by decide +kernel, by decide +kernel, by decide +kernel⟩
theorem kv_X1_changeToWanted : cwv yX1_changeToWanted := ⟨gw_585, gs_11⟩
theorem kd_X1_checkOutFault : cwd yX1_checkOutFault cX1_checkOutFault 2 (some .int) 1 := ⟨gw_2, gw_1079, by decide +kernel, by decide +kernel, by decide +kernel⟩
theorem kv_X1_checkOutFault : cwv yX1_checkOutFault := ⟨gw_1077, gw_1078⟩
theorem kd_X1_claims : cwd yX1_claims cX1_claims 1 (some .int) 0 := ⟨gw_2, gw_259, by decide +kernel, by decide +kernel, by decide +kernel⟩
theorem kv_X1_claims : cwv yX1_claims := ⟨gw_258, gs_1⟩
theorem kd_X1_copyFrom : cwd yX1_copyFrom cX1_copyFrom 2 none 1 := ⟨gw_2, gw_405, by decide +kernel, by decide +kernel, by decide +kernel⟩
theorem kv_X1_copyFrom : cwv yX1_copyFrom := ⟨gw_403, gw_404⟩
theorem kd_X1_countConflicts : cwd yX1_countConflicts cX1_countConflicts 5 (some .int) 1 := ⟨gw_2, gw_826, by decide +kernel, by decide +kernel, by decide +kernel⟩
theorem kv_X1_countConflicts : cwv yX1_countConflicts := ⟨gw_824, gw_825⟩
theorem kd_X1_countEdited : cwd yX1_countEdited cX1_countEdited 5 (some .int) 1 := ⟨gw_2, gw_1025, by decide +kernel, by decide +kernel, by decide +kernel⟩
theorem kv_X1_countEdited : cwv yX1_countEdited := ⟨gw_1023, gw_1024⟩
theorem kd_X1_countUse : cwd yX1_countUse cX1_countUse 4 none 1 := ⟨gw_2, gw_904, by decide +kernel, by decide +kernel, by decide +kernel⟩
theorem kv_X1_countUse : cwv yX1_countUse := ⟨gw_903, gs_28⟩
theorem kd_X1_discardNow : cwd yX1_discardNow cX1_discardNow 3 (some .int) 1 := ⟨gw_2, gw_1083, by decide +kernel, by decide +kernel, by decide +kernel⟩
theorem kv_X1_discardNow : cwv yX1_discardNow := ⟨gw_1081, gw_1082⟩
theorem kd_X1_editFault : cwd yX1_editFault cX1_editFault 5 (some .int) 4 := ⟨gw_2, gw_793, by decide +kernel, by decide +kernel, by decide +kernel⟩
theorem kv_X1_editFault : cwv yX1_editFault := ⟨gw_791, gw_792⟩
theorem kd_X1_editNow : cwd yX1_editNow cX1_editNow 7 (some .int) 4 := ⟨gw_2, gw_805, by decide +kernel, by decide +kernel, by decide +kernel⟩
theorem kv_X1_editNow : cwv yX1_editNow := ⟨gw_803, gw_804⟩
theorem kd_X1_giveBackFault : cwd yX1_giveBackFault cX1_giveBackFault 4 (some .int) 2 := ⟨gw_2, gw_818, by decide +kernel, by decide +kernel, by decide +kernel⟩
theorem kv_X1_giveBackFault : cwv yX1_giveBackFault := ⟨gw_816, gw_817⟩
theorem kd_X1_giveBackNow : cwd yX1_giveBackNow cX1_giveBackNow 4 (some .int) 2 := ⟨gw_2, gw_835, by decide +kernel, by decide +kernel, by decide +kernel⟩
theorem kv_X1_giveBackNow : cwv yX1_giveBackNow := ⟨gw_833, gw_834⟩
theorem kd_X1_hasCopy : cwd yX1_hasCopy cX1_hasCopy 4 (some .boolean) 3 := ⟨gw_2, gw_797, by decide +kernel, by decide +kernel, by decide +kernel⟩
theorem kv_X1_hasCopy : cwv yX1_hasCopy := ⟨gw_795, gw_796⟩
theorem kd_X1_hasLine : cwd yX1_hasLine cX1_hasLine 3 (some .boolean) 2 := ⟨gw_2, gw_560, by decide +kernel, by decide +kernel, by decide +kernel⟩
theorem kv_X1_hasLine : cwv yX1_hasLine := ⟨gw_558, gw_559⟩
theorem kd_X1_hinderersOf : cwd yX1_hinderersOf cX1_hinderersOf 7 (some .int) 2 := ⟨gw_2, gw_659, by decide +kernel, by decide +kernel, by decide +kernel⟩
theorem kv_X1_hinderersOf : cwv yX1_hinderersOf := ⟨gw_658, gs_17⟩
theorem kd_X1_holdsAround : cwd yX1_holdsAround cX1_holdsAround 6 (some .boolean) 3 := ⟨gw_2, gw_614, by decide +kernel, by decide +kernel, by decide +kernel⟩
theorem kv_X1_holdsAround : cwv yX1_holdsAround := ⟨gw_613, gs_13⟩
theorem kd_X1_isConflict : cwd yX1_isConflict cX1_isConflict 6 (some .boolean) 2 := ⟨gw_2, gw_830, by decide +kernel, by decide +kernel, by decide +kernel⟩
theorem kv_X1_isConflict : cwv yX1_isConflict := ⟨gw_829, gs_24⟩
theorem kd_X1_isCovered : cwd yX1_isCovered cX1_isCovered 2 (some .boolean) 1 := ⟨gw_2, gw_255, by decide +kernel, by decide +kernel, by decide +kernel⟩
theorem kv_X1_isCovered : cwv yX1_isCovered := ⟨gw_254, gs_0⟩
theorem kd_X1_isHeldAround : cwd yX1_isHeldAround cX1_isHeldAround 2 (some .boolean) 1 := ⟨gw_2, gw_822, by decide +kernel, by decide +kernel, by decide +kernel⟩
theorem kv_X1_isHeldAround : cwv yX1_isHeldAround := ⟨gw_821, gs_23⟩
theorem kd_X1_isTouched : cwd yX1_isTouched cX1_isTouched 2 (some .boolean) 1 := ⟨gw_2, gw_477, by decide +kernel, by decide +kernel, by decide +kernel⟩
theorem kv_X1_isTouched : cwv yX1_isTouched := ⟨gw_476, gs_6⟩
theorem kd_X1_lookAt : cwd yX1_lookAt cX1_lookAt 7 (some .int) 1 := ⟨gw_2, gw_645, by decide +kernel, by decide +kernel, by decide +kernel⟩
theorem kv_X1_lookAt : cwv yX1_lookAt := ⟨gw_644, gs_15⟩
theorem kd_X1_loseExpired : cwd yX1_loseExpired cX1_loseExpired 2 none 0 := ⟨gw_2, gw_908, by decide +kernel, by decide +kernel, by decide +kernel⟩
theorem kv_X1_loseExpired : cwv yX1_loseExpired := ⟨gw_907, gs_29⟩
theorem kd_X1_passFault : cwd yX1_passFault cX1_passFault 2 (some .int) 1 := ⟨gw_2, gw_888, by decide +kernel, by decide +kernel, by decide +kernel⟩
theorem kv_X1_passFault : cwv yX1_passFault := ⟨gw_886, gw_887⟩
theorem kd_X1_passTicks : cwd yX1_passTicks cX1_passTicks 7 none 2 := ⟨gw_2, gw_892, by decide +kernel, by decide +kernel, by decide +kernel⟩
theorem kv_X1_passTicks : cwv yX1_passTicks := ⟨gw_890, gw_891⟩
theorem kd_X1_requestFault : cwd yX1_requestFault cX1_requestFault 6 (some .int) 4 := ⟨gw_2, gw_610, by decide +kernel, by decide +kernel, by decide +kernel⟩
theorem kv_X1_requestFault : cwv yX1_requestFault := ⟨gw_608, gw_609⟩
theorem kd_X1_requestNow : cwd yX1_requestNow cX1_requestNow 5 (some .int) 4 := ⟨gw_2, gw_632, by decide +kernel, by decide +kernel, by decide +kernel⟩
theorem kv_X1_requestNow : cwv yX1_requestNow := ⟨gw_630, gw_631⟩
theorem kd_X1_returnedValue : cwd yX1_returnedValue cX1_returnedValue 6 (some .int) 3 := ⟨gw_2, gw_843, by decide +kernel, by decide +kernel, by decide +kernel⟩
theorem kv_X1_returnedValue : cwv yX1_returnedValue := ⟨gw_842, gs_26⟩
theorem kd_X1_sectionsOf : cwd yX1_sectionsOf cX1_sectionsOf 2 (some .int) 1 := ⟨gw_2, gw_801, by decide +kernel, by decide +kernel, by decide +kernel⟩
theorem kv_X1_sectionsOf : cwv yX1_sectionsOf := ⟨gw_800, gs_22⟩
theorem kd_X1_serve : cwd yX1_serve cX1_serve 5 (some .int) 0 := ⟨gw_2, gw_738, by decide +kernel, by decide +kernel, by decide +kernel⟩
theorem kv_X1_serve : cwv yX1_serve := ⟨gw_736, gw_737⟩
theorem kd_X1_startCopy : cwd yX1_startCopy cX1_startCopy 7 none 3 := ⟨gw_2, gw_676, by decide +kernel, by decide +kernel, by decide +kernel⟩
theorem kv_X1_startCopy : cwv yX1_startCopy := ⟨gw_675, gs_19⟩
theorem kd_X1_ticksToExpiry : cwd yX1_ticksToExpiry cX1_ticksToExpiry 4 (some .int) 1 := ⟨gw_2, gw_896, by decide +kernel, by decide +kernel, by decide +kernel⟩
theorem kv_X1_ticksToExpiry : cwv yX1_ticksToExpiry := ⟨gw_895, gs_27⟩
theorem kd_X1_want : cwd yX1_want cX1_want 3 none 2 := ⟨gw_2, gw_581, by decide +kernel, by decide +kernel, by decide +kernel⟩
theorem kv_X1_want : cwv yX1_want := ⟨gw_580, gs_10⟩
theorem kd_X1_wantPresent : cwd yX1_wantPresent cX1_wantPresent 1 none 0 := ⟨gw_2, gw_577, by decide +kernel, by decide +kernel, by decide +kernel⟩
theorem kv_X1_wantPresent : cwv yX1_wantPresent := ⟨gw_576, gs_9⟩
theorem kd_X1_wantReturned : cwd yX1_wantReturned cX1_wantReturned 5 none 2 := ⟨gw_2, gw_839, by decide +kernel, by decide +kernel, by decide +kernel⟩
theorem kv_X1_wantReturned : cwv yX1_wantReturned := ⟨gw_838, gs_25⟩
theorem kd_X2_add : cwd yX2_add cX2_add 6 none 5 := ⟨gw_7, gw_594, by decide +kernel, by decide +kernel, by decide +kernel⟩
theorem kv_X2_add : cwv yX2_add := ⟨gw_592, gw_593⟩
theorem kd_X2_copyFrom : cwd yX2_copyFrom cX2_copyFrom 2 none 1 := ⟨gw_7, gw_432, by decide +kernel, by decide +kernel, by decide +kernel⟩
theorem kv_X2_copyFrom : cwv yX2_copyFrom := ⟨gw_430, gw_431⟩
theorem kd_X2_fact : cwd yX2_fact cX2_fact 4 (some .int) 2 := ⟨gw_7, gw_499, by decide +kernel, by decide +kernel, by decide +kernel⟩
theorem kv_X2_fact : cwv yX2_fact := ⟨gw_497, gw_498⟩
theorem kd_X2_indexOf : cwd yX2_indexOf cX2_indexOf 4 (some .int) 2 := ⟨gw_7, gw_503, by decide +kernel, by decide +kernel, by decide +kernel⟩
theorem kv_X2_indexOf : cwv yX2_indexOf := ⟨gw_502, gs_7⟩
theorem kd_X2_removeOf : cwd yX2_removeOf cX2_removeOf 5 none 1 := ⟨gw_7, gw_495, by decide +kernel, by decide +kernel, by decide +kernel⟩
theorem kv_X2_removeOf : cwv yX2_removeOf := ⟨gw_493, gw_494⟩
theorem kd_X2_setFact : cwd yX2_setFact cX2_setFact 5 none 3 := ⟨gw_7, gw_510, by decide +kernel, by decide +kernel, by decide +kernel⟩
theorem kv_X2_setFact : cwv yX2_setFact := ⟨gw_509, gs_8⟩
theorem kd_X2_turnBack : cwd yX2_turnBack cX2_turnBack 5 none 2 := ⟨gw_7, gw_875, by decide +kernel, by decide +kernel, by decide +kernel⟩
theorem kv_X2_turnBack : cwv yX2_turnBack := ⟨gw_873, gw_874⟩
theorem kd_X3_letterOf : cwd yX3_letterOf cX3_letterOf 2 (some .int) 1 := ⟨gw_9, gw_1226, by decide +kernel, by decide +kernel, by decide +kernel⟩
theorem kv_X3_letterOf : cwv yX3_letterOf := ⟨gw_1224, gw_1225⟩
theorem kd_X3_numberOf : cwd yX3_numberOf cX3_numberOf 4 (some .int) 2 := ⟨gw_9, gw_1218, by decide +kernel, by decide +kernel, by decide +kernel⟩
theorem kv_X3_numberOf : cwv yX3_numberOf := ⟨gw_1216, gw_1217⟩
theorem kd_X3_numbersAfter : cwd yX3_numbersAfter cX3_numbersAfter 1 (some .int) 1 := ⟨gw_9, gw_1202, by decide +kernel, by decide +kernel, by decide +kernel⟩
theorem kd_X3_parse : cwd yX3_parse cX3_parse 2 (some .int) 0 := ⟨gw_9, gw_1191, by decide +kernel, by decide +kernel, by decide +kernel⟩
theorem kv_X3_parse : cwv yX3_parse := ⟨gw_1189, gw_1190⟩
theorem kd_X3_setNumber : cwd yX3_setNumber cX3_setNumber 4 none 3 := ⟨gw_9, gw_1210, by decide +kernel, by decide +kernel, by decide +kernel⟩
theorem kv_X3_setNumber : cwv yX3_setNumber := ⟨gw_1209, gs_35⟩
theorem kd_X3_takes : cwd yX3_takes cX3_takes 2 (some .boolean) 1 := ⟨gw_9, gw_1195, by decide +kernel, by decide +kernel, by decide +kernel⟩
theorem kv_X3_takes : cwv yX3_takes := ⟨gw_1194, gs_32⟩
theorem kd_X3_takesDigit : cwd yX3_takesDigit cX3_takesDigit 2 (some .boolean) 1 := ⟨gw_9, gw_1214, by decide +kernel, by decide +kernel, by decide +kernel⟩
theorem kv_X3_takesDigit : cwv yX3_takesDigit := ⟨gw_1213, gs_36⟩
theorem kd_X3_takesInNumber : cwd yX3_takesInNumber cX3_takesInNumber 3 (some .boolean) 1 := ⟨gw_9, gw_1222, by decide +kernel, by decide +kernel, by decide +kernel⟩
theorem kv_X3_takesInNumber : cwv yX3_takesInNumber := ⟨gw_1221, gs_37⟩
theorem kd_X3_takesLetter : cwd yX3_takesLetter cX3_takesLetter 2 (some .boolean) 1 := ⟨gw_9, gw_1199, by decide +kernel, by decide +kernel, by decide +kernel⟩
theorem kv_X3_takesLetter : cwv yX3_takesLetter := ⟨gw_1198, gs_33⟩
theorem kd_X3_takesSpace : cwd yX3_takesSpace cX3_takesSpace 2 (some .boolean) 1 := ⟨gw_9, gw_1206, by decide +kernel, by decide +kernel, by decide +kernel⟩
theorem kv_X3_takesSpace : cwv yX3_takesSpace := ⟨gw_1205, gs_34⟩
theorem kd_X4_put : cwd yX4_put cX4_put 2 none 1 := ⟨gw_10, gw_927, by decide +kernel, by decide +kernel, by decide +kernel⟩
theorem kv_X4_put : cwv yX4_put := ⟨gw_926, gs_31⟩
theorem kd_X5_copyFrom : cwd yX5_copyFrom cX5_copyFrom 2 none 1 := ⟨gw_6, gw_427, by decide +kernel, by decide +kernel, by decide +kernel⟩
theorem kv_X5_copyFrom : cwv yX5_copyFrom := ⟨gw_425, gw_426⟩
theorem kd_X5_fact : cwd yX5_fact cX5_fact 4 (some .int) 2 := ⟨gw_6, gw_283, by decide +kernel, by decide +kernel, by decide +kernel⟩
theorem kv_X5_fact : cwv yX5_fact := ⟨gw_281, gw_282⟩
theorem kd_X5_isFull : cwd yX5_isFull cX5_isFull 1 (some .boolean) 0 := ⟨gw_6, gw_625, by decide +kernel, by decide +kernel, by decide +kernel⟩
theorem kv_X5_isFull : cwv yX5_isFull := ⟨gw_623, gw_624⟩
theorem kd_X5_join : cwd yX5_join cX5_join 5 (some .int) 4 := ⟨gw_6, gw_636, by decide +kernel, by decide +kernel, by decide +kernel⟩
theorem kv_X5_join : cwv yX5_join := ⟨gw_634, gw_635⟩
theorem kd_X5_leave : cwd yX5_leave cX5_leave 4 none 1 := ⟨gw_6, gw_718, by decide +kernel, by decide +kernel, by decide +kernel⟩
theorem kv_X5_leave : cwv yX5_leave := ⟨gw_716, gw_717⟩
theorem kd_X5_placeOf : cwd yX5_placeOf cX5_placeOf 3 (some .int) 1 := ⟨gw_6, gw_621, by decide +kernel, by decide +kernel, by decide +kernel⟩
theorem kv_X5_placeOf : cwv yX5_placeOf := ⟨gw_619, gw_620⟩
theorem kd_X5_setFact : cwd yX5_setFact cX5_setFact 4 none 3 := ⟨gw_6, gw_641, by decide +kernel, by decide +kernel, by decide +kernel⟩
theorem kv_X5_setFact : cwv yX5_setFact := ⟨gw_640, gs_14⟩
theorem kd_X5_tops : cwd yX5_tops cX5_tops 3 (some .int) 0 := ⟨gw_6, gw_279, by decide +kernel, by decide +kernel, by decide +kernel⟩
theorem kv_X5_tops : cwv yX5_tops := ⟨gw_277, gw_278⟩
theorem kd_X6_dropOldest : cwd yX6_dropOldest cX6_dropOldest 3 none 0 := ⟨gw_8, gw_401, by decide +kernel, by decide +kernel, by decide +kernel⟩
theorem kv_X6_dropOldest : cwv yX6_dropOldest := ⟨gw_400, gs_3⟩
theorem kd_X6_push : cwd yX6_push cX6_push 2 none 1 := ⟨gw_8, gw_397, by decide +kernel, by decide +kernel, by decide +kernel⟩
theorem kv_X6_push : cwv yX6_push := ⟨gw_395, gw_396⟩
theorem kd_X7_copyFrom : cwd yX7_copyFrom cX7_copyFrom 2 none 1 := ⟨gw_3, gw_409, by decide +kernel, by decide +kernel, by decide +kernel⟩
theorem kv_X7_copyFrom : cwv yX7_copyFrom := ⟨gw_407, gw_408⟩
theorem kd_X7_covers : cwd yX7_covers cX7_covers 3 (some .boolean) 2 := ⟨gw_3, gw_536, by decide +kernel, by decide +kernel, by decide +kernel⟩
theorem kv_X7_covers : cwv yX7_covers := ⟨gw_534, gw_535⟩
theorem kd_X7_findOverlaps : cwd yX7_findOverlaps cX7_findOverlaps 4 none 0 := ⟨gw_3, gw_460, by decide +kernel, by decide +kernel, by decide +kernel⟩
theorem kv_X7_findOverlaps : cwv yX7_findOverlaps := ⟨gw_459, gs_5⟩
theorem kd_X7_has : cwd yX7_has cX7_has 2 (some .boolean) 1 := ⟨gw_3, gw_251, by decide +kernel, by decide +kernel, by decide +kernel⟩
theorem kv_X7_has : cwv yX7_has := ⟨gw_249, gw_250⟩
theorem kd_X7_lineageOf : cwd yX7_lineageOf cX7_lineageOf 2 (some .int) 1 := ⟨gw_3, gw_287, by decide +kernel, by decide +kernel, by decide +kernel⟩
theorem kv_X7_lineageOf : cwv yX7_lineageOf := ⟨gw_285, gw_286⟩
theorem kd_X7_lowestFree : cwd yX7_lowestFree cX7_lowestFree 2 (some .int) 0 := ⟨gw_3, gw_442, by decide +kernel, by decide +kernel, by decide +kernel⟩
theorem kv_X7_lowestFree : cwv yX7_lowestFree := ⟨gw_441, gs_4⟩
theorem kd_X7_overlapOf : cwd yX7_overlapOf cX7_overlapOf 2 (some .int) 1 := ⟨gw_3, gw_481, by decide +kernel, by decide +kernel, by decide +kernel⟩
theorem kv_X7_overlapOf : cwv yX7_overlapOf := ⟨gw_479, gw_480⟩
theorem kd_X7_parentOf : cwd yX7_parentOf cX7_parentOf 2 (some .int) 1 := ⟨gw_3, gw_936, by decide +kernel, by decide +kernel, by decide +kernel⟩
theorem kv_X7_parentOf : cwv yX7_parentOf := ⟨gw_934, gw_935⟩
theorem kd_X7_raiseVersion : cwd yX7_raiseVersion cX7_raiseVersion 2 none 1 := ⟨gw_3, gw_599, by decide +kernel, by decide +kernel, by decide +kernel⟩
theorem kv_X7_raiseVersion : cwv yX7_raiseVersion := ⟨gw_597, gw_598⟩
theorem kd_X7_remove : cwd yX7_remove cX7_remove 6 none 1 := ⟨gw_3, gw_514, by decide +kernel, by decide +kernel, by decide +kernel⟩
theorem kv_X7_remove : cwv yX7_remove := ⟨gw_512, gw_513⟩
theorem kd_X7_setValue : cwd yX7_setValue cX7_setValue 3 none 2 := ⟨gw_3, gw_452, by decide +kernel, by decide +kernel, by decide +kernel⟩
theorem kv_X7_setValue : cwv yX7_setValue := ⟨gw_450, gw_451⟩
theorem kd_X7_subtreeOf : cwd yX7_subtreeOf cX7_subtreeOf 2 (some .int) 1 := ⟨gw_3, gw_485, by decide +kernel, by decide +kernel, by decide +kernel⟩
theorem kv_X7_subtreeOf : cwv yX7_subtreeOf := ⟨gw_483, gw_484⟩
theorem kd_X7_valueAt : cwd yX7_valueAt cX7_valueAt 2 (some .int) 1 := ⟨gw_3, gw_573, by decide +kernel, by decide +kernel, by decide +kernel⟩
theorem kv_X7_valueAt : cwv yX7_valueAt := ⟨gw_571, gw_572⟩
theorem kd_X8_cellOf : cwd yX8_cellOf cX8_cellOf 2 (some .int) 2 := ⟨gw_1, gw_448, by decide +kernel, by decide +kernel, by decide +kernel⟩
theorem kd_X8_copyRow : cwd yX8_copyRow cX8_copyRow 2 none 2 := ⟨gw_1, gw_412, by decide +kernel, by decide +kernel, by decide +kernel⟩
theorem kd_X8_faultOf : cwd yX8_faultOf cX8_faultOf 3 (some .int) 3 := ⟨gw_1, gw_290, by decide +kernel, by decide +kernel, by decide +kernel⟩
theorem kd_X8_hasBit : cwd yX8_hasBit cX8_hasBit 2 (some .boolean) 2 := ⟨gw_1, gw_506, by decide +kernel, by decide +kernel, by decide +kernel⟩
theorem kd_X8_isCell : cwd yX8_isCell cX8_isCell 1 (some .boolean) 1 := ⟨gw_1, gw_455, by decide +kernel, by decide +kernel, by decide +kernel⟩
theorem kd_X8_isLine : cwd yX8_isLine cX8_isLine 1 (some .boolean) 1 := ⟨gw_1, gw_563, by decide +kernel, by decide +kernel, by decide +kernel⟩
theorem kd_X8_isUser : cwd yX8_isUser cX8_isUser 1 (some .boolean) 1 := ⟨gw_1, gw_628, by decide +kernel, by decide +kernel, by decide +kernel⟩
theorem kd_X8_isWithin : cwd yX8_isWithin cX8_isWithin 3 (some .boolean) 3 := ⟨gw_1, gw_445, by decide +kernel, by decide +kernel, by decide +kernel⟩
theorem kd_X8_orderFault : cwd yX8_orderFault cX8_orderFault 6 (some .int) 5 := ⟨gw_1, gw_1236, by decide +kernel, by decide +kernel, by decide +kernel⟩
theorem kv_X8_orderFault : cwv yX8_orderFault := ⟨gw_1235, gs_39⟩
theorem kd_X8_runOrder : cwd yX8_runOrder cX8_runOrder 7 (some .boolean) 1 := ⟨gw_1, gw_1230, by decide +kernel, by decide +kernel, by decide +kernel⟩
theorem kv_X8_runOrder : cwv yX8_runOrder := ⟨gw_1229, gs_38⟩
