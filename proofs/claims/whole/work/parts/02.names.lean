abbrev R_MW : String := "MountainWatch"
def F_MW : u_T := fun k => match k with
  | 0 => ("MountainWatch", "shakes", "LMountainWatch$Shakes;", true)
  | 1 => ("MountainWatch", "readings", "LMountainWatch$Readings;", true)
  | 2 => ("MountainWatch", "laws", "LMountainWatch$Laws;", true)
  | 3 => ("MountainWatch", "messages", "LMountainWatch$Messages;", true)
  | 4 => ("MountainWatch", "tree", "LMountainWatch$Tree;", true)
  | 5 => ("MountainWatch", "today", "I", false)
  | 6 => ("MountainWatch", "level", "I", false)
  | 7 => ("MountainWatch", "calm", "I", false)
  | 8 => ("MountainWatch", "restDays", "I", false)
  | 9 => ("MountainWatch", "holdLevel", "I", false)
  | 10 => ("MountainWatch", "holdEnd", "I", false)
  | _ => ("MountainWatch", "drillLevel", "I", false)
def t_MW : Nat → FieldType := fun k => match k with
  | 0 => .object "MountainWatch$Shakes"
  | 1 => .object "MountainWatch$Readings"
  | 2 => .object "MountainWatch$Laws"
  | 3 => .object "MountainWatch$Messages"
  | 4 => .object "MountainWatch$Tree"
  | 5 => .int
  | 6 => .int
  | 7 => .int
  | 8 => .int
  | 9 => .int
  | 10 => .int
  | _ => .int
theorem n_MW : ∀ a, a < 12 → ∀ b, b < 12 → a ≠ b → (F_MW a).2.1 ≠ (F_MW b).2.1 := by decide +kernel
theorem t_MW_ok : ∀ k, k < 12 → parseFieldDescriptor (F_MW k).2.2.1 = some (t_MW k) := by decide +kernel
abbrev R_SH : String := "MountainWatch$Shakes"
def F_SH : u_T := fun k => match k with
  | 0 => ("MountainWatch$Shakes", "bands", "[I", true)
  | 1 => ("MountainWatch$Shakes", "days", "[I", true)
  | 2 => ("MountainWatch$Shakes", "kinds", "[I", true)
  | 3 => ("MountainWatch$Shakes", "families", "[I", true)
  | 4 => ("MountainWatch$Shakes", "tally", "[I", true)
  | 5 => ("MountainWatch$Shakes", "count", "I", false)
  | _ => ("MountainWatch$Shakes", "asked", "I", false)
def t_SH : Nat → FieldType := fun k => match k with
  | 0 => .array .int
  | 1 => .array .int
  | 2 => .array .int
  | 3 => .array .int
  | 4 => .array .int
  | 5 => .int
  | _ => .int
theorem n_SH : ∀ a, a < 7 → ∀ b, b < 7 → a ≠ b → (F_SH a).2.1 ≠ (F_SH b).2.1 := by decide +kernel
theorem t_SH_ok : ∀ k, k < 7 → parseFieldDescriptor (F_SH k).2.2.1 = some (t_SH k) := by decide +kernel
abbrev R_RE : String := "MountainWatch$Readings"
def F_RE : u_T := fun k => match k with
  | 0 => ("MountainWatch$Readings", "tilts", "[I", true)
  | _ => ("MountainWatch$Readings", "gases", "[I", true)
def t_RE : Nat → FieldType := fun k => match k with
  | 0 => .array .int
  | _ => .array .int
theorem n_RE : ∀ a, a < 2 → ∀ b, b < 2 → a ≠ b → (F_RE a).2.1 ≠ (F_RE b).2.1 := by decide +kernel
theorem t_RE_ok : ∀ k, k < 2 → parseFieldDescriptor (F_RE k).2.2.1 = some (t_RE k) := by decide +kernel
abbrev R_LA : String := "MountainWatch$Laws"
def F_LA : u_T := fun k => match k with
  | 0 => ("MountainWatch$Laws", "levels", "[I", true)
  | 1 => ("MountainWatch$Laws", "measures", "[I", true)
  | 2 => ("MountainWatch$Laws", "numbers", "[I", true)
  | 3 => ("MountainWatch$Laws", "spans", "[I", true)
  | _ => ("MountainWatch$Laws", "count", "I", false)
def t_LA : Nat → FieldType := fun k => match k with
  | 0 => .array .int
  | 1 => .array .int
  | 2 => .array .int
  | 3 => .array .int
  | _ => .int
theorem n_LA : ∀ a, a < 5 → ∀ b, b < 5 → a ≠ b → (F_LA a).2.1 ≠ (F_LA b).2.1 := by decide +kernel
theorem t_LA_ok : ∀ k, k < 5 → parseFieldDescriptor (F_LA k).2.2.1 = some (t_LA k) := by decide +kernel
abbrev R_ME : String := "MountainWatch$Messages"
def F_ME : u_T := fun k => match k with
  | 0 => ("MountainWatch$Messages", "days", "[I", true)
  | 1 => ("MountainWatch$Messages", "levels", "[I", true)
  | 2 => ("MountainWatch$Messages", "reasons", "[I", true)
  | 3 => ("MountainWatch$Messages", "count", "I", false)
  | 4 => ("MountainWatch$Messages", "drillCount", "I", false)
  | 5 => ("MountainWatch$Messages", "kept", "I", false)
  | _ => ("MountainWatch$Messages", "keptDrills", "I", false)
def t_ME : Nat → FieldType := fun k => match k with
  | 0 => .array .int
  | 1 => .array .int
  | 2 => .array .int
  | 3 => .int
  | 4 => .int
  | 5 => .int
  | _ => .int
theorem n_ME : ∀ a, a < 7 → ∀ b, b < 7 → a ≠ b → (F_ME a).2.1 ≠ (F_ME b).2.1 := by decide +kernel
theorem t_ME_ok : ∀ k, k < 7 → parseFieldDescriptor (F_ME k).2.2.1 = some (t_ME k) := by decide +kernel
abbrev R_TR : String := "MountainWatch$Tree"
def F_TR : u_T := fun k => match k with
  | 0 => ("MountainWatch$Tree", "parents", "[I", true)
  | 1 => ("MountainWatch$Tree", "lows", "[I", true)
  | 2 => ("MountainWatch$Tree", "highs", "[I", true)
  | 3 => ("MountainWatch$Tree", "depths", "[I", true)
  | 4 => ("MountainWatch$Tree", "childCounts", "[I", true)
  | 5 => ("MountainWatch$Tree", "feared", "[Z", true)
  | 6 => ("MountainWatch$Tree", "chances", "[I", true)
  | 7 => ("MountainWatch$Tree", "served", "[Z", true)
  | _ => ("MountainWatch$Tree", "count", "I", false)
def t_TR : Nat → FieldType := fun k => match k with
  | 0 => .array .int
  | 1 => .array .int
  | 2 => .array .int
  | 3 => .array .int
  | 4 => .array .int
  | 5 => .array .boolean
  | 6 => .array .int
  | 7 => .array .boolean
  | _ => .int
theorem n_TR : ∀ a, a < 9 → ∀ b, b < 9 → a ≠ b → (F_TR a).2.1 ≠ (F_TR b).2.1 := by decide +kernel
theorem t_TR_ok : ∀ k, k < 9 → parseFieldDescriptor (F_TR k).2.2.1 = some (t_TR k) := by decide +kernel
abbrev R_MO : String := "MountainWatchModel"
def F_MO : u_T := fun k => match k with
  | 0 => ("MountainWatchModel", "today", "I", false)
  | 1 => ("MountainWatchModel", "shakes", "I", false)
  | 2 => ("MountainWatchModel", "dayOf", "[I", true)
  | 3 => ("MountainWatchModel", "band", "[I", true)
  | 4 => ("MountainWatchModel", "family", "[I", true)
  | 5 => ("MountainWatchModel", "areMarked", "Z", false)
  | 6 => ("MountainWatchModel", "likeness", "I", false)
  | 7 => ("MountainWatchModel", "hasTilt", "[Z", true)
  | 8 => ("MountainWatchModel", "tilt", "[I", true)
  | 9 => ("MountainWatchModel", "gas", "[I", true)
  | 10 => ("MountainWatchModel", "laws", "I", false)
  | 11 => ("MountainWatchModel", "lawLevel", "[I", true)
  | 12 => ("MountainWatchModel", "lawMeasure", "[I", true)
  | 13 => ("MountainWatchModel", "lawNumber", "[I", true)
  | 14 => ("MountainWatchModel", "lawSpan", "[I", true)
  | 15 => ("MountainWatchModel", "rest", "I", false)
  | 16 => ("MountainWatchModel", "level", "I", false)
  | 17 => ("MountainWatchModel", "calm", "I", false)
  | 18 => ("MountainWatchModel", "holdLevel", "I", false)
  | 19 => ("MountainWatchModel", "holdEnd", "I", false)
  | 20 => ("MountainWatchModel", "kept", "I", false)
  | 21 => ("MountainWatchModel", "message", "[I", true)
  | 22 => ("MountainWatchModel", "messages", "I", false)
  | 23 => ("MountainWatchModel", "drills", "I", false)
  | 24 => ("MountainWatchModel", "drillLevel", "I", false)
  | 25 => ("MountainWatchModel", "nodes", "I", false)
  | 26 => ("MountainWatchModel", "parent", "[I", true)
  | 27 => ("MountainWatchModel", "low", "[I", true)
  | 28 => ("MountainWatchModel", "high", "[I", true)
  | 29 => ("MountainWatchModel", "isFeared", "[Z", true)
  | 30 => ("MountainWatchModel", "chance", "[J", true)
  | _ => ("MountainWatchModel", "isGiven", "[Z", true)
def t_MO : Nat → FieldType := fun k => match k with
  | 0 => .int
  | 1 => .int
  | 2 => .array .int
  | 3 => .array .int
  | 4 => .array .int
  | 5 => .boolean
  | 6 => .int
  | 7 => .array .boolean
  | 8 => .array .int
  | 9 => .array .int
  | 10 => .int
  | 11 => .array .int
  | 12 => .array .int
  | 13 => .array .int
  | 14 => .array .int
  | 15 => .int
  | 16 => .int
  | 17 => .int
  | 18 => .int
  | 19 => .int
  | 20 => .int
  | 21 => .array .int
  | 22 => .int
  | 23 => .int
  | 24 => .int
  | 25 => .int
  | 26 => .array .int
  | 27 => .array .int
  | 28 => .array .int
  | 29 => .array .boolean
  | 30 => .array .long
  | _ => .array .boolean
theorem n_MO : ∀ a, a < 32 → ∀ b, b < 32 → a ≠ b → (F_MO a).2.1 ≠ (F_MO b).2.1 := by decide +kernel
theorem t_MO_ok : ∀ k, k < 32 → parseFieldDescriptor (F_MO k).2.2.1 = some (t_MO k) := by decide +kernel
abbrev classes : List vw_C := [(R_MW, F_MW, 12), (R_SH, F_SH, 7), (R_RE, F_RE, 2), (R_LA, F_LA, 5), (R_ME, F_ME, 7), (R_TR, F_TR, 9), (R_MO, F_MO, 32)]
/-- the words that every method takes with it -/
def TB : List Cond := lw_tbl.filter goodWord
theorem TB_mem {w : Cond} (i : Nat) (h : lw_tbl[i]? = some w) (g : goodWord w = true) : w ∈ TB := List.mem_filter.mpr ⟨List.mem_of_getElem? h, g⟩
theorem TB_good : GoodIn TB TB := fun w h => ⟨h, good_of_word (List.mem_filter.mp h).2⟩
theorem TB_of {args : Array Value} {s : State} (hts : ∀ w ∈ lw_tbl, w.before args s = true) : ∀ w ∈ TB, w.before args s = true := fun w h => hts w (List.mem_filter.mp h).1
theorem i_MW : ∀ w ∈ u_ws R_MW F_MW 12, w ∈ TB := by
  intro w hw
  have e : u_ws R_MW F_MW 12 = ([210, 212, 214, 216, 218, 220, 222, 224, 226, 228, 230, 232] : List Nat).filterMap (fun i => lw_tbl[i]?) := by decide +kernel
  have g : ∀ x ∈ (u_ws R_MW F_MW 12), goodWord x = true := by decide +kernel
  have gw := g w hw
  rw [e] at hw
  obtain ⟨i, -, hi⟩ := List.mem_filterMap.mp hw
  exact TB_mem i hi gw
theorem i_SH : ∀ w ∈ u_ws R_SH F_SH 7, w ∈ TB := by
  intro w hw
  have e : u_ws R_SH F_SH 7 = ([64, 66, 68, 70, 72, 74, 76] : List Nat).filterMap (fun i => lw_tbl[i]?) := by decide +kernel
  have g : ∀ x ∈ (u_ws R_SH F_SH 7), goodWord x = true := by decide +kernel
  have gw := g w hw
  rw [e] at hw
  obtain ⟨i, -, hi⟩ := List.mem_filterMap.mp hw
  exact TB_mem i hi gw
theorem i_RE : ∀ w ∈ u_ws R_RE F_RE 2, w ∈ TB := by
  intro w hw
  have e : u_ws R_RE F_RE 2 = ([91, 93] : List Nat).filterMap (fun i => lw_tbl[i]?) := by decide +kernel
  have g : ∀ x ∈ (u_ws R_RE F_RE 2), goodWord x = true := by decide +kernel
  have gw := g w hw
  rw [e] at hw
  obtain ⟨i, -, hi⟩ := List.mem_filterMap.mp hw
  exact TB_mem i hi gw
theorem i_LA : ∀ w ∈ u_ws R_LA F_LA 5, w ∈ TB := by
  intro w hw
  have e : u_ws R_LA F_LA 5 = ([112, 114, 116, 118, 120] : List Nat).filterMap (fun i => lw_tbl[i]?) := by decide +kernel
  have g : ∀ x ∈ (u_ws R_LA F_LA 5), goodWord x = true := by decide +kernel
  have gw := g w hw
  rw [e] at hw
  obtain ⟨i, -, hi⟩ := List.mem_filterMap.mp hw
  exact TB_mem i hi gw
theorem i_ME : ∀ w ∈ u_ws R_ME F_ME 7, w ∈ TB := by
  intro w hw
  have e : u_ws R_ME F_ME 7 = ([141, 143, 145, 147, 149, 151, 153] : List Nat).filterMap (fun i => lw_tbl[i]?) := by decide +kernel
  have g : ∀ x ∈ (u_ws R_ME F_ME 7), goodWord x = true := by decide +kernel
  have gw := g w hw
  rw [e] at hw
  obtain ⟨i, -, hi⟩ := List.mem_filterMap.mp hw
  exact TB_mem i hi gw
theorem i_TR : ∀ w ∈ u_ws R_TR F_TR 9, w ∈ TB := by
  intro w hw
  have e : u_ws R_TR F_TR 9 = ([178, 180, 182, 184, 186, 188, 190, 192, 194] : List Nat).filterMap (fun i => lw_tbl[i]?) := by decide +kernel
  have g : ∀ x ∈ (u_ws R_TR F_TR 9), goodWord x = true := by decide +kernel
  have gw := g w hw
  rw [e] at hw
  obtain ⟨i, -, hi⟩ := List.mem_filterMap.mp hw
  exact TB_mem i hi gw
theorem i_MO : ∀ w ∈ u_ws R_MO F_MO 32, w ∈ TB := by
  intro w hw
  have e : u_ws R_MO F_MO 32 = ([590, 592, 594, 596, 598, 600, 602, 604, 606, 608, 610, 612, 614, 616, 618, 620, 622, 624, 626, 628, 630, 632, 634, 636, 638, 640, 642, 644, 646, 648, 650, 652] : List Nat).filterMap (fun i => lw_tbl[i]?) := by decide +kernel
  have g : ∀ x ∈ (u_ws R_MO F_MO 32), goodWord x = true := by decide +kernel
  have gw := g w hw
  rw [e] at hw
  obtain ⟨i, -, hi⟩ := List.mem_filterMap.mp hw
  exact TB_mem i hi gw
abbrev MI : Type := String × ByteArray × Nat × Nat × Nat × Option FieldType
abbrev y_MW_init : MethodName := ⟨"MountainWatch", "<init>", "()V"⟩
abbrev M_MW_init : MI := ("MountainWatch", prog_1_method_1_code, 1, 2, 32, none)
abbrev y_MW_shake : MethodName := ⟨"MountainWatch", "shake", "(J)I"⟩
abbrev M_MW_shake : MI := ("MountainWatch", prog_1_method_2_code, 3, 5, 120, some .int)
abbrev y_MW_about : MethodName := ⟨"MountainWatch", "about", "(II)I"⟩
abbrev M_MW_about : MI := ("MountainWatch", prog_1_method_3_code, 3, 1, 22, some .int)
abbrev y_MW_alike : MethodName := ⟨"MountainWatch", "alike", "(II)I"⟩
abbrev M_MW_alike : MI := ("MountainWatch", prog_1_method_4_code, 3, 3, 71, some .int)
abbrev y_MW_likeness : MethodName := ⟨"MountainWatch", "likeness", "(I)I"⟩
abbrev M_MW_likeness : MI := ("MountainWatch", prog_1_method_5_code, 3, 5, 115, some .int)
abbrev y_MW_family : MethodName := ⟨"MountainWatch", "family", "(I)I"⟩
abbrev M_MW_family : MI := ("MountainWatch", prog_1_method_6_code, 2, 1, 23, some .int)
abbrev y_MW_kin : MethodName := ⟨"MountainWatch", "kin", "(I)I"⟩
abbrev M_MW_kin : MI := ("MountainWatch", prog_1_method_7_code, 2, 1, 23, some .int)
abbrev y_MW_tilt : MethodName := ⟨"MountainWatch", "tilt", "(I)I"⟩
abbrev M_MW_tilt : MI := ("MountainWatch", prog_1_method_8_code, 2, 1, 22, some .int)
abbrev y_MW_gas : MethodName := ⟨"MountainWatch", "gas", "(I)I"⟩
abbrev M_MW_gas : MI := ("MountainWatch", prog_1_method_9_code, 2, 1, 22, some .int)
abbrev y_MW_tiltAt : MethodName := ⟨"MountainWatch", "tiltAt", "(I)I"⟩
abbrev M_MW_tiltAt : MI := ("MountainWatch", prog_1_method_10_code, 2, 2, 43, some .int)
abbrev y_MW_gasOf : MethodName := ⟨"MountainWatch", "gasOf", "(I)I"⟩
abbrev M_MW_gasOf : MI := ("MountainWatch", prog_1_method_11_code, 2, 2, 43, some .int)
abbrev y_MW_law : MethodName := ⟨"MountainWatch", "law", "(IIII)I"⟩
abbrev M_MW_law : MI := ("MountainWatch", prog_1_method_12_code, 5, 2, 42, some .int)
abbrev y_MW_change : MethodName := ⟨"MountainWatch", "change", "(III)I"⟩
abbrev M_MW_change : MI := ("MountainWatch", prog_1_method_13_code, 4, 2, 42, some .int)
abbrev y_MW_measure : MethodName := ⟨"MountainWatch", "measure", "(II)I"⟩
abbrev M_MW_measure : MI := ("MountainWatch", prog_1_method_14_code, 3, 3, 73, some .int)
abbrev y_MW_isTrue : MethodName := ⟨"MountainWatch", "isTrue", "(II)I"⟩
abbrev M_MW_isTrue : MI := ("MountainWatch", prog_1_method_15_code, 3, 4, 95, some .int)
abbrev y_MW_rest : MethodName := ⟨"MountainWatch", "rest", "(I)I"⟩
abbrev M_MW_rest : MI := ("MountainWatch", prog_1_method_16_code, 3, 1, 22, some .int)
abbrev y_MW_next : MethodName := ⟨"MountainWatch", "next", "()I"⟩
abbrev M_MW_next : MI := ("MountainWatch", prog_1_method_17_code, 1, 6, 138, some .int)
abbrev y_MW_hold : MethodName := ⟨"MountainWatch", "hold", "(II)I"⟩
abbrev M_MW_hold : MI := ("MountainWatch", prog_1_method_18_code, 3, 2, 42, some .int)
abbrev y_MW_release : MethodName := ⟨"MountainWatch", "release", "()I"⟩
abbrev M_MW_release : MI := ("MountainWatch", prog_1_method_19_code, 2, 1, 20, some .int)
abbrev y_MW_word : MethodName := ⟨"MountainWatch", "word", "(I)I"⟩
abbrev M_MW_word : MI := ("MountainWatch", prog_1_method_20_code, 2, 3, 69, some .int)
abbrev y_MW_drill : MethodName := ⟨"MountainWatch", "drill", "(I)I"⟩
abbrev M_MW_drill : MI := ("MountainWatch", prog_1_method_21_code, 2, 2, 47, some .int)
abbrev y_MW_message : MethodName := ⟨"MountainWatch", "message", "(ZII)I"⟩
abbrev M_MW_message : MI := ("MountainWatch", prog_1_method_22_code, 5, 1, 22, some .int)
abbrev y_MW_told : MethodName := ⟨"MountainWatch", "told", "(I)I"⟩
abbrev M_MW_told : MI := ("MountainWatch", prog_1_method_23_code, 2, 5, 117, some .int)
abbrev y_MW_node : MethodName := ⟨"MountainWatch", "node", "(III)I"⟩
abbrev M_MW_node : MI := ("MountainWatch", prog_1_method_24_code, 4, 1, 24, some .int)
abbrev y_MW_share : MethodName := ⟨"MountainWatch", "share", "(III)I"⟩
abbrev M_MW_share : MI := ("MountainWatch", prog_1_method_25_code, 4, 1, 21, some .int)
abbrev y_MW_fear : MethodName := ⟨"MountainWatch", "fear", "(IZ)I"⟩
abbrev M_MW_fear : MI := ("MountainWatch", prog_1_method_26_code, 4, 1, 21, some .int)
abbrev y_MW_sound : MethodName := ⟨"MountainWatch", "sound", "()I"⟩
abbrev M_MW_sound : MI := ("MountainWatch", prog_1_method_27_code, 1, 2, 45, some .int)
abbrev y_MW_chance : MethodName := ⟨"MountainWatch", "chance", "(II)I"⟩
abbrev M_MW_chance : MI := ("MountainWatch", prog_1_method_28_code, 3, 4, 97, some .int)
abbrev y_MW_ofNode : MethodName := ⟨"MountainWatch", "ofNode", "(II)I"⟩
abbrev M_MW_ofNode : MI := ("MountainWatch", prog_1_method_29_code, 3, 1, 21, some .int)
abbrev y_MW_isWithin : MethodName := ⟨"MountainWatch", "isWithin", "(III)Z"⟩
abbrev M_MW_isWithin : MI := ("MountainWatch", prog_1_method_30_code, 3, 0, 0, some .boolean)
abbrev y_MW_oneIf : MethodName := ⟨"MountainWatch", "oneIf", "(Z)I"⟩
abbrev M_MW_oneIf : MI := ("MountainWatch", prog_1_method_31_code, 1, 0, 0, some .int)
abbrev y_MW_isLevel : MethodName := ⟨"MountainWatch", "isLevel", "(I)Z"⟩
abbrev M_MW_isLevel : MI := ("MountainWatch", prog_1_method_32_code, 1, 1, 22, some .boolean)
abbrev y_MW_isLawLevel : MethodName := ⟨"MountainWatch", "isLawLevel", "(I)Z"⟩
abbrev M_MW_isLawLevel : MI := ("MountainWatch", prog_1_method_33_code, 1, 1, 22, some .boolean)
abbrev y_MW_areBounds : MethodName := ⟨"MountainWatch", "areBounds", "(II)Z"⟩
abbrev M_MW_areBounds : MI := ("MountainWatch", prog_1_method_34_code, 2, 0, 0, some .boolean)
abbrev y_MW_isDay : MethodName := ⟨"MountainWatch", "isDay", "(I)Z"⟩
abbrev M_MW_isDay : MI := ("MountainWatch", prog_1_method_35_code, 2, 1, 22, some .boolean)
abbrev y_MW_measured : MethodName := ⟨"MountainWatch", "measured", "(II)I"⟩
abbrev M_MW_measured : MI := ("MountainWatch", prog_1_method_36_code, 6, 2, 48, some .int)
abbrev y_MW_holdsTrue : MethodName := ⟨"MountainWatch", "holdsTrue", "(II)Z"⟩
abbrev M_MW_holdsTrue : MI := ("MountainWatch", prog_1_method_37_code, 3, 3, 73, some .boolean)
abbrev y_MW_heldToday : MethodName := ⟨"MountainWatch", "heldToday", "()I"⟩
abbrev M_MW_heldToday : MI := ("MountainWatch", prog_1_method_38_code, 1, 0, 0, some .int)
abbrev y_MW_wantedToday : MethodName := ⟨"MountainWatch", "wantedToday", "()I"⟩
abbrev M_MW_wantedToday : MI := ("MountainWatch", prog_1_method_39_code, 3, 4, 95, some .int)
abbrev y_MW_reasonToRaise : MethodName := ⟨"MountainWatch", "reasonToRaise", "(I)I"⟩
abbrev M_MW_reasonToRaise : MI := ("MountainWatch", prog_1_method_40_code, 3, 4, 95, some .int)
abbrev y_MW_endToday : MethodName := ⟨"MountainWatch", "endToday", "()V"⟩
abbrev M_MW_endToday : MI := ("MountainWatch", prog_1_method_41_code, 2, 5, 117, none)
abbrev y_MW_setLevel : MethodName := ⟨"MountainWatch", "setLevel", "(II)I"⟩
abbrev M_MW_setLevel : MI := ("MountainWatch", prog_1_method_42_code, 3, 2, 47, some .int)
abbrev y_MO_init : MethodName := ⟨"MountainWatchModel", "<init>", "()V"⟩
abbrev M_MO_init : MI := ("MountainWatchModel", prog_8_method_1_code, 1, 1, 12, none)
abbrev y_MO_in : MethodName := ⟨"MountainWatchModel", "in", "(III)Z"⟩
abbrev M_MO_in : MI := ("MountainWatchModel", prog_8_method_2_code, 3, 0, 0, some .boolean)
abbrev y_MO_isShake : MethodName := ⟨"MountainWatchModel", "isShake", "(I)Z"⟩
abbrev M_MO_isShake : MI := ("MountainWatchModel", prog_8_method_3_code, 2, 1, 22, some .boolean)
abbrev y_MO_shake : MethodName := ⟨"MountainWatchModel", "shake", "(J)I"⟩
abbrev M_MO_shake : MI := ("MountainWatchModel", prog_8_method_4_code, 6, 0, 0, some .int)
abbrev y_MO_kindOf : MethodName := ⟨"MountainWatchModel", "kindOf", "(I)I"⟩
abbrev M_MO_kindOf : MI := ("MountainWatchModel", prog_8_method_5_code, 4, 0, 0, some .int)
abbrev y_MO_product : MethodName := ⟨"MountainWatchModel", "product", "(II)J"⟩
abbrev M_MO_product : MI := ("MountainWatchModel", prog_8_method_6_code, 6, 0, 0, some .long)
abbrev y_MO_areAlike : MethodName := ⟨"MountainWatchModel", "areAlike", "(II)Z"⟩
abbrev M_MO_areAlike : MI := ("MountainWatchModel", prog_8_method_7_code, 5, 1, 25, some .boolean)
abbrev y_MO_mark : MethodName := ⟨"MountainWatchModel", "mark", "()V"⟩
abbrev M_MO_mark : MI := ("MountainWatchModel", prog_8_method_8_code, 4, 2, 49, none)
abbrev y_MO_about : MethodName := ⟨"MountainWatchModel", "about", "(II)I"⟩
abbrev M_MO_about : MI := ("MountainWatchModel", prog_8_method_9_code, 3, 3, 72, some .int)
abbrev y_MO_alike : MethodName := ⟨"MountainWatchModel", "alike", "(II)I"⟩
abbrev M_MO_alike : MI := ("MountainWatchModel", prog_8_method_10_code, 3, 2, 49, some .int)
abbrev y_MO_likeness : MethodName := ⟨"MountainWatchModel", "likeness", "(I)I"⟩
abbrev M_MO_likeness : MI := ("MountainWatchModel", prog_8_method_11_code, 3, 1, 22, some .int)
abbrev y_MO_family : MethodName := ⟨"MountainWatchModel", "family", "(I)I"⟩
abbrev M_MO_family : MI := ("MountainWatchModel", prog_8_method_12_code, 4, 3, 72, some .int)
abbrev y_MO_kin : MethodName := ⟨"MountainWatchModel", "kin", "(I)I"⟩
abbrev M_MO_kin : MI := ("MountainWatchModel", prog_8_method_13_code, 4, 3, 72, some .int)
abbrev y_MO_tilt : MethodName := ⟨"MountainWatchModel", "tilt", "(I)I"⟩
abbrev M_MO_tilt : MI := ("MountainWatchModel", prog_8_method_14_code, 2, 1, 22, some .int)
abbrev y_MO_gas : MethodName := ⟨"MountainWatchModel", "gas", "(I)I"⟩
abbrev M_MO_gas : MI := ("MountainWatchModel", prog_8_method_15_code, 2, 1, 22, some .int)
abbrev y_MO_isDay : MethodName := ⟨"MountainWatchModel", "isDay", "(I)Z"⟩
abbrev M_MO_isDay : MI := ("MountainWatchModel", prog_8_method_16_code, 2, 1, 22, some .boolean)
abbrev y_MO_tiltDay : MethodName := ⟨"MountainWatchModel", "tiltDay", "(I)I"⟩
abbrev M_MO_tiltDay : MI := ("MountainWatchModel", prog_8_method_17_code, 3, 0, 0, some .int)
abbrev y_MO_tiltAt : MethodName := ⟨"MountainWatchModel", "tiltAt", "(I)I"⟩
abbrev M_MO_tiltAt : MI := ("MountainWatchModel", prog_8_method_18_code, 3, 2, 43, some .int)
abbrev y_MO_gasOf : MethodName := ⟨"MountainWatchModel", "gasOf", "(I)I"⟩
abbrev M_MO_gasOf : MI := ("MountainWatchModel", prog_8_method_19_code, 2, 2, 43, some .int)
abbrev y_MO_law : MethodName := ⟨"MountainWatchModel", "law", "(IIII)I"⟩
abbrev M_MO_law : MI := ("MountainWatchModel", prog_8_method_20_code, 5, 1, 22, some .int)
abbrev y_MO_isLaw : MethodName := ⟨"MountainWatchModel", "isLaw", "(I)Z"⟩
abbrev M_MO_isLaw : MI := ("MountainWatchModel", prog_8_method_21_code, 2, 1, 22, some .boolean)
abbrev y_MO_change : MethodName := ⟨"MountainWatchModel", "change", "(III)I"⟩
abbrev M_MO_change : MI := ("MountainWatchModel", prog_8_method_22_code, 4, 2, 43, some .int)
abbrev y_MO_within : MethodName := ⟨"MountainWatchModel", "within", "(III)I"⟩
abbrev M_MO_within : MI := ("MountainWatchModel", prog_8_method_23_code, 7, 1, 23, some .int)
abbrev y_MO_measureOf : MethodName := ⟨"MountainWatchModel", "measureOf", "(II)I"⟩
abbrev M_MO_measureOf : MI := ("MountainWatchModel", prog_8_method_24_code, 10, 3, 72, some .int)
abbrev y_MO_holdsOn : MethodName := ⟨"MountainWatchModel", "holdsOn", "(II)Z"⟩
abbrev M_MO_holdsOn : MI := ("MountainWatchModel", prog_8_method_25_code, 3, 4, 101, some .boolean)
abbrev y_MO_measure : MethodName := ⟨"MountainWatchModel", "measure", "(II)I"⟩
abbrev M_MO_measure : MI := ("MountainWatchModel", prog_8_method_26_code, 3, 4, 101, some .int)
abbrev y_MO_isTrue : MethodName := ⟨"MountainWatchModel", "isTrue", "(II)I"⟩
abbrev M_MO_isTrue : MI := ("MountainWatchModel", prog_8_method_27_code, 3, 5, 123, some .int)
abbrev y_MO_rest : MethodName := ⟨"MountainWatchModel", "rest", "(I)I"⟩
abbrev M_MO_rest : MI := ("MountainWatchModel", prog_8_method_28_code, 3, 1, 22, some .int)
abbrev y_MO_holdNow : MethodName := ⟨"MountainWatchModel", "holdNow", "()I"⟩
abbrev M_MO_holdNow : MI := ("MountainWatchModel", prog_8_method_29_code, 1, 0, 0, some .int)
abbrev y_MO_wanted : MethodName := ⟨"MountainWatchModel", "wanted", "()I"⟩
abbrev M_MO_wanted : MI := ("MountainWatchModel", prog_8_method_30_code, 3, 5, 123, some .int)
abbrev y_MO_tells : MethodName := ⟨"MountainWatchModel", "tells", "(IIII)V"⟩
abbrev M_MO_tells : MI := ("MountainWatchModel", prog_8_method_31_code, 5, 0, 0, none)
abbrev y_MO_turns : MethodName := ⟨"MountainWatchModel", "turns", "(II)I"⟩
abbrev M_MO_turns : MI := ("MountainWatchModel", prog_8_method_32_code, 3, 1, 24, some .int)
abbrev y_MO_next : MethodName := ⟨"MountainWatchModel", "next", "()I"⟩
abbrev M_MO_next : MI := ("MountainWatchModel", prog_8_method_33_code, 4, 6, 145, some .int)
abbrev y_MO_hold : MethodName := ⟨"MountainWatchModel", "hold", "(II)I"⟩
abbrev M_MO_hold : MI := ("MountainWatchModel", prog_8_method_34_code, 3, 1, 22, some .int)
abbrev y_MO_release : MethodName := ⟨"MountainWatchModel", "release", "()I"⟩
abbrev M_MO_release : MI := ("MountainWatchModel", prog_8_method_35_code, 2, 1, 20, some .int)
abbrev y_MO_word : MethodName := ⟨"MountainWatchModel", "word", "(I)I"⟩
abbrev M_MO_word : MI := ("MountainWatchModel", prog_8_method_36_code, 2, 2, 46, some .int)
abbrev y_MO_drill : MethodName := ⟨"MountainWatchModel", "drill", "(I)I"⟩
abbrev M_MO_drill : MI := ("MountainWatchModel", prog_8_method_37_code, 2, 1, 24, some .int)
abbrev y_MO_message : MethodName := ⟨"MountainWatchModel", "message", "(ZII)I"⟩
abbrev M_MO_message : MI := ("MountainWatchModel", prog_8_method_38_code, 6, 1, 22, some .int)
abbrev y_MO_told : MethodName := ⟨"MountainWatchModel", "told", "(I)I"⟩
abbrev M_MO_told : MI := ("MountainWatchModel", prog_8_method_39_code, 2, 6, 145, some .int)
abbrev y_MO_isNode : MethodName := ⟨"MountainWatchModel", "isNode", "(I)Z"⟩
abbrev M_MO_isNode : MI := ("MountainWatchModel", prog_8_method_40_code, 2, 1, 22, some .boolean)
abbrev y_MO_children : MethodName := ⟨"MountainWatchModel", "children", "(I)I"⟩
abbrev M_MO_children : MI := ("MountainWatchModel", prog_8_method_41_code, 4, 0, 0, some .int)
abbrev y_MO_depth : MethodName := ⟨"MountainWatchModel", "depth", "(I)I"⟩
abbrev M_MO_depth : MI := ("MountainWatchModel", prog_8_method_42_code, 4, 0, 0, some .int)
abbrev y_MO_isShare : MethodName := ⟨"MountainWatchModel", "isShare", "(II)Z"⟩
abbrev M_MO_isShare : MI := ("MountainWatchModel", prog_8_method_43_code, 2, 1, 22, some .boolean)
abbrev y_MO_node : MethodName := ⟨"MountainWatchModel", "node", "(III)I"⟩
abbrev M_MO_node : MI := ("MountainWatchModel", prog_8_method_44_code, 4, 2, 43, some .int)
abbrev y_MO_share : MethodName := ⟨"MountainWatchModel", "share", "(III)I"⟩
abbrev M_MO_share : MI := ("MountainWatchModel", prog_8_method_45_code, 4, 2, 43, some .int)
abbrev y_MO_fear : MethodName := ⟨"MountainWatchModel", "fear", "(IZ)I"⟩
abbrev M_MO_fear : MI := ("MountainWatchModel", prog_8_method_46_code, 4, 2, 43, some .int)
abbrev y_MO_bounds : MethodName := ⟨"MountainWatchModel", "bounds", "(I[I)I"⟩
abbrev M_MO_bounds : MI := ("MountainWatchModel", prog_8_method_47_code, 5, 0, 0, some .int)
abbrev y_MO_isSound : MethodName := ⟨"MountainWatchModel", "isSound", "()Z"⟩
abbrev M_MO_isSound : MI := ("MountainWatchModel", prog_8_method_48_code, 3, 1, 24, some .boolean)
abbrev y_MO_sound : MethodName := ⟨"MountainWatchModel", "sound", "()I"⟩
abbrev M_MO_sound : MI := ("MountainWatchModel", prog_8_method_49_code, 1, 2, 46, some .int)
abbrev y_MO_mixed : MethodName := ⟨"MountainWatchModel", "mixed", "(II)J"⟩
abbrev M_MO_mixed : MI := ("MountainWatchModel", prog_8_method_50_code, 9, 1, 24, some .long)
abbrev y_MO_chance : MethodName := ⟨"MountainWatchModel", "chance", "(II)I"⟩
abbrev M_MO_chance : MI := ("MountainWatchModel", prog_8_method_51_code, 4, 2, 52, some .int)
abbrev y_MO_ofNode : MethodName := ⟨"MountainWatchModel", "ofNode", "(II)I"⟩
abbrev M_MO_ofNode : MI := ("MountainWatchModel", prog_8_method_52_code, 3, 2, 43, some .int)
abbrev y_LA_init : MethodName := ⟨"MountainWatch$Laws", "<init>", "()V"⟩
abbrev M_LA_init : MI := ("MountainWatch$Laws", prog_2_method_1_code, 1, 1, 12, none)
abbrev y_LA_has : MethodName := ⟨"MountainWatch$Laws", "has", "(I)Z"⟩
abbrev M_LA_has : MI := ("MountainWatch$Laws", prog_2_method_2_code, 2, 0, 0, some .boolean)
abbrev y_LA_add : MethodName := ⟨"MountainWatch$Laws", "add", "(IIII)I"⟩
abbrev M_LA_add : MI := ("MountainWatch$Laws", prog_2_method_3_code, 6, 0, 0, some .int)
abbrev y_ME_init : MethodName := ⟨"MountainWatch$Messages", "<init>", "()V"⟩
abbrev M_ME_init : MI := ("MountainWatch$Messages", prog_3_method_1_code, 1, 1, 12, none)
abbrev y_ME_place : MethodName := ⟨"MountainWatch$Messages", "place", "(ZI)I"⟩
abbrev M_ME_place : MI := ("MountainWatch$Messages", prog_3_method_2_code, 2, 0, 0, some .int)
abbrev y_ME_isKept : MethodName := ⟨"MountainWatch$Messages", "isKept", "(ZI)Z"⟩
abbrev M_ME_isKept : MI := ("MountainWatch$Messages", prog_3_method_3_code, 3, 0, 0, some .boolean)
abbrev y_ME_add : MethodName := ⟨"MountainWatch$Messages", "add", "(ZIII)I"⟩
abbrev M_ME_add : MI := ("MountainWatch$Messages", prog_3_method_4_code, 7, 1, 21, some .int)
abbrev y_ME_takeNumber : MethodName := ⟨"MountainWatch$Messages", "takeNumber", "(Z)I"⟩
abbrev M_ME_takeNumber : MI := ("MountainWatch$Messages", prog_3_method_5_code, 2, 0, 0, some .int)
abbrev y_ME_countKept : MethodName := ⟨"MountainWatch$Messages", "countKept", "(Z)V"⟩
abbrev M_ME_countKept : MI := ("MountainWatch$Messages", prog_3_method_6_code, 2, 0, 0, none)
abbrev y_RE_init : MethodName := ⟨"MountainWatch$Readings", "<init>", "()V"⟩
abbrev M_RE_init : MI := ("MountainWatch$Readings", prog_4_method_1_code, 1, 1, 12, none)
abbrev y_RE_carryTiltTo : MethodName := ⟨"MountainWatch$Readings", "carryTiltTo", "(I)V"⟩
abbrev M_RE_carryTiltTo : MI := ("MountainWatch$Readings", prog_4_method_2_code, 2, 0, 0, none)
abbrev y_RE_tiltMove : MethodName := ⟨"MountainWatch$Readings", "tiltMove", "(II)I"⟩
abbrev M_RE_tiltMove : MI := ("MountainWatch$Readings", prog_4_method_3_code, 3, 1, 21, some .int)
abbrev y_RE_gasOfDays : MethodName := ⟨"MountainWatch$Readings", "gasOfDays", "(II)I"⟩
abbrev M_RE_gasOfDays : MI := ("MountainWatch$Readings", prog_4_method_4_code, 5, 0, 0, some .int)
abbrev y_SH_init : MethodName := ⟨"MountainWatch$Shakes", "<init>", "()V"⟩
abbrev M_SH_init : MI := ("MountainWatch$Shakes", prog_5_method_1_code, 1, 1, 12, none)
abbrev y_SH_has : MethodName := ⟨"MountainWatch$Shakes", "has", "(I)Z"⟩
abbrev M_SH_has : MI := ("MountainWatch$Shakes", prog_5_method_2_code, 2, 0, 0, some .boolean)
abbrev y_SH_band : MethodName := ⟨"MountainWatch$Shakes", "band", "(II)I"⟩
abbrev M_SH_band : MI := ("MountainWatch$Shakes", prog_5_method_3_code, 3, 0, 0, some .int)
abbrev y_SH_add : MethodName := ⟨"MountainWatch$Shakes", "add", "(JI)I"⟩
abbrev M_SH_add : MI := ("MountainWatch$Shakes", prog_5_method_4_code, 8, 4, 93, some .int)
abbrev y_SH_kindOf : MethodName := ⟨"MountainWatch$Shakes", "kindOf", "(I)I"⟩
abbrev M_SH_kindOf : MI := ("MountainWatch$Shakes", prog_5_method_5_code, 4, 1, 22, some .int)
abbrev y_SH_product : MethodName := ⟨"MountainWatch$Shakes", "product", "(II)J"⟩
abbrev M_SH_product : MI := ("MountainWatch$Shakes", prog_5_method_6_code, 6, 1, 22, some .long)
abbrev y_SH_areAlike : MethodName := ⟨"MountainWatch$Shakes", "areAlike", "(II)Z"⟩
abbrev M_SH_areAlike : MI := ("MountainWatch$Shakes", prog_5_method_7_code, 5, 2, 47, some .boolean)
abbrev y_SH_askLikeness : MethodName := ⟨"MountainWatch$Shakes", "askLikeness", "(I)V"⟩
abbrev M_SH_askLikeness : MI := ("MountainWatch$Shakes", prog_5_method_8_code, 3, 4, 93, none)
abbrev y_SH_joinFamilies : MethodName := ⟨"MountainWatch$Shakes", "joinFamilies", "(I)V"⟩
abbrev M_SH_joinFamilies : MI := ("MountainWatch$Shakes", prog_5_method_9_code, 3, 3, 71, none)
abbrev y_SH_mergeFamilies : MethodName := ⟨"MountainWatch$Shakes", "mergeFamilies", "(III)V"⟩
abbrev M_SH_mergeFamilies : MI := ("MountainWatch$Shakes", prog_5_method_10_code, 6, 1, 21, none)
abbrev y_SH_countFamilies : MethodName := ⟨"MountainWatch$Shakes", "countFamilies", "()I"⟩
abbrev M_SH_countFamilies : MI := ("MountainWatch$Shakes", prog_5_method_11_code, 3, 0, 0, some .int)
abbrev y_SH_familyByOrder : MethodName := ⟨"MountainWatch$Shakes", "familyByOrder", "(I)I"⟩
abbrev M_SH_familyByOrder : MI := ("MountainWatch$Shakes", prog_5_method_12_code, 4, 0, 0, some .int)
abbrev y_SH_countKin : MethodName := ⟨"MountainWatch$Shakes", "countKin", "(I)I"⟩
abbrev M_SH_countKin : MI := ("MountainWatch$Shakes", prog_5_method_13_code, 4, 0, 0, some .int)
abbrev y_SH_isOfDays : MethodName := ⟨"MountainWatch$Shakes", "isOfDays", "(III)Z"⟩
abbrev M_SH_isOfDays : MI := ("MountainWatch$Shakes", prog_5_method_14_code, 4, 0, 0, some .boolean)
abbrev y_SH_countOfDays : MethodName := ⟨"MountainWatch$Shakes", "countOfDays", "(II)I"⟩
abbrev M_SH_countOfDays : MI := ("MountainWatch$Shakes", prog_5_method_15_code, 5, 1, 23, some .int)
abbrev y_SH_countOfKind : MethodName := ⟨"MountainWatch$Shakes", "countOfKind", "(III)I"⟩
abbrev M_SH_countOfKind : MI := ("MountainWatch$Shakes", prog_5_method_16_code, 6, 1, 23, some .int)
abbrev y_SH_countOfGreatestFamily : MethodName := ⟨"MountainWatch$Shakes", "countOfGreatestFamily", "(II)I"⟩
abbrev M_SH_countOfGreatestFamily : MI := ("MountainWatch$Shakes", prog_5_method_17_code, 6, 1, 23, some .int)
abbrev y_TR_init : MethodName := ⟨"MountainWatch$Tree", "<init>", "()V"⟩
abbrev M_TR_init : MI := ("MountainWatch$Tree", prog_6_method_1_code, 1, 1, 12, none)
abbrev y_TR_has : MethodName := ⟨"MountainWatch$Tree", "has", "(I)Z"⟩
abbrev M_TR_has : MI := ("MountainWatch$Tree", prog_6_method_2_code, 2, 0, 0, some .boolean)
abbrev y_TR_takesChild : MethodName := ⟨"MountainWatch$Tree", "takesChild", "(I)Z"⟩
abbrev M_TR_takesChild : MI := ("MountainWatch$Tree", prog_6_method_3_code, 2, 0, 0, some .boolean)
abbrev y_TR_add : MethodName := ⟨"MountainWatch$Tree", "add", "(III)I"⟩
abbrev M_TR_add : MI := ("MountainWatch$Tree", prog_6_method_4_code, 5, 0, 0, some .int)
abbrev y_TR_isSound : MethodName := ⟨"MountainWatch$Tree", "isSound", "()Z"⟩
abbrev M_TR_isSound : MI := ("MountainWatch$Tree", prog_6_method_5_code, 2, 1, 24, some .boolean)
abbrev y_TR_hasShares : MethodName := ⟨"MountainWatch$Tree", "hasShares", "(I)Z"⟩
abbrev M_TR_hasShares : MI := ("MountainWatch$Tree", prog_6_method_6_code, 5, 0, 0, some .boolean)
abbrev y_TR_chanceOf : MethodName := ⟨"MountainWatch$Tree", "chanceOf", "(IZ)I"⟩
abbrev M_TR_chanceOf : MI := ("MountainWatch$Tree", prog_6_method_7_code, 4, 3, 74, some .int)
abbrev y_TR_chanceByShares : MethodName := ⟨"MountainWatch$Tree", "chanceByShares", "(IZ)I"⟩
abbrev M_TR_chanceByShares : MI := ("MountainWatch$Tree", prog_6_method_8_code, 9, 2, 46, some .int)
abbrev y_TR_bestUnserved : MethodName := ⟨"MountainWatch$Tree", "bestUnserved", "(IZ)I"⟩
abbrev M_TR_bestUnserved : MI := ("MountainWatch$Tree", prog_6_method_9_code, 5, 1, 22, some .int)
abbrev y_TR_isBetter : MethodName := ⟨"MountainWatch$Tree", "isBetter", "(IIZ)Z"⟩
abbrev M_TR_isBetter : MI := ("MountainWatch$Tree", prog_6_method_10_code, 3, 0, 0, some .boolean)
abbrev y_Math_min : MethodName := ⟨"java/lang/Math", "min", "(II)I"⟩
abbrev M_Math_min : MI := ("java/lang/Math", prog_9_method_69_code, 2, 0, 0, some .int)
abbrev y_Math_max : MethodName := ⟨"java/lang/Math", "max", "(II)I"⟩
abbrev M_Math_max : MI := ("java/lang/Math", prog_9_method_65_code, 2, 0, 0, some .int)
abbrev y_Math_abs : MethodName := ⟨"java/lang/Math", "abs", "(I)I"⟩
abbrev M_Math_abs : MI := ("java/lang/Math", prog_9_method_59_code, 1, 0, 0, some .int)
abbrev M_LW_law : MI := ("MountainWatchLaw", code, 4, 9, 336, ret)
