section
-- ===== PART A: goes FIRST, ahead of the names: the tables' words, and 'selects' of the private methods out of them =====
/-- a private method of a class that the tables say can be made, by its rows of tables_1 -/
def lw_okq (q : MethodName × Nat) : Prop := (q.1.cls ≠ "java/lang/invoke/MethodHandle" ∧ q.1.cls ≠ "java/lang/invoke/VarHandle") ∧ Cond.instantiable q.1.cls q.2 ∈ tables_1 ∧ Cond.privateMethod q.1 ∈ tables_1 ∧ Cond.instanceMethod q.1 ∈ tables_1
theorem lw_p0 : lw_okq (⟨"MountainWatch", "isDay", "(I)Z"⟩, 12) := ⟨⟨by decide +kernel, by decide +kernel⟩, List.mem_of_getElem? (i := 10) (by decide +kernel), List.mem_of_getElem? (i := 305) (by decide +kernel), List.mem_of_getElem? (i := 306) (by decide +kernel)⟩
theorem lw_p1 : lw_okq (⟨"MountainWatch", "measured", "(II)I"⟩, 12) := ⟨⟨by decide +kernel, by decide +kernel⟩, List.mem_of_getElem? (i := 10) (by decide +kernel), List.mem_of_getElem? (i := 337) (by decide +kernel), List.mem_of_getElem? (i := 338) (by decide +kernel)⟩
theorem lw_p2 : lw_okq (⟨"MountainWatch", "holdsTrue", "(II)Z"⟩, 12) := ⟨⟨by decide +kernel, by decide +kernel⟩, List.mem_of_getElem? (i := 10) (by decide +kernel), List.mem_of_getElem? (i := 376) (by decide +kernel), List.mem_of_getElem? (i := 377) (by decide +kernel)⟩
theorem lw_p3 : lw_okq (⟨"MountainWatch", "endToday", "()V"⟩, 12) := ⟨⟨by decide +kernel, by decide +kernel⟩, List.mem_of_getElem? (i := 10) (by decide +kernel), List.mem_of_getElem? (i := 388) (by decide +kernel), List.mem_of_getElem? (i := 389) (by decide +kernel)⟩
theorem lw_p4 : lw_okq (⟨"MountainWatch", "wantedToday", "()I"⟩, 12) := ⟨⟨by decide +kernel, by decide +kernel⟩, List.mem_of_getElem? (i := 10) (by decide +kernel), List.mem_of_getElem? (i := 392) (by decide +kernel), List.mem_of_getElem? (i := 393) (by decide +kernel)⟩
theorem lw_p5 : lw_okq (⟨"MountainWatch", "heldToday", "()I"⟩, 12) := ⟨⟨by decide +kernel, by decide +kernel⟩, List.mem_of_getElem? (i := 10) (by decide +kernel), List.mem_of_getElem? (i := 396) (by decide +kernel), List.mem_of_getElem? (i := 397) (by decide +kernel)⟩
theorem lw_p6 : lw_okq (⟨"MountainWatch", "reasonToRaise", "(I)I"⟩, 12) := ⟨⟨by decide +kernel, by decide +kernel⟩, List.mem_of_getElem? (i := 10) (by decide +kernel), List.mem_of_getElem? (i := 400) (by decide +kernel), List.mem_of_getElem? (i := 401) (by decide +kernel)⟩
theorem lw_p7 : lw_okq (⟨"MountainWatch", "setLevel", "(II)I"⟩, 12) := ⟨⟨by decide +kernel, by decide +kernel⟩, List.mem_of_getElem? (i := 10) (by decide +kernel), List.mem_of_getElem? (i := 404) (by decide +kernel), List.mem_of_getElem? (i := 405) (by decide +kernel)⟩
theorem lw_p8 : lw_okq (⟨"MountainWatchModel", "isShake", "(I)Z"⟩, 32) := ⟨⟨by decide +kernel, by decide +kernel⟩, List.mem_of_getElem? (i := 524) (by decide +kernel), List.mem_of_getElem? (i := 638) (by decide +kernel), List.mem_of_getElem? (i := 639) (by decide +kernel)⟩
theorem lw_p9 : lw_okq (⟨"MountainWatchModel", "mark", "()V"⟩, 32) := ⟨⟨by decide +kernel, by decide +kernel⟩, List.mem_of_getElem? (i := 524) (by decide +kernel), List.mem_of_getElem? (i := 645) (by decide +kernel), List.mem_of_getElem? (i := 646) (by decide +kernel)⟩
theorem lw_p10 : lw_okq (⟨"MountainWatchModel", "areAlike", "(II)Z"⟩, 32) := ⟨⟨by decide +kernel, by decide +kernel⟩, List.mem_of_getElem? (i := 524) (by decide +kernel), List.mem_of_getElem? (i := 649) (by decide +kernel), List.mem_of_getElem? (i := 650) (by decide +kernel)⟩
theorem lw_p11 : lw_okq (⟨"MountainWatchModel", "product", "(II)J"⟩, 32) := ⟨⟨by decide +kernel, by decide +kernel⟩, List.mem_of_getElem? (i := 524) (by decide +kernel), List.mem_of_getElem? (i := 653) (by decide +kernel), List.mem_of_getElem? (i := 654) (by decide +kernel)⟩
theorem lw_p12 : lw_okq (⟨"MountainWatchModel", "kindOf", "(I)I"⟩, 32) := ⟨⟨by decide +kernel, by decide +kernel⟩, List.mem_of_getElem? (i := 524) (by decide +kernel), List.mem_of_getElem? (i := 658) (by decide +kernel), List.mem_of_getElem? (i := 659) (by decide +kernel)⟩
theorem lw_p13 : lw_okq (⟨"MountainWatchModel", "isDay", "(I)Z"⟩, 32) := ⟨⟨by decide +kernel, by decide +kernel⟩, List.mem_of_getElem? (i := 524) (by decide +kernel), List.mem_of_getElem? (i := 690) (by decide +kernel), List.mem_of_getElem? (i := 691) (by decide +kernel)⟩
theorem lw_p14 : lw_okq (⟨"MountainWatchModel", "tiltDay", "(I)I"⟩, 32) := ⟨⟨by decide +kernel, by decide +kernel⟩, List.mem_of_getElem? (i := 524) (by decide +kernel), List.mem_of_getElem? (i := 695) (by decide +kernel), List.mem_of_getElem? (i := 696) (by decide +kernel)⟩
theorem lw_p15 : lw_okq (⟨"MountainWatchModel", "isLaw", "(I)Z"⟩, 32) := ⟨⟨by decide +kernel, by decide +kernel⟩, List.mem_of_getElem? (i := 524) (by decide +kernel), List.mem_of_getElem? (i := 712) (by decide +kernel), List.mem_of_getElem? (i := 713) (by decide +kernel)⟩
def lw_privs_1 : List (MethodName × Nat) := [(⟨"MountainWatch", "isDay", "(I)Z"⟩, 12), (⟨"MountainWatch", "measured", "(II)I"⟩, 12), (⟨"MountainWatch", "holdsTrue", "(II)Z"⟩, 12), (⟨"MountainWatch", "endToday", "()V"⟩, 12), (⟨"MountainWatch", "wantedToday", "()I"⟩, 12), (⟨"MountainWatch", "heldToday", "()I"⟩, 12), (⟨"MountainWatch", "reasonToRaise", "(I)I"⟩, 12), (⟨"MountainWatch", "setLevel", "(II)I"⟩, 12), (⟨"MountainWatchModel", "isShake", "(I)Z"⟩, 32), (⟨"MountainWatchModel", "mark", "()V"⟩, 32), (⟨"MountainWatchModel", "areAlike", "(II)Z"⟩, 32), (⟨"MountainWatchModel", "product", "(II)J"⟩, 32), (⟨"MountainWatchModel", "kindOf", "(I)I"⟩, 32), (⟨"MountainWatchModel", "isDay", "(I)Z"⟩, 32), (⟨"MountainWatchModel", "tiltDay", "(I)I"⟩, 32), (⟨"MountainWatchModel", "isLaw", "(I)Z"⟩, 32)]
theorem lw_r1 : ∀ q ∈ lw_privs_1, lw_okq q := List.forall_mem_cons.mpr ⟨lw_p0, List.forall_mem_cons.mpr ⟨lw_p1, List.forall_mem_cons.mpr ⟨lw_p2, List.forall_mem_cons.mpr ⟨lw_p3, List.forall_mem_cons.mpr ⟨lw_p4, List.forall_mem_cons.mpr ⟨lw_p5, List.forall_mem_cons.mpr ⟨lw_p6, List.forall_mem_cons.mpr ⟨lw_p7, List.forall_mem_cons.mpr ⟨lw_p8, List.forall_mem_cons.mpr ⟨lw_p9, List.forall_mem_cons.mpr ⟨lw_p10, List.forall_mem_cons.mpr ⟨lw_p11, List.forall_mem_cons.mpr ⟨lw_p12, List.forall_mem_cons.mpr ⟨lw_p13, List.forall_mem_cons.mpr ⟨lw_p14, List.forall_mem_cons.mpr ⟨lw_p15, fun _ h => absurd h List.not_mem_nil⟩⟩⟩⟩⟩⟩⟩⟩⟩⟩⟩⟩⟩⟩⟩⟩
theorem lw_p16 : lw_okq (⟨"MountainWatchModel", "measureOf", "(II)I"⟩, 32) := ⟨⟨by decide +kernel, by decide +kernel⟩, List.mem_of_getElem? (i := 524) (by decide +kernel), List.mem_of_getElem? (i := 720) (by decide +kernel), List.mem_of_getElem? (i := 721) (by decide +kernel)⟩
theorem lw_p17 : lw_okq (⟨"MountainWatchModel", "within", "(III)I"⟩, 32) := ⟨⟨by decide +kernel, by decide +kernel⟩, List.mem_of_getElem? (i := 524) (by decide +kernel), List.mem_of_getElem? (i := 724) (by decide +kernel), List.mem_of_getElem? (i := 725) (by decide +kernel)⟩
theorem lw_p18 : lw_okq (⟨"MountainWatchModel", "holdsOn", "(II)Z"⟩, 32) := ⟨⟨by decide +kernel, by decide +kernel⟩, List.mem_of_getElem? (i := 524) (by decide +kernel), List.mem_of_getElem? (i := 732) (by decide +kernel), List.mem_of_getElem? (i := 733) (by decide +kernel)⟩
theorem lw_p19 : lw_okq (⟨"MountainWatchModel", "wanted", "()I"⟩, 32) := ⟨⟨by decide +kernel, by decide +kernel⟩, List.mem_of_getElem? (i := 524) (by decide +kernel), List.mem_of_getElem? (i := 744) (by decide +kernel), List.mem_of_getElem? (i := 745) (by decide +kernel)⟩
theorem lw_p20 : lw_okq (⟨"MountainWatchModel", "holdNow", "()I"⟩, 32) := ⟨⟨by decide +kernel, by decide +kernel⟩, List.mem_of_getElem? (i := 524) (by decide +kernel), List.mem_of_getElem? (i := 748) (by decide +kernel), List.mem_of_getElem? (i := 749) (by decide +kernel)⟩
theorem lw_p21 : lw_okq (⟨"MountainWatchModel", "turns", "(II)I"⟩, 32) := ⟨⟨by decide +kernel, by decide +kernel⟩, List.mem_of_getElem? (i := 524) (by decide +kernel), List.mem_of_getElem? (i := 752) (by decide +kernel), List.mem_of_getElem? (i := 753) (by decide +kernel)⟩
theorem lw_p22 : lw_okq (⟨"MountainWatchModel", "tells", "(IIII)V"⟩, 32) := ⟨⟨by decide +kernel, by decide +kernel⟩, List.mem_of_getElem? (i := 524) (by decide +kernel), List.mem_of_getElem? (i := 756) (by decide +kernel), List.mem_of_getElem? (i := 757) (by decide +kernel)⟩
theorem lw_p23 : lw_okq (⟨"MountainWatchModel", "isNode", "(I)Z"⟩, 32) := ⟨⟨by decide +kernel, by decide +kernel⟩, List.mem_of_getElem? (i := 524) (by decide +kernel), List.mem_of_getElem? (i := 788) (by decide +kernel), List.mem_of_getElem? (i := 789) (by decide +kernel)⟩
theorem lw_p24 : lw_okq (⟨"MountainWatchModel", "depth", "(I)I"⟩, 32) := ⟨⟨by decide +kernel, by decide +kernel⟩, List.mem_of_getElem? (i := 524) (by decide +kernel), List.mem_of_getElem? (i := 795) (by decide +kernel), List.mem_of_getElem? (i := 796) (by decide +kernel)⟩
theorem lw_p25 : lw_okq (⟨"MountainWatchModel", "children", "(I)I"⟩, 32) := ⟨⟨by decide +kernel, by decide +kernel⟩, List.mem_of_getElem? (i := 524) (by decide +kernel), List.mem_of_getElem? (i := 799) (by decide +kernel), List.mem_of_getElem? (i := 800) (by decide +kernel)⟩
theorem lw_p26 : lw_okq (⟨"MountainWatchModel", "isSound", "()Z"⟩, 32) := ⟨⟨by decide +kernel, by decide +kernel⟩, List.mem_of_getElem? (i := 524) (by decide +kernel), List.mem_of_getElem? (i := 815) (by decide +kernel), List.mem_of_getElem? (i := 816) (by decide +kernel)⟩
theorem lw_p27 : lw_okq (⟨"MountainWatchModel", "bounds", "(I[I)I"⟩, 32) := ⟨⟨by decide +kernel, by decide +kernel⟩, List.mem_of_getElem? (i := 524) (by decide +kernel), List.mem_of_getElem? (i := 819) (by decide +kernel), List.mem_of_getElem? (i := 820) (by decide +kernel)⟩
theorem lw_p28 : lw_okq (⟨"MountainWatchModel", "mixed", "(II)J"⟩, 32) := ⟨⟨by decide +kernel, by decide +kernel⟩, List.mem_of_getElem? (i := 524) (by decide +kernel), List.mem_of_getElem? (i := 827) (by decide +kernel), List.mem_of_getElem? (i := 828) (by decide +kernel)⟩
def lw_privs_2 : List (MethodName × Nat) := [(⟨"MountainWatchModel", "measureOf", "(II)I"⟩, 32), (⟨"MountainWatchModel", "within", "(III)I"⟩, 32), (⟨"MountainWatchModel", "holdsOn", "(II)Z"⟩, 32), (⟨"MountainWatchModel", "wanted", "()I"⟩, 32), (⟨"MountainWatchModel", "holdNow", "()I"⟩, 32), (⟨"MountainWatchModel", "turns", "(II)I"⟩, 32), (⟨"MountainWatchModel", "tells", "(IIII)V"⟩, 32), (⟨"MountainWatchModel", "isNode", "(I)Z"⟩, 32), (⟨"MountainWatchModel", "depth", "(I)I"⟩, 32), (⟨"MountainWatchModel", "children", "(I)I"⟩, 32), (⟨"MountainWatchModel", "isSound", "()Z"⟩, 32), (⟨"MountainWatchModel", "bounds", "(I[I)I"⟩, 32), (⟨"MountainWatchModel", "mixed", "(II)J"⟩, 32)]
theorem lw_r2 : ∀ q ∈ lw_privs_2, lw_okq q := List.forall_mem_cons.mpr ⟨lw_p16, List.forall_mem_cons.mpr ⟨lw_p17, List.forall_mem_cons.mpr ⟨lw_p18, List.forall_mem_cons.mpr ⟨lw_p19, List.forall_mem_cons.mpr ⟨lw_p20, List.forall_mem_cons.mpr ⟨lw_p21, List.forall_mem_cons.mpr ⟨lw_p22, List.forall_mem_cons.mpr ⟨lw_p23, List.forall_mem_cons.mpr ⟨lw_p24, List.forall_mem_cons.mpr ⟨lw_p25, List.forall_mem_cons.mpr ⟨lw_p26, List.forall_mem_cons.mpr ⟨lw_p27, List.forall_mem_cons.mpr ⟨lw_p28, fun _ h => absurd h List.not_mem_nil⟩⟩⟩⟩⟩⟩⟩⟩⟩⟩⟩⟩⟩
def lw_privs : List (MethodName × Nat) := lw_privs_1 ++ (lw_privs_2)
def lw_tbl : List Cond := k2_sels lw_privs ++ tables_1
theorem lw_privs_ok : ∀ q ∈ lw_privs, lw_okq q := by
  show ∀ q ∈ lw_privs_1 ++ (lw_privs_2), lw_okq q
  exact List.forall_mem_append.mpr ⟨lw_r1, lw_r2⟩
-- ===== end of PART A; then your names; then what follows =====
end
section
abbrev R_MW : String := "MountainWatch"
def F_MW : u_T := fun k => match k with
  | 0 => ("MountainWatch", "shakes", "LMountainWatch$Shakes;", true)
  | 1 => ("MountainWatch", "readings", "LMountainWatch$Readings;", true)
  | 2 => ("MountainWatch", "laws", "LMountainWatch$Laws;", true)
  | 3 => ("MountainWatch", "messages", "LMountainWatch$Messages;", true)
  | 4 => ("MountainWatch", "tree", "LMountainWatch$Tree;", true)
  | 5 => ("MountainWatch", "today", "I", false)
  | 6 => ("MountainWatch", "level", "I", false)
  | 7 => ("MountainWatch", "calm", "I", false)
  | 8 => ("MountainWatch", "restDays", "I", false)
  | 9 => ("MountainWatch", "holdLevel", "I", false)
  | 10 => ("MountainWatch", "holdEnd", "I", false)
  | _ => ("MountainWatch", "drillLevel", "I", false)
def t_MW : Nat → FieldType := fun k => match k with
  | 0 => .object "MountainWatch$Shakes"
  | 1 => .object "MountainWatch$Readings"
  | 2 => .object "MountainWatch$Laws"
  | 3 => .object "MountainWatch$Messages"
  | 4 => .object "MountainWatch$Tree"
  | 5 => .int
  | 6 => .int
  | 7 => .int
  | 8 => .int
  | 9 => .int
  | 10 => .int
  | _ => .int
theorem n_MW : ∀ a, a < 12 → ∀ b, b < 12 → a ≠ b → (F_MW a).2.1 ≠ (F_MW b).2.1 := by decide +kernel
theorem t_MW_ok : ∀ k, k < 12 → parseFieldDescriptor (F_MW k).2.2.1 = some (t_MW k) := by decide +kernel
abbrev R_SH : String := "MountainWatch$Shakes"
def F_SH : u_T := fun k => match k with
  | 0 => ("MountainWatch$Shakes", "bands", "[I", true)
  | 1 => ("MountainWatch$Shakes", "days", "[I", true)
  | 2 => ("MountainWatch$Shakes", "kinds", "[I", true)
  | 3 => ("MountainWatch$Shakes", "families", "[I", true)
  | 4 => ("MountainWatch$Shakes", "tally", "[I", true)
  | 5 => ("MountainWatch$Shakes", "count", "I", false)
  | _ => ("MountainWatch$Shakes", "asked", "I", false)
def t_SH : Nat → FieldType := fun k => match k with
  | 0 => .array .int
  | 1 => .array .int
  | 2 => .array .int
  | 3 => .array .int
  | 4 => .array .int
  | 5 => .int
  | _ => .int
theorem n_SH : ∀ a, a < 7 → ∀ b, b < 7 → a ≠ b → (F_SH a).2.1 ≠ (F_SH b).2.1 := by decide +kernel
theorem t_SH_ok : ∀ k, k < 7 → parseFieldDescriptor (F_SH k).2.2.1 = some (t_SH k) := by decide +kernel
abbrev R_RE : String := "MountainWatch$Readings"
def F_RE : u_T := fun k => match k with
  | 0 => ("MountainWatch$Readings", "tilts", "[I", true)
  | _ => ("MountainWatch$Readings", "gases", "[I", true)
def t_RE : Nat → FieldType := fun k => match k with
  | 0 => .array .int
  | _ => .array .int
theorem n_RE : ∀ a, a < 2 → ∀ b, b < 2 → a ≠ b → (F_RE a).2.1 ≠ (F_RE b).2.1 := by decide +kernel
theorem t_RE_ok : ∀ k, k < 2 → parseFieldDescriptor (F_RE k).2.2.1 = some (t_RE k) := by decide +kernel
abbrev R_LA : String := "MountainWatch$Laws"
def F_LA : u_T := fun k => match k with
  | 0 => ("MountainWatch$Laws", "levels", "[I", true)
  | 1 => ("MountainWatch$Laws", "measures", "[I", true)
  | 2 => ("MountainWatch$Laws", "numbers", "[I", true)
  | 3 => ("MountainWatch$Laws", "spans", "[I", true)
  | _ => ("MountainWatch$Laws", "count", "I", false)
def t_LA : Nat → FieldType := fun k => match k with
  | 0 => .array .int
  | 1 => .array .int
  | 2 => .array .int
  | 3 => .array .int
  | _ => .int
theorem n_LA : ∀ a, a < 5 → ∀ b, b < 5 → a ≠ b → (F_LA a).2.1 ≠ (F_LA b).2.1 := by decide +kernel
theorem t_LA_ok : ∀ k, k < 5 → parseFieldDescriptor (F_LA k).2.2.1 = some (t_LA k) := by decide +kernel
abbrev R_ME : String := "MountainWatch$Messages"
def F_ME : u_T := fun k => match k with
  | 0 => ("MountainWatch$Messages", "days", "[I", true)
  | 1 => ("MountainWatch$Messages", "levels", "[I", true)
  | 2 => ("MountainWatch$Messages", "reasons", "[I", true)
  | 3 => ("MountainWatch$Messages", "count", "I", false)
  | 4 => ("MountainWatch$Messages", "drillCount", "I", false)
  | 5 => ("MountainWatch$Messages", "kept", "I", false)
  | _ => ("MountainWatch$Messages", "keptDrills", "I", false)
def t_ME : Nat → FieldType := fun k => match k with
  | 0 => .array .int
  | 1 => .array .int
  | 2 => .array .int
  | 3 => .int
  | 4 => .int
  | 5 => .int
  | _ => .int
theorem n_ME : ∀ a, a < 7 → ∀ b, b < 7 → a ≠ b → (F_ME a).2.1 ≠ (F_ME b).2.1 := by decide +kernel
theorem t_ME_ok : ∀ k, k < 7 → parseFieldDescriptor (F_ME k).2.2.1 = some (t_ME k) := by decide +kernel
abbrev R_TR : String := "MountainWatch$Tree"
def F_TR : u_T := fun k => match k with
  | 0 => ("MountainWatch$Tree", "parents", "[I", true)
  | 1 => ("MountainWatch$Tree", "lows", "[I", true)
  | 2 => ("MountainWatch$Tree", "highs", "[I", true)
  | 3 => ("MountainWatch$Tree", "depths", "[I", true)
  | 4 => ("MountainWatch$Tree", "childCounts", "[I", true)
  | 5 => ("MountainWatch$Tree", "feared", "[Z", true)
  | 6 => ("MountainWatch$Tree", "chances", "[I", true)
  | 7 => ("MountainWatch$Tree", "served", "[Z", true)
  | _ => ("MountainWatch$Tree", "count", "I", false)
def t_TR : Nat → FieldType := fun k => match k with
  | 0 => .array .int
  | 1 => .array .int
  | 2 => .array .int
  | 3 => .array .int
  | 4 => .array .int
  | 5 => .array .boolean
  | 6 => .array .int
  | 7 => .array .boolean
  | _ => .int
theorem n_TR : ∀ a, a < 9 → ∀ b, b < 9 → a ≠ b → (F_TR a).2.1 ≠ (F_TR b).2.1 := by decide +kernel
theorem t_TR_ok : ∀ k, k < 9 → parseFieldDescriptor (F_TR k).2.2.1 = some (t_TR k) := by decide +kernel
abbrev R_MO : String := "MountainWatchModel"
def F_MO : u_T := fun k => match k with
  | 0 => ("MountainWatchModel", "today", "I", false)
  | 1 => ("MountainWatchModel", "shakes", "I", false)
  | 2 => ("MountainWatchModel", "dayOf", "[I", true)
  | 3 => ("MountainWatchModel", "band", "[I", true)
  | 4 => ("MountainWatchModel", "family", "[I", true)
  | 5 => ("MountainWatchModel", "areMarked", "Z", false)
  | 6 => ("MountainWatchModel", "likeness", "I", false)
  | 7 => ("MountainWatchModel", "hasTilt", "[Z", true)
  | 8 => ("MountainWatchModel", "tilt", "[I", true)
  | 9 => ("MountainWatchModel", "gas", "[I", true)
  | 10 => ("MountainWatchModel", "laws", "I", false)
  | 11 => ("MountainWatchModel", "lawLevel", "[I", true)
  | 12 => ("MountainWatchModel", "lawMeasure", "[I", true)
  | 13 => ("MountainWatchModel", "lawNumber", "[I", true)
  | 14 => ("MountainWatchModel", "lawSpan", "[I", true)
  | 15 => ("MountainWatchModel", "rest", "I", false)
  | 16 => ("MountainWatchModel", "level", "I", false)
  | 17 => ("MountainWatchModel", "calm", "I", false)
  | 18 => ("MountainWatchModel", "holdLevel", "I", false)
  | 19 => ("MountainWatchModel", "holdEnd", "I", false)
  | 20 => ("MountainWatchModel", "kept", "I", false)
  | 21 => ("MountainWatchModel", "message", "[I", true)
  | 22 => ("MountainWatchModel", "messages", "I", false)
  | 23 => ("MountainWatchModel", "drills", "I", false)
  | 24 => ("MountainWatchModel", "drillLevel", "I", false)
  | 25 => ("MountainWatchModel", "nodes", "I", false)
  | 26 => ("MountainWatchModel", "parent", "[I", true)
  | 27 => ("MountainWatchModel", "low", "[I", true)
  | 28 => ("MountainWatchModel", "high", "[I", true)
  | 29 => ("MountainWatchModel", "isFeared", "[Z", true)
  | 30 => ("MountainWatchModel", "chance", "[J", true)
  | _ => ("MountainWatchModel", "isGiven", "[Z", true)
def t_MO : Nat → FieldType := fun k => match k with
  | 0 => .int
  | 1 => .int
  | 2 => .array .int
  | 3 => .array .int
  | 4 => .array .int
  | 5 => .boolean
  | 6 => .int
  | 7 => .array .boolean
  | 8 => .array .int
  | 9 => .array .int
  | 10 => .int
  | 11 => .array .int
  | 12 => .array .int
  | 13 => .array .int
  | 14 => .array .int
  | 15 => .int
  | 16 => .int
  | 17 => .int
  | 18 => .int
  | 19 => .int
  | 20 => .int
  | 21 => .array .int
  | 22 => .int
  | 23 => .int
  | 24 => .int
  | 25 => .int
  | 26 => .array .int
  | 27 => .array .int
  | 28 => .array .int
  | 29 => .array .boolean
  | 30 => .array .long
  | _ => .array .boolean
theorem n_MO : ∀ a, a < 32 → ∀ b, b < 32 → a ≠ b → (F_MO a).2.1 ≠ (F_MO b).2.1 := by decide +kernel
theorem t_MO_ok : ∀ k, k < 32 → parseFieldDescriptor (F_MO k).2.2.1 = some (t_MO k) := by decide +kernel
abbrev classes : List vw_C := [(R_MW, F_MW, 12), (R_SH, F_SH, 7), (R_RE, F_RE, 2), (R_LA, F_LA, 5), (R_ME, F_ME, 7), (R_TR, F_TR, 9), (R_MO, F_MO, 32)]
/-- the words that every method takes with it -/
def TB : List Cond := lw_tbl.filter goodWord
theorem TB_mem {w : Cond} (i : Nat) (h : lw_tbl[i]? = some w) (g : goodWord w = true) : w ∈ TB := List.mem_filter.mpr ⟨List.mem_of_getElem? h, g⟩
theorem TB_good : GoodIn TB TB := fun w h => ⟨h, good_of_word (List.mem_filter.mp h).2⟩
theorem TB_of {args : Array Value} {s : State} (hts : ∀ w ∈ lw_tbl, w.before args s = true) : ∀ w ∈ TB, w.before args s = true := fun w h => hts w (List.mem_filter.mp h).1
theorem i_MW : ∀ w ∈ u_ws R_MW F_MW 12, w ∈ TB := by
  intro w hw
  have e : u_ws R_MW F_MW 12 = ([210, 212, 214, 216, 218, 220, 222, 224, 226, 228, 230, 232] : List Nat).filterMap (fun i => lw_tbl[i]?) := by decide +kernel
  have g : ∀ x ∈ (u_ws R_MW F_MW 12), goodWord x = true := by decide +kernel
  have gw := g w hw
  rw [e] at hw
  obtain ⟨i, -, hi⟩ := List.mem_filterMap.mp hw
  exact TB_mem i hi gw
theorem i_SH : ∀ w ∈ u_ws R_SH F_SH 7, w ∈ TB := by
  intro w hw
  have e : u_ws R_SH F_SH 7 = ([64, 66, 68, 70, 72, 74, 76] : List Nat).filterMap (fun i => lw_tbl[i]?) := by decide +kernel
  have g : ∀ x ∈ (u_ws R_SH F_SH 7), goodWord x = true := by decide +kernel
  have gw := g w hw
  rw [e] at hw
  obtain ⟨i, -, hi⟩ := List.mem_filterMap.mp hw
  exact TB_mem i hi gw
theorem i_RE : ∀ w ∈ u_ws R_RE F_RE 2, w ∈ TB := by
  intro w hw
  have e : u_ws R_RE F_RE 2 = ([91, 93] : List Nat).filterMap (fun i => lw_tbl[i]?) := by decide +kernel
  have g : ∀ x ∈ (u_ws R_RE F_RE 2), goodWord x = true := by decide +kernel
  have gw := g w hw
  rw [e] at hw
  obtain ⟨i, -, hi⟩ := List.mem_filterMap.mp hw
  exact TB_mem i hi gw
theorem i_LA : ∀ w ∈ u_ws R_LA F_LA 5, w ∈ TB := by
  intro w hw
  have e : u_ws R_LA F_LA 5 = ([112, 114, 116, 118, 120] : List Nat).filterMap (fun i => lw_tbl[i]?) := by decide +kernel
  have g : ∀ x ∈ (u_ws R_LA F_LA 5), goodWord x = true := by decide +kernel
  have gw := g w hw
  rw [e] at hw
  obtain ⟨i, -, hi⟩ := List.mem_filterMap.mp hw
  exact TB_mem i hi gw
theorem i_ME : ∀ w ∈ u_ws R_ME F_ME 7, w ∈ TB := by
  intro w hw
  have e : u_ws R_ME F_ME 7 = ([141, 143, 145, 147, 149, 151, 153] : List Nat).filterMap (fun i => lw_tbl[i]?) := by decide +kernel
  have g : ∀ x ∈ (u_ws R_ME F_ME 7), goodWord x = true := by decide +kernel
  have gw := g w hw
  rw [e] at hw
  obtain ⟨i, -, hi⟩ := List.mem_filterMap.mp hw
  exact TB_mem i hi gw
theorem i_TR : ∀ w ∈ u_ws R_TR F_TR 9, w ∈ TB := by
  intro w hw
  have e : u_ws R_TR F_TR 9 = ([178, 180, 182, 184, 186, 188, 190, 192, 194] : List Nat).filterMap (fun i => lw_tbl[i]?) := by decide +kernel
  have g : ∀ x ∈ (u_ws R_TR F_TR 9), goodWord x = true := by decide +kernel
  have gw := g w hw
  rw [e] at hw
  obtain ⟨i, -, hi⟩ := List.mem_filterMap.mp hw
  exact TB_mem i hi gw
theorem i_MO : ∀ w ∈ u_ws R_MO F_MO 32, w ∈ TB := by
  intro w hw
  have e : u_ws R_MO F_MO 32 = ([590, 592, 594, 596, 598, 600, 602, 604, 606, 608, 610, 612, 614, 616, 618, 620, 622, 624, 626, 628, 630, 632, 634, 636, 638, 640, 642, 644, 646, 648, 650, 652] : List Nat).filterMap (fun i => lw_tbl[i]?) := by decide +kernel
  have g : ∀ x ∈ (u_ws R_MO F_MO 32), goodWord x = true := by decide +kernel
  have gw := g w hw
  rw [e] at hw
  obtain ⟨i, -, hi⟩ := List.mem_filterMap.mp hw
  exact TB_mem i hi gw
abbrev MI : Type := String × ByteArray × Nat × Nat × Nat × Option FieldType
abbrev y_MW_init : MethodName := ⟨"MountainWatch", "<init>", "()V"⟩
abbrev M_MW_init : MI := ("MountainWatch", prog_1_method_1_code, 1, 2, 32, none)
abbrev y_MW_shake : MethodName := ⟨"MountainWatch", "shake", "(J)I"⟩
abbrev M_MW_shake : MI := ("MountainWatch", prog_1_method_2_code, 3, 5, 120, some .int)
abbrev y_MW_about : MethodName := ⟨"MountainWatch", "about", "(II)I"⟩
abbrev M_MW_about : MI := ("MountainWatch", prog_1_method_3_code, 3, 1, 22, some .int)
abbrev y_MW_alike : MethodName := ⟨"MountainWatch", "alike", "(II)I"⟩
abbrev M_MW_alike : MI := ("MountainWatch", prog_1_method_4_code, 3, 3, 71, some .int)
abbrev y_MW_likeness : MethodName := ⟨"MountainWatch", "likeness", "(I)I"⟩
abbrev M_MW_likeness : MI := ("MountainWatch", prog_1_method_5_code, 3, 5, 115, some .int)
abbrev y_MW_family : MethodName := ⟨"MountainWatch", "family", "(I)I"⟩
abbrev M_MW_family : MI := ("MountainWatch", prog_1_method_6_code, 2, 1, 23, some .int)
abbrev y_MW_kin : MethodName := ⟨"MountainWatch", "kin", "(I)I"⟩
abbrev M_MW_kin : MI := ("MountainWatch", prog_1_method_7_code, 2, 1, 23, some .int)
abbrev y_MW_tilt : MethodName := ⟨"MountainWatch", "tilt", "(I)I"⟩
abbrev M_MW_tilt : MI := ("MountainWatch", prog_1_method_8_code, 2, 1, 22, some .int)
abbrev y_MW_gas : MethodName := ⟨"MountainWatch", "gas", "(I)I"⟩
abbrev M_MW_gas : MI := ("MountainWatch", prog_1_method_9_code, 2, 1, 22, some .int)
abbrev y_MW_tiltAt : MethodName := ⟨"MountainWatch", "tiltAt", "(I)I"⟩
abbrev M_MW_tiltAt : MI := ("MountainWatch", prog_1_method_10_code, 2, 2, 43, some .int)
abbrev y_MW_gasOf : MethodName := ⟨"MountainWatch", "gasOf", "(I)I"⟩
abbrev M_MW_gasOf : MI := ("MountainWatch", prog_1_method_11_code, 2, 2, 43, some .int)
abbrev y_MW_law : MethodName := ⟨"MountainWatch", "law", "(IIII)I"⟩
abbrev M_MW_law : MI := ("MountainWatch", prog_1_method_12_code, 5, 2, 42, some .int)
abbrev y_MW_change : MethodName := ⟨"MountainWatch", "change", "(III)I"⟩
abbrev M_MW_change : MI := ("MountainWatch", prog_1_method_13_code, 4, 2, 42, some .int)
abbrev y_MW_measure : MethodName := ⟨"MountainWatch", "measure", "(II)I"⟩
abbrev M_MW_measure : MI := ("MountainWatch", prog_1_method_14_code, 3, 3, 73, some .int)
abbrev y_MW_isTrue : MethodName := ⟨"MountainWatch", "isTrue", "(II)I"⟩
abbrev M_MW_isTrue : MI := ("MountainWatch", prog_1_method_15_code, 3, 4, 95, some .int)
abbrev y_MW_rest : MethodName := ⟨"MountainWatch", "rest", "(I)I"⟩
abbrev M_MW_rest : MI := ("MountainWatch", prog_1_method_16_code, 3, 1, 22, some .int)
abbrev y_MW_next : MethodName := ⟨"MountainWatch", "next", "()I"⟩
abbrev M_MW_next : MI := ("MountainWatch", prog_1_method_17_code, 1, 6, 138, some .int)
abbrev y_MW_hold : MethodName := ⟨"MountainWatch", "hold", "(II)I"⟩
abbrev M_MW_hold : MI := ("MountainWatch", prog_1_method_18_code, 3, 2, 42, some .int)
abbrev y_MW_release : MethodName := ⟨"MountainWatch", "release", "()I"⟩
abbrev M_MW_release : MI := ("MountainWatch", prog_1_method_19_code, 2, 1, 20, some .int)
abbrev y_MW_word : MethodName := ⟨"MountainWatch", "word", "(I)I"⟩
abbrev M_MW_word : MI := ("MountainWatch", prog_1_method_20_code, 2, 3, 69, some .int)
abbrev y_MW_drill : MethodName := ⟨"MountainWatch", "drill", "(I)I"⟩
abbrev M_MW_drill : MI := ("MountainWatch", prog_1_method_21_code, 2, 2, 47, some .int)
abbrev y_MW_message : MethodName := ⟨"MountainWatch", "message", "(ZII)I"⟩
abbrev M_MW_message : MI := ("MountainWatch", prog_1_method_22_code, 5, 1, 22, some .int)
abbrev y_MW_told : MethodName := ⟨"MountainWatch", "told", "(I)I"⟩
abbrev M_MW_told : MI := ("MountainWatch", prog_1_method_23_code, 2, 5, 117, some .int)
abbrev y_MW_node : MethodName := ⟨"MountainWatch", "node", "(III)I"⟩
abbrev M_MW_node : MI := ("MountainWatch", prog_1_method_24_code, 4, 1, 24, some .int)
abbrev y_MW_share : MethodName := ⟨"MountainWatch", "share", "(III)I"⟩
abbrev M_MW_share : MI := ("MountainWatch", prog_1_method_25_code, 4, 1, 21, some .int)
abbrev y_MW_fear : MethodName := ⟨"MountainWatch", "fear", "(IZ)I"⟩
abbrev M_MW_fear : MI := ("MountainWatch", prog_1_method_26_code, 4, 1, 21, some .int)
abbrev y_MW_sound : MethodName := ⟨"MountainWatch", "sound", "()I"⟩
abbrev M_MW_sound : MI := ("MountainWatch", prog_1_method_27_code, 1, 2, 45, some .int)
abbrev y_MW_chance : MethodName := ⟨"MountainWatch", "chance", "(II)I"⟩
abbrev M_MW_chance : MI := ("MountainWatch", prog_1_method_28_code, 3, 4, 97, some .int)
abbrev y_MW_ofNode : MethodName := ⟨"MountainWatch", "ofNode", "(II)I"⟩
abbrev M_MW_ofNode : MI := ("MountainWatch", prog_1_method_29_code, 3, 1, 21, some .int)
abbrev y_MW_isWithin : MethodName := ⟨"MountainWatch", "isWithin", "(III)Z"⟩
abbrev M_MW_isWithin : MI := ("MountainWatch", prog_1_method_30_code, 3, 0, 0, some .boolean)
abbrev y_MW_oneIf : MethodName := ⟨"MountainWatch", "oneIf", "(Z)I"⟩
abbrev M_MW_oneIf : MI := ("MountainWatch", prog_1_method_31_code, 1, 0, 0, some .int)
abbrev y_MW_isLevel : MethodName := ⟨"MountainWatch", "isLevel", "(I)Z"⟩
abbrev M_MW_isLevel : MI := ("MountainWatch", prog_1_method_32_code, 1, 1, 22, some .boolean)
abbrev y_MW_isLawLevel : MethodName := ⟨"MountainWatch", "isLawLevel", "(I)Z"⟩
abbrev M_MW_isLawLevel : MI := ("MountainWatch", prog_1_method_33_code, 1, 1, 22, some .boolean)
abbrev y_MW_areBounds : MethodName := ⟨"MountainWatch", "areBounds", "(II)Z"⟩
abbrev M_MW_areBounds : MI := ("MountainWatch", prog_1_method_34_code, 2, 0, 0, some .boolean)
abbrev y_MW_isDay : MethodName := ⟨"MountainWatch", "isDay", "(I)Z"⟩
abbrev M_MW_isDay : MI := ("MountainWatch", prog_1_method_35_code, 2, 1, 22, some .boolean)
abbrev y_MW_measured : MethodName := ⟨"MountainWatch", "measured", "(II)I"⟩
abbrev M_MW_measured : MI := ("MountainWatch", prog_1_method_36_code, 6, 2, 48, some .int)
abbrev y_MW_holdsTrue : MethodName := ⟨"MountainWatch", "holdsTrue", "(II)Z"⟩
abbrev M_MW_holdsTrue : MI := ("MountainWatch", prog_1_method_37_code, 3, 3, 73, some .boolean)
abbrev y_MW_heldToday : MethodName := ⟨"MountainWatch", "heldToday", "()I"⟩
abbrev M_MW_heldToday : MI := ("MountainWatch", prog_1_method_38_code, 1, 0, 0, some .int)
abbrev y_MW_wantedToday : MethodName := ⟨"MountainWatch", "wantedToday", "()I"⟩
abbrev M_MW_wantedToday : MI := ("MountainWatch", prog_1_method_39_code, 3, 4, 95, some .int)
abbrev y_MW_reasonToRaise : MethodName := ⟨"MountainWatch", "reasonToRaise", "(I)I"⟩
abbrev M_MW_reasonToRaise : MI := ("MountainWatch", prog_1_method_40_code, 3, 4, 95, some .int)
abbrev y_MW_endToday : MethodName := ⟨"MountainWatch", "endToday", "()V"⟩
abbrev M_MW_endToday : MI := ("MountainWatch", prog_1_method_41_code, 2, 5, 117, none)
abbrev y_MW_setLevel : MethodName := ⟨"MountainWatch", "setLevel", "(II)I"⟩
abbrev M_MW_setLevel : MI := ("MountainWatch", prog_1_method_42_code, 3, 2, 47, some .int)
abbrev y_MO_init : MethodName := ⟨"MountainWatchModel", "<init>", "()V"⟩
abbrev M_MO_init : MI := ("MountainWatchModel", prog_8_method_1_code, 1, 1, 12, none)
abbrev y_MO_in : MethodName := ⟨"MountainWatchModel", "in", "(III)Z"⟩
abbrev M_MO_in : MI := ("MountainWatchModel", prog_8_method_2_code, 3, 0, 0, some .boolean)
abbrev y_MO_isShake : MethodName := ⟨"MountainWatchModel", "isShake", "(I)Z"⟩
abbrev M_MO_isShake : MI := ("MountainWatchModel", prog_8_method_3_code, 2, 1, 22, some .boolean)
abbrev y_MO_shake : MethodName := ⟨"MountainWatchModel", "shake", "(J)I"⟩
abbrev M_MO_shake : MI := ("MountainWatchModel", prog_8_method_4_code, 6, 0, 0, some .int)
abbrev y_MO_kindOf : MethodName := ⟨"MountainWatchModel", "kindOf", "(I)I"⟩
abbrev M_MO_kindOf : MI := ("MountainWatchModel", prog_8_method_5_code, 4, 0, 0, some .int)
abbrev y_MO_product : MethodName := ⟨"MountainWatchModel", "product", "(II)J"⟩
abbrev M_MO_product : MI := ("MountainWatchModel", prog_8_method_6_code, 6, 0, 0, some .long)
abbrev y_MO_areAlike : MethodName := ⟨"MountainWatchModel", "areAlike", "(II)Z"⟩
abbrev M_MO_areAlike : MI := ("MountainWatchModel", prog_8_method_7_code, 5, 1, 25, some .boolean)
abbrev y_MO_mark : MethodName := ⟨"MountainWatchModel", "mark", "()V"⟩
abbrev M_MO_mark : MI := ("MountainWatchModel", prog_8_method_8_code, 4, 2, 49, none)
abbrev y_MO_about : MethodName := ⟨"MountainWatchModel", "about", "(II)I"⟩
abbrev M_MO_about : MI := ("MountainWatchModel", prog_8_method_9_code, 3, 3, 72, some .int)
abbrev y_MO_alike : MethodName := ⟨"MountainWatchModel", "alike", "(II)I"⟩
abbrev M_MO_alike : MI := ("MountainWatchModel", prog_8_method_10_code, 3, 2, 49, some .int)
abbrev y_MO_likeness : MethodName := ⟨"MountainWatchModel", "likeness", "(I)I"⟩
abbrev M_MO_likeness : MI := ("MountainWatchModel", prog_8_method_11_code, 3, 1, 22, some .int)
abbrev y_MO_family : MethodName := ⟨"MountainWatchModel", "family", "(I)I"⟩
abbrev M_MO_family : MI := ("MountainWatchModel", prog_8_method_12_code, 4, 3, 72, some .int)
abbrev y_MO_kin : MethodName := ⟨"MountainWatchModel", "kin", "(I)I"⟩
abbrev M_MO_kin : MI := ("MountainWatchModel", prog_8_method_13_code, 4, 3, 72, some .int)
abbrev y_MO_tilt : MethodName := ⟨"MountainWatchModel", "tilt", "(I)I"⟩
abbrev M_MO_tilt : MI := ("MountainWatchModel", prog_8_method_14_code, 2, 1, 22, some .int)
abbrev y_MO_gas : MethodName := ⟨"MountainWatchModel", "gas", "(I)I"⟩
abbrev M_MO_gas : MI := ("MountainWatchModel", prog_8_method_15_code, 2, 1, 22, some .int)
abbrev y_MO_isDay : MethodName := ⟨"MountainWatchModel", "isDay", "(I)Z"⟩
abbrev M_MO_isDay : MI := ("MountainWatchModel", prog_8_method_16_code, 2, 1, 22, some .boolean)
abbrev y_MO_tiltDay : MethodName := ⟨"MountainWatchModel", "tiltDay", "(I)I"⟩
abbrev M_MO_tiltDay : MI := ("MountainWatchModel", prog_8_method_17_code, 3, 0, 0, some .int)
abbrev y_MO_tiltAt : MethodName := ⟨"MountainWatchModel", "tiltAt", "(I)I"⟩
abbrev M_MO_tiltAt : MI := ("MountainWatchModel", prog_8_method_18_code, 3, 2, 43, some .int)
abbrev y_MO_gasOf : MethodName := ⟨"MountainWatchModel", "gasOf", "(I)I"⟩
abbrev M_MO_gasOf : MI := ("MountainWatchModel", prog_8_method_19_code, 2, 2, 43, some .int)
abbrev y_MO_law : MethodName := ⟨"MountainWatchModel", "law", "(IIII)I"⟩
abbrev M_MO_law : MI := ("MountainWatchModel", prog_8_method_20_code, 5, 1, 22, some .int)
abbrev y_MO_isLaw : MethodName := ⟨"MountainWatchModel", "isLaw", "(I)Z"⟩
abbrev M_MO_isLaw : MI := ("MountainWatchModel", prog_8_method_21_code, 2, 1, 22, some .boolean)
abbrev y_MO_change : MethodName := ⟨"MountainWatchModel", "change", "(III)I"⟩
abbrev M_MO_change : MI := ("MountainWatchModel", prog_8_method_22_code, 4, 2, 43, some .int)
abbrev y_MO_within : MethodName := ⟨"MountainWatchModel", "within", "(III)I"⟩
abbrev M_MO_within : MI := ("MountainWatchModel", prog_8_method_23_code, 7, 1, 23, some .int)
abbrev y_MO_measureOf : MethodName := ⟨"MountainWatchModel", "measureOf", "(II)I"⟩
abbrev M_MO_measureOf : MI := ("MountainWatchModel", prog_8_method_24_code, 10, 3, 72, some .int)
abbrev y_MO_holdsOn : MethodName := ⟨"MountainWatchModel", "holdsOn", "(II)Z"⟩
abbrev M_MO_holdsOn : MI := ("MountainWatchModel", prog_8_method_25_code, 3, 4, 101, some .boolean)
abbrev y_MO_measure : MethodName := ⟨"MountainWatchModel", "measure", "(II)I"⟩
abbrev M_MO_measure : MI := ("MountainWatchModel", prog_8_method_26_code, 3, 4, 101, some .int)
abbrev y_MO_isTrue : MethodName := ⟨"MountainWatchModel", "isTrue", "(II)I"⟩
abbrev M_MO_isTrue : MI := ("MountainWatchModel", prog_8_method_27_code, 3, 5, 123, some .int)
abbrev y_MO_rest : MethodName := ⟨"MountainWatchModel", "rest", "(I)I"⟩
abbrev M_MO_rest : MI := ("MountainWatchModel", prog_8_method_28_code, 3, 1, 22, some .int)
abbrev y_MO_holdNow : MethodName := ⟨"MountainWatchModel", "holdNow", "()I"⟩
abbrev M_MO_holdNow : MI := ("MountainWatchModel", prog_8_method_29_code, 1, 0, 0, some .int)
abbrev y_MO_wanted : MethodName := ⟨"MountainWatchModel", "wanted", "()I"⟩
abbrev M_MO_wanted : MI := ("MountainWatchModel", prog_8_method_30_code, 3, 5, 123, some .int)
abbrev y_MO_tells : MethodName := ⟨"MountainWatchModel", "tells", "(IIII)V"⟩
abbrev M_MO_tells : MI := ("MountainWatchModel", prog_8_method_31_code, 5, 0, 0, none)
abbrev y_MO_turns : MethodName := ⟨"MountainWatchModel", "turns", "(II)I"⟩
abbrev M_MO_turns : MI := ("MountainWatchModel", prog_8_method_32_code, 3, 1, 24, some .int)
abbrev y_MO_next : MethodName := ⟨"MountainWatchModel", "next", "()I"⟩
abbrev M_MO_next : MI := ("MountainWatchModel", prog_8_method_33_code, 4, 6, 145, some .int)
abbrev y_MO_hold : MethodName := ⟨"MountainWatchModel", "hold", "(II)I"⟩
abbrev M_MO_hold : MI := ("MountainWatchModel", prog_8_method_34_code, 3, 1, 22, some .int)
abbrev y_MO_release : MethodName := ⟨"MountainWatchModel", "release", "()I"⟩
abbrev M_MO_release : MI := ("MountainWatchModel", prog_8_method_35_code, 2, 1, 20, some .int)
abbrev y_MO_word : MethodName := ⟨"MountainWatchModel", "word", "(I)I"⟩
abbrev M_MO_word : MI := ("MountainWatchModel", prog_8_method_36_code, 2, 2, 46, some .int)
abbrev y_MO_drill : MethodName := ⟨"MountainWatchModel", "drill", "(I)I"⟩
abbrev M_MO_drill : MI := ("MountainWatchModel", prog_8_method_37_code, 2, 1, 24, some .int)
abbrev y_MO_message : MethodName := ⟨"MountainWatchModel", "message", "(ZII)I"⟩
abbrev M_MO_message : MI := ("MountainWatchModel", prog_8_method_38_code, 6, 1, 22, some .int)
abbrev y_MO_told : MethodName := ⟨"MountainWatchModel", "told", "(I)I"⟩
abbrev M_MO_told : MI := ("MountainWatchModel", prog_8_method_39_code, 2, 6, 145, some .int)
abbrev y_MO_isNode : MethodName := ⟨"MountainWatchModel", "isNode", "(I)Z"⟩
abbrev M_MO_isNode : MI := ("MountainWatchModel", prog_8_method_40_code, 2, 1, 22, some .boolean)
abbrev y_MO_children : MethodName := ⟨"MountainWatchModel", "children", "(I)I"⟩
abbrev M_MO_children : MI := ("MountainWatchModel", prog_8_method_41_code, 4, 0, 0, some .int)
abbrev y_MO_depth : MethodName := ⟨"MountainWatchModel", "depth", "(I)I"⟩
abbrev M_MO_depth : MI := ("MountainWatchModel", prog_8_method_42_code, 4, 0, 0, some .int)
abbrev y_MO_isShare : MethodName := ⟨"MountainWatchModel", "isShare", "(II)Z"⟩
abbrev M_MO_isShare : MI := ("MountainWatchModel", prog_8_method_43_code, 2, 1, 22, some .boolean)
abbrev y_MO_node : MethodName := ⟨"MountainWatchModel", "node", "(III)I"⟩
abbrev M_MO_node : MI := ("MountainWatchModel", prog_8_method_44_code, 4, 2, 43, some .int)
abbrev y_MO_share : MethodName := ⟨"MountainWatchModel", "share", "(III)I"⟩
abbrev M_MO_share : MI := ("MountainWatchModel", prog_8_method_45_code, 4, 2, 43, some .int)
abbrev y_MO_fear : MethodName := ⟨"MountainWatchModel", "fear", "(IZ)I"⟩
abbrev M_MO_fear : MI := ("MountainWatchModel", prog_8_method_46_code, 4, 2, 43, some .int)
abbrev y_MO_bounds : MethodName := ⟨"MountainWatchModel", "bounds", "(I[I)I"⟩
abbrev M_MO_bounds : MI := ("MountainWatchModel", prog_8_method_47_code, 5, 0, 0, some .int)
abbrev y_MO_isSound : MethodName := ⟨"MountainWatchModel", "isSound", "()Z"⟩
abbrev M_MO_isSound : MI := ("MountainWatchModel", prog_8_method_48_code, 3, 1, 24, some .boolean)
abbrev y_MO_sound : MethodName := ⟨"MountainWatchModel", "sound", "()I"⟩
abbrev M_MO_sound : MI := ("MountainWatchModel", prog_8_method_49_code, 1, 2, 46, some .int)
abbrev y_MO_mixed : MethodName := ⟨"MountainWatchModel", "mixed", "(II)J"⟩
abbrev M_MO_mixed : MI := ("MountainWatchModel", prog_8_method_50_code, 9, 1, 24, some .long)
abbrev y_MO_chance : MethodName := ⟨"MountainWatchModel", "chance", "(II)I"⟩
abbrev M_MO_chance : MI := ("MountainWatchModel", prog_8_method_51_code, 4, 2, 52, some .int)
abbrev y_MO_ofNode : MethodName := ⟨"MountainWatchModel", "ofNode", "(II)I"⟩
abbrev M_MO_ofNode : MI := ("MountainWatchModel", prog_8_method_52_code, 3, 2, 43, some .int)
abbrev y_LA_init : MethodName := ⟨"MountainWatch$Laws", "<init>", "()V"⟩
abbrev M_LA_init : MI := ("MountainWatch$Laws", prog_2_method_1_code, 1, 1, 12, none)
abbrev y_LA_has : MethodName := ⟨"MountainWatch$Laws", "has", "(I)Z"⟩
abbrev M_LA_has : MI := ("MountainWatch$Laws", prog_2_method_2_code, 2, 0, 0, some .boolean)
abbrev y_LA_add : MethodName := ⟨"MountainWatch$Laws", "add", "(IIII)I"⟩
abbrev M_LA_add : MI := ("MountainWatch$Laws", prog_2_method_3_code, 6, 0, 0, some .int)
abbrev y_ME_init : MethodName := ⟨"MountainWatch$Messages", "<init>", "()V"⟩
abbrev M_ME_init : MI := ("MountainWatch$Messages", prog_3_method_1_code, 1, 1, 12, none)
abbrev y_ME_place : MethodName := ⟨"MountainWatch$Messages", "place", "(ZI)I"⟩
abbrev M_ME_place : MI := ("MountainWatch$Messages", prog_3_method_2_code, 2, 0, 0, some .int)
abbrev y_ME_isKept : MethodName := ⟨"MountainWatch$Messages", "isKept", "(ZI)Z"⟩
abbrev M_ME_isKept : MI := ("MountainWatch$Messages", prog_3_method_3_code, 3, 0, 0, some .boolean)
abbrev y_ME_add : MethodName := ⟨"MountainWatch$Messages", "add", "(ZIII)I"⟩
abbrev M_ME_add : MI := ("MountainWatch$Messages", prog_3_method_4_code, 7, 1, 21, some .int)
abbrev y_ME_takeNumber : MethodName := ⟨"MountainWatch$Messages", "takeNumber", "(Z)I"⟩
abbrev M_ME_takeNumber : MI := ("MountainWatch$Messages", prog_3_method_5_code, 2, 0, 0, some .int)
abbrev y_ME_countKept : MethodName := ⟨"MountainWatch$Messages", "countKept", "(Z)V"⟩
abbrev M_ME_countKept : MI := ("MountainWatch$Messages", prog_3_method_6_code, 2, 0, 0, none)
abbrev y_RE_init : MethodName := ⟨"MountainWatch$Readings", "<init>", "()V"⟩
abbrev M_RE_init : MI := ("MountainWatch$Readings", prog_4_method_1_code, 1, 1, 12, none)
abbrev y_RE_carryTiltTo : MethodName := ⟨"MountainWatch$Readings", "carryTiltTo", "(I)V"⟩
abbrev M_RE_carryTiltTo : MI := ("MountainWatch$Readings", prog_4_method_2_code, 2, 0, 0, none)
abbrev y_RE_tiltMove : MethodName := ⟨"MountainWatch$Readings", "tiltMove", "(II)I"⟩
abbrev M_RE_tiltMove : MI := ("MountainWatch$Readings", prog_4_method_3_code, 3, 1, 20, some .int)
abbrev y_RE_gasOfDays : MethodName := ⟨"MountainWatch$Readings", "gasOfDays", "(II)I"⟩
abbrev M_RE_gasOfDays : MI := ("MountainWatch$Readings", prog_4_method_4_code, 5, 0, 0, some .int)
abbrev y_SH_init : MethodName := ⟨"MountainWatch$Shakes", "<init>", "()V"⟩
abbrev M_SH_init : MI := ("MountainWatch$Shakes", prog_5_method_1_code, 1, 1, 12, none)
abbrev y_SH_has : MethodName := ⟨"MountainWatch$Shakes", "has", "(I)Z"⟩
abbrev M_SH_has : MI := ("MountainWatch$Shakes", prog_5_method_2_code, 2, 0, 0, some .boolean)
abbrev y_SH_band : MethodName := ⟨"MountainWatch$Shakes", "band", "(II)I"⟩
abbrev M_SH_band : MI := ("MountainWatch$Shakes", prog_5_method_3_code, 3, 0, 0, some .int)
abbrev y_SH_add : MethodName := ⟨"MountainWatch$Shakes", "add", "(JI)I"⟩
abbrev M_SH_add : MI := ("MountainWatch$Shakes", prog_5_method_4_code, 8, 4, 93, some .int)
abbrev y_SH_kindOf : MethodName := ⟨"MountainWatch$Shakes", "kindOf", "(I)I"⟩
abbrev M_SH_kindOf : MI := ("MountainWatch$Shakes", prog_5_method_5_code, 4, 1, 22, some .int)
abbrev y_SH_product : MethodName := ⟨"MountainWatch$Shakes", "product", "(II)J"⟩
abbrev M_SH_product : MI := ("MountainWatch$Shakes", prog_5_method_6_code, 6, 1, 22, some .long)
abbrev y_SH_areAlike : MethodName := ⟨"MountainWatch$Shakes", "areAlike", "(II)Z"⟩
abbrev M_SH_areAlike : MI := ("MountainWatch$Shakes", prog_5_method_7_code, 5, 2, 47, some .boolean)
abbrev y_SH_askLikeness : MethodName := ⟨"MountainWatch$Shakes", "askLikeness", "(I)V"⟩
abbrev M_SH_askLikeness : MI := ("MountainWatch$Shakes", prog_5_method_8_code, 3, 4, 93, none)
abbrev y_SH_joinFamilies : MethodName := ⟨"MountainWatch$Shakes", "joinFamilies", "(I)V"⟩
abbrev M_SH_joinFamilies : MI := ("MountainWatch$Shakes", prog_5_method_9_code, 3, 3, 71, none)
abbrev y_SH_mergeFamilies : MethodName := ⟨"MountainWatch$Shakes", "mergeFamilies", "(III)V"⟩
abbrev M_SH_mergeFamilies : MI := ("MountainWatch$Shakes", prog_5_method_10_code, 6, 1, 21, none)
abbrev y_SH_countFamilies : MethodName := ⟨"MountainWatch$Shakes", "countFamilies", "()I"⟩
abbrev M_SH_countFamilies : MI := ("MountainWatch$Shakes", prog_5_method_11_code, 3, 0, 0, some .int)
abbrev y_SH_familyByOrder : MethodName := ⟨"MountainWatch$Shakes", "familyByOrder", "(I)I"⟩
abbrev M_SH_familyByOrder : MI := ("MountainWatch$Shakes", prog_5_method_12_code, 4, 0, 0, some .int)
abbrev y_SH_countKin : MethodName := ⟨"MountainWatch$Shakes", "countKin", "(I)I"⟩
abbrev M_SH_countKin : MI := ("MountainWatch$Shakes", prog_5_method_13_code, 4, 0, 0, some .int)
abbrev y_SH_isOfDays : MethodName := ⟨"MountainWatch$Shakes", "isOfDays", "(III)Z"⟩
abbrev M_SH_isOfDays : MI := ("MountainWatch$Shakes", prog_5_method_14_code, 4, 0, 0, some .boolean)
abbrev y_SH_countOfDays : MethodName := ⟨"MountainWatch$Shakes", "countOfDays", "(II)I"⟩
abbrev M_SH_countOfDays : MI := ("MountainWatch$Shakes", prog_5_method_15_code, 5, 1, 23, some .int)
abbrev y_SH_countOfKind : MethodName := ⟨"MountainWatch$Shakes", "countOfKind", "(III)I"⟩
abbrev M_SH_countOfKind : MI := ("MountainWatch$Shakes", prog_5_method_16_code, 6, 1, 23, some .int)
abbrev y_SH_countOfGreatestFamily : MethodName := ⟨"MountainWatch$Shakes", "countOfGreatestFamily", "(II)I"⟩
abbrev M_SH_countOfGreatestFamily : MI := ("MountainWatch$Shakes", prog_5_method_17_code, 6, 1, 23, some .int)
abbrev y_TR_init : MethodName := ⟨"MountainWatch$Tree", "<init>", "()V"⟩
abbrev M_TR_init : MI := ("MountainWatch$Tree", prog_6_method_1_code, 1, 1, 12, none)
abbrev y_TR_has : MethodName := ⟨"MountainWatch$Tree", "has", "(I)Z"⟩
abbrev M_TR_has : MI := ("MountainWatch$Tree", prog_6_method_2_code, 2, 0, 0, some .boolean)
abbrev y_TR_takesChild : MethodName := ⟨"MountainWatch$Tree", "takesChild", "(I)Z"⟩
abbrev M_TR_takesChild : MI := ("MountainWatch$Tree", prog_6_method_3_code, 2, 0, 0, some .boolean)
abbrev y_TR_add : MethodName := ⟨"MountainWatch$Tree", "add", "(III)I"⟩
abbrev M_TR_add : MI := ("MountainWatch$Tree", prog_6_method_4_code, 5, 0, 0, some .int)
abbrev y_TR_isSound : MethodName := ⟨"MountainWatch$Tree", "isSound", "()Z"⟩
abbrev M_TR_isSound : MI := ("MountainWatch$Tree", prog_6_method_5_code, 2, 1, 24, some .boolean)
abbrev y_TR_hasShares : MethodName := ⟨"MountainWatch$Tree", "hasShares", "(I)Z"⟩
abbrev M_TR_hasShares : MI := ("MountainWatch$Tree", prog_6_method_6_code, 5, 0, 0, some .boolean)
abbrev y_TR_chanceOf : MethodName := ⟨"MountainWatch$Tree", "chanceOf", "(IZ)I"⟩
abbrev M_TR_chanceOf : MI := ("MountainWatch$Tree", prog_6_method_7_code, 4, 3, 74, some .int)
abbrev y_TR_chanceByShares : MethodName := ⟨"MountainWatch$Tree", "chanceByShares", "(IZ)I"⟩
abbrev M_TR_chanceByShares : MI := ("MountainWatch$Tree", prog_6_method_8_code, 9, 2, 46, some .int)
abbrev y_TR_bestUnserved : MethodName := ⟨"MountainWatch$Tree", "bestUnserved", "(IZ)I"⟩
abbrev M_TR_bestUnserved : MI := ("MountainWatch$Tree", prog_6_method_9_code, 5, 1, 22, some .int)
abbrev y_TR_isBetter : MethodName := ⟨"MountainWatch$Tree", "isBetter", "(IIZ)Z"⟩
abbrev M_TR_isBetter : MI := ("MountainWatch$Tree", prog_6_method_10_code, 3, 0, 0, some .boolean)
abbrev y_Math_min : MethodName := ⟨"java/lang/Math", "min", "(II)I"⟩
abbrev M_Math_min : MI := ("java/lang/Math", prog_9_method_69_code, 2, 0, 0, some .int)
abbrev y_Math_max : MethodName := ⟨"java/lang/Math", "max", "(II)I"⟩
abbrev M_Math_max : MI := ("java/lang/Math", prog_9_method_65_code, 2, 0, 0, some .int)
abbrev y_Math_abs : MethodName := ⟨"java/lang/Math", "abs", "(I)I"⟩
abbrev M_Math_abs : MI := ("java/lang/Math", prog_9_method_59_code, 1, 0, 0, some .int)
abbrev M_LW_law : MI := ("MountainWatchLaw", code, 4, 9, 336, ret)
end
section
/-! the heap as numbers: cell, place -/
abbrev Hp : Type := Nat → Int → Int
abbrev vI (i : Int) : Value := .int (Int32.ofInt i)
abbrev vL (i : Int) : Value := .long (Int64.ofInt i)
def upf (f : Int → Int) (i v : Int) : Int → Int := fun j => if j = i then v else f j
def up (h : Hp) (k : Nat) (i v : Int) : Hp := fun k2 => if k2 = k then upf (h k) i v else h k2
def aI (n : Nat) (f : Int → Int) : vp_A := (n, .inl (fun j => Int32.ofInt (f (j : Int))))
def aL (n : Nat) (f : Int → Int) : vp_A := (n, .inr (.inl (fun j => Int64.ofInt (f (j : Int)))))
def fs_MW (ad : Nat → Nat) (f : Int → Int) : List Value := [.ref (ad 1), .ref (ad 7), .ref (ad 10), .ref (ad 15), .ref (ad 19), vI (f 5), vI (f 6), vI (f 7), vI (f 8), vI (f 9), vI (f 10), vI (f 11)]
def fs_SH (ad : Nat → Nat) (f : Int → Int) : List Value := [.ref (ad 2), .ref (ad 3), .ref (ad 4), .ref (ad 5), .ref (ad 6), vI (f 5), vI (f 6)]
def fs_RE (ad : Nat → Nat) (f : Int → Int) : List Value := [.ref (ad 8), .ref (ad 9)]
def fs_LA (ad : Nat → Nat) (f : Int → Int) : List Value := [.ref (ad 11), .ref (ad 12), .ref (ad 13), .ref (ad 14), vI (f 4)]
def fs_ME (ad : Nat → Nat) (f : Int → Int) : List Value := [.ref (ad 16), .ref (ad 17), .ref (ad 18), vI (f 3), vI (f 4), vI (f 5), vI (f 6)]
def fs_TR (ad : Nat → Nat) (f : Int → Int) : List Value := [.ref (ad 20), .ref (ad 21), .ref (ad 22), .ref (ad 23), .ref (ad 24), .ref (ad 25), .ref (ad 26), .ref (ad 27), vI (f 8)]
def fs_MO (ad : Nat → Nat) (f : Int → Int) : List Value := [vI (f 0), vI (f 1), .ref (ad 29), .ref (ad 30), .ref (ad 31), vI (f 5), vI (f 6), .ref (ad 32), .ref (ad 33), .ref (ad 34), vI (f 10), .ref (ad 35), .ref (ad 36), .ref (ad 37), .ref (ad 38), vI (f 15), vI (f 16), vI (f 17), vI (f 18), vI (f 19), vI (f 20), .ref (ad 39), vI (f 22), vI (f 23), vI (f 24), vI (f 25), .ref (ad 40), .ref (ad 41), .ref (ad 42), .ref (ad 43), .ref (ad 44), .ref (ad 45)]
def wE (ad : Nat → Nat) (ca : Nat → ClassId) (k : Nat) (f : Int → Int) : va_E := match k with
  | 0 => .inr (0, fs_MW ad f)
  | 1 => .inr (1, fs_SH ad f)
  | 2 => .inl (ca 0, aI 480 f)
  | 3 => .inl (ca 0, aI 80 f)
  | 4 => .inl (ca 0, aI 80 f)
  | 5 => .inl (ca 0, aI 80 f)
  | 6 => .inl (ca 0, aI 80 f)
  | 7 => .inr (2, fs_RE ad f)
  | 8 => .inl (ca 0, aI 1000 f)
  | 9 => .inl (ca 0, aI 1000 f)
  | 10 => .inr (3, fs_LA ad f)
  | 11 => .inl (ca 0, aI 8 f)
  | 12 => .inl (ca 0, aI 8 f)
  | 13 => .inl (ca 0, aI 8 f)
  | 14 => .inl (ca 0, aI 8 f)
  | 15 => .inr (4, fs_ME ad f)
  | 16 => .inl (ca 0, aI 200 f)
  | 17 => .inl (ca 0, aI 200 f)
  | 18 => .inl (ca 0, aI 200 f)
  | 19 => .inr (5, fs_TR ad f)
  | 20 => .inl (ca 0, aI 24 f)
  | 21 => .inl (ca 0, aI 24 f)
  | 22 => .inl (ca 0, aI 24 f)
  | 23 => .inl (ca 0, aI 24 f)
  | 24 => .inl (ca 0, aI 24 f)
  | 25 => .inl (ca 1, aI 24 f)
  | 26 => .inl (ca 0, aI 24 f)
  | 27 => .inl (ca 1, aI 24 f)
  | 28 => .inr (6, fs_MO ad f)
  | 29 => .inl (ca 0, aI 80 f)
  | 30 => .inl (ca 0, aI 480 f)
  | 31 => .inl (ca 0, aI 80 f)
  | 32 => .inl (ca 1, aI 1000 f)
  | 33 => .inl (ca 0, aI 1000 f)
  | 34 => .inl (ca 0, aI 1000 f)
  | 35 => .inl (ca 0, aI 8 f)
  | 36 => .inl (ca 0, aI 8 f)
  | 37 => .inl (ca 0, aI 8 f)
  | 38 => .inl (ca 0, aI 8 f)
  | 39 => .inl (ca 0, aI 1000 f)
  | 40 => .inl (ca 0, aI 24 f)
  | 41 => .inl (ca 0, aI 24 f)
  | 42 => .inl (ca 0, aI 24 f)
  | 43 => .inl (ca 1, aI 24 f)
  | 44 => .inl (ca 2, aL 24 f)
  | _ => .inl (ca 1, aI 24 f)
def wsH (ad : Nat → Nat) (ca : Nat → ClassId) (h : Hp) : va_W := (List.range 46).map (fun k => (ad k, wE ad ca k (h k)))
def tysC (ca : Nat → ClassId) : List (ClassId × FieldType) := [(ca 0, .int), (ca 1, .boolean), (ca 2, .long)]
end
section
theorem wsH_at {ad : Nat → Nat} {ca : Nat → ClassId} {h : Hp} {k : Nat} (hk : k < 46) : (wsH ad ca h)[k]? = some (ad k, wE ad ca k (h k)) := by
  unfold wsH
  rw [List.getElem?_map, List.getElem?_range hk]
  rfl
theorem wsH_set {ad : Nat → Nat} {ca : Nat → ClassId} {h : Hp} {k : Nat} {g : Int → Int} {x : va_E} (hx : x = wE ad ca k g) : (wsH ad ca h).set k (ad k, x) = wsH ad ca (fun k2 => if k2 = k then g else h k2) := by
  subst hx
  apply List.ext_getElem?
  intro j
  unfold wsH
  by_cases hj : j = k
  · subst hj
    by_cases hk : j < 46
    · rw [List.getElem?_set_self (by simpa using hk), List.getElem?_map, List.getElem?_range hk]
      simp
    · rw [List.getElem?_eq_none (by simpa using hk), List.getElem?_eq_none (by simpa using hk)]
  · rw [List.getElem?_set_ne (Ne.symm hj), List.getElem?_map, List.getElem?_map]
    by_cases hk : j < 46
    · rw [List.getElem?_range hk]
      simp [hj]
    · rw [List.getElem?_eq_none (by simpa using hk)]
      rfl
theorem wsH_D {ad : Nat → Nat} {ca : Nat → ClassId} {h : Hp} {A : Nat → Prop} (hi : ∀ i j, i < 46 → j < 46 → ad i = ad j → i = j) (hA : ∀ k, k < 46 → A (ad k)) : va_D A (wsH ad ca h) := by
  have key : ∀ (k : Nat) (q : Nat × va_E), (wsH ad ca h)[k]? = some q → k < 46 ∧ q.1 = ad k := by
    intro k q hq
    have hk : k < 46 := by
      have := (List.getElem?_eq_some_iff.mp hq).1
      simpa [wsH] using this
    rw [wsH_at hk] at hq
    cases hq
    exact ⟨hk, rfl⟩
  refine ⟨fun i j p q h1 h2 h3 => ?_, fun k q hk => ?_⟩
  · obtain ⟨a1, b1⟩ := key i p h1
    obtain ⟨a2, b2⟩ := key j q h2
    exact hi i j a1 a2 (by rw [← b1, ← b2]; exact h3)
  · obtain ⟨a1, b1⟩ := key k q hk
    rw [b1]
    exact hA k a1
/-! numbers in their bounds -/
def InR (x : Int) : Prop := -2147483648 ≤ x ∧ x ≤ 2147483647
def InL (x : Int) : Prop := -9223372036854775808 ≤ x ∧ x ≤ 9223372036854775807
def HR (h : Hp) : Prop := ∀ (k : Nat) (i : Int), InL (h k i) ∧ (k ≠ 44 → InR (h k i))
theorem InR.toL {x : Int} (h : InR x) : InL x := by unfold InR at h; unfold InL; omega
theorem toInt_I {x : Int} (h : InR x) : (Int32.ofInt x).toInt = x := by
  rw [Int32.toInt_ofInt]
  unfold InR at h
  apply Int.bmod_eq_of_le <;> simp [Int32.size] <;> omega
theorem toInt_L {x : Int} (h : InL x) : (Int64.ofInt x).toInt = x := by
  rw [Int64.toInt_ofInt]
  unfold InL at h
  apply Int.bmod_eq_of_le <;> simp [Int64.size] <;> omega
theorem ofI_lt {x y : Int} (hx : InR x) (hy : InR y) : Int32.ofInt x < Int32.ofInt y ↔ x < y := by
  rw [Int32.lt_iff_toInt_lt, toInt_I hx, toInt_I hy]
theorem ofI_le {x y : Int} (hx : InR x) (hy : InR y) : Int32.ofInt x ≤ Int32.ofInt y ↔ x ≤ y := by
  rw [Int32.le_iff_toInt_le, toInt_I hx, toInt_I hy]
theorem ofI_eq {x y : Int} (hx : InR x) (hy : InR y) : Int32.ofInt x = Int32.ofInt y ↔ x = y := by
  rw [← Int32.toInt_inj, toInt_I hx, toInt_I hy]
theorem ofI_add (x y : Int) : Int32.ofInt x + Int32.ofInt y = Int32.ofInt (x + y) := (Int32.ofInt_add x y).symm
theorem ofI_sub (x y : Int) : Int32.ofInt x - Int32.ofInt y = Int32.ofInt (x - y) := (Int32.ofInt_sub x y).symm
theorem ofI_mul (x y : Int) : Int32.ofInt x * Int32.ofInt y = Int32.ofInt (x * y) := (Int32.ofInt_mul x y).symm
theorem ofI_neg (x : Int) : -Int32.ofInt x = Int32.ofInt (-x) := (Int32.ofInt_neg x).symm
theorem ofL_add (x y : Int) : Int64.ofInt x + Int64.ofInt y = Int64.ofInt (x + y) := (Int64.ofInt_add x y).symm
theorem ofL_mul (x y : Int) : Int64.ofInt x * Int64.ofInt y = Int64.ofInt (x * y) := (Int64.ofInt_mul x y).symm
theorem ofL_sub (x y : Int) : Int64.ofInt x - Int64.ofInt y = Int64.ofInt (x - y) := (Int64.ofInt_sub x y).symm
theorem ofI_nat {i : Int} {n : Nat} (h0 : 0 ≤ i) (h1 : i < n) (hn : n ≤ 100000) : vp_in (Int32.ofInt i) n ∧ (Int32.ofInt i).toNatClampNeg = i.toNat := by
  have hr : InR i := by unfold InR; omega
  have e : (Int32.ofInt i).toNatClampNeg = i.toNat := by
    show (Int32.ofInt i).toInt.toNat = i.toNat
    rw [toInt_I hr]
  refine ⟨?_, e⟩
  unfold vp_in
  rw [e]
  rintro (q | q)
  · have z : (0 : Int32) = Int32.ofInt 0 := by decide
    rw [z, ofI_lt hr (by unfold InR; omega)] at q
    omega
  · omega
theorem ofI_toL {x : Int} (h : InR x) : (Int32.ofInt x).toInt64 = Int64.ofInt x := by
  rw [← Int64.toInt_inj, toInt_L h.toL, Int32.toInt_toInt64, toInt_I h]
theorem ofL_toI (x : Int) : (Int64.ofInt x).toInt32 = Int32.ofInt x := by
  rw [← Int32.toInt_inj]
  simp [Int64.toInt_toInt32, Int64.toInt_ofInt, Int32.toInt_ofInt, Int32.size, Int64.size]
end
section
/-! THE PURE MACHINE: 'WP' says of a place in a method, with locals, stack and a heap of numbers: in every context the machine comes to a return with Q -/
abbrev SC : Type := Option (Nat × Nat × (Nat → Int32))
def Cx (D : va_G) (ad : Nat → Nat) (ca : Nat → ClassId) (sc : SC) (M : MI) (p : Program) (R : Room) (s : State) (m : MethodId) (args : Array Value) (meth : Method) (c : Code) (A : Nat → Prop) (cells slots : Nat) : Prop :=
  p.tables.exec = Jvm.exec ∧ c.code = M.2.1 ∧ c.maxLocals = M.2.2.1 ∧ s.vm.findClass M.1 = some m.cls ∧ meth.sig.returnType = M.2.2.2.2.2 ∧ meth.locks = false ∧ (∀ w ∈ TB, w.before args s = true) ∧ M.2.2.2.1 ≤ R.frames ∧ M.2.2.2.2.1 ≤ R.locals ∧ cells ≤ R.cells ∧ slots ≤ R.slots ∧ va_K D classes (tysC ca) s ∧ (∀ i j, i < 46 → j < 46 → ad i = ad j → i = j) ∧ (∀ k, k < 46 → A (ad k)) ∧ (∀ b L xs, sc = some (b, L, xs) → va_X b L xs s s.heap ∧ b < s.heap.size ∧ ¬ A b)
def Rl (D : va_G) (ad : Nat → Nat) (ca : Nat → ClassId) (h : Hp) (H : Heap) : Prop := va_P D classes (wsH ad ca h) H ∧ HR h
def rtI (M : MI) (v : Option Value) (pc : Nat) : Prop :=
  (∃ (x : Int32) (ty : FieldType), v = some (.int x) ∧ decode M.2.1 pc = .ok (.ireturn, 1) ∧ M.2.2.2.2.2 = some ty ∧ narrow ty (.int x) = .int x) ∨
  (∃ x : Int64, v = some (.long x) ∧ decode M.2.1 pc = .ok (.lreturn, 1) ∧ M.2.2.2.2.2 = some .long) ∨
  (v = none ∧ decode M.2.1 pc = .ok (.return_, 1) ∧ M.2.2.2.2.2 = none)
def WP (D : va_G) (ad : Nat → Nat) (ca : Nat → ClassId) (sc : SC) (M : MI) (pc : Nat) (lv : List (Nat × Value)) (st : List Value) (h : Hp) (Q : Option Value → Hp → Prop) : Prop :=
  ∀ (p : Program) (l : Launch) (e : Env) (R : Room) (s : State) (m : MethodId) (args : Array Value) (below : List Frame) (meth : Method) (c : Code) (A : Nat → Prop) (H : Heap) (locs : List Loc) (cells slots : Nat) (Z : State → Prop) (ls : Array Slot),
    Cx D ad ca sc M p R s m args meth c A cells slots → Rl D ad ca h H → va_S A s.heap H locs → lv_has ls M.2.2.1 lv →
    (∀ (v : Option Value) (h' : Hp) (H' : Heap) (locs' : List Loc) (ls' : Array Slot) (pc' : Nat), Q v h' → Rl D ad ca h' H' → va_S A s.heap H' locs' → rtI M v pc' → W p l e R s m args below meth c H' locs' cells slots Z (F0 m pc' ls' v.toList)) →
    W p l e R s m args below meth c H locs cells slots Z (F0 m pc ls st)
section PM
variable {D : va_G} {ad : Nat → Nat} {ca : Nat → ClassId} {sc : SC} {M : MI} {pc : Nat} {lv : List (Nat × Value)} {st : List Value} {h : Hp} {Q Q' : Option Value → Hp → Prop}
theorem WP.mono (hq : ∀ v h', Q v h' → Q' v h') (k : WP D ad ca sc M pc lv st h Q) : WP D ad ca sc M pc lv st h Q' :=
  fun p l e R s m args below meth c A H locs cells slots Z ls hc hR hS hl hr => k p l e R s m args below meth c A H locs cells slots Z ls hc hR hS hl (fun v h' H' locs' ls' pc' q => hr v h' H' locs' ls' pc' (hq v h' q))
theorem P_sub {lv' : List (Nat × Value)} (ks : List Nat) (hk : lv_pick lv ks = lv') (k : WP D ad ca sc M pc lv' st h Q) : WP D ad ca sc M pc lv st h Q :=
  fun p l e R s m args below meth c A H locs cells slots Z ls hc hR hS hl hr => k p l e R s m args below meth c A H locs cells slots Z ls hc hR hS (lv_sub hl ks hk) hr
/-- the numbers of a heap are in their bounds -/
theorem P_HR (k : HR h → WP D ad ca sc M pc lv st h Q) : WP D ad ca sc M pc lv st h Q :=
  fun p l e R s m args below meth c A H locs cells slots Z ls hc hR hS hl hr => k hR.2 p l e R s m args below meth c A H locs cells slots Z ls hc hR hS hl hr
theorem P_iconst {n : Int} (hd : decode M.2.1 pc = .ok (.iconst n, 1)) (k : WP D ad ca sc M (pc + 1) lv (vI n :: st) h Q) : WP D ad ca sc M pc lv st h Q :=
  fun p l e R s m args below meth c A H locs cells slots Z ls hc hR hS hl hr => lv_iconst hc.1 hc.2.1 hd rfl (k p l e R s m args below meth c A H locs cells slots Z ls hc hR hS hl hr)
theorem P_bipush {n : Int} (hd : decode M.2.1 pc = .ok (.bipush n, 2)) (hv : (Int8.ofInt n).toInt32 = Int32.ofInt n) (k : WP D ad ca sc M (pc + 2) lv (vI n :: st) h Q) : WP D ad ca sc M pc lv st h Q :=
  fun p l e R s m args below meth c A H locs cells slots Z ls hc hR hS hl hr => lv_bipush hc.1 hc.2.1 hd hv (k p l e R s m args below meth c A H locs cells slots Z ls hc hR hS hl hr)
theorem P_sipush {n : Int} (hd : decode M.2.1 pc = .ok (.sipush n, 3)) (hv : (Int16.ofInt n).toInt32 = Int32.ofInt n) (k : WP D ad ca sc M (pc + 3) lv (vI n :: st) h Q) : WP D ad ca sc M pc lv st h Q :=
  fun p l e R s m args below meth c A H locs cells slots Z ls hc hR hS hl hr => lv_sipush hc.1 hc.2.1 hd hv (k p l e R s m args below meth c A H locs cells slots Z ls hc hR hS hl hr)
theorem P_ldc {idx : Nat} {x : Int32} {n : Int} (hw : Cond.constant M.1 idx x ∈ TB) (hn : x = Int32.ofInt n) (hd : decode M.2.1 pc = .ok (.ldc idx, 2)) (k : WP D ad ca sc M (pc + 2) lv (vI n :: st) h Q) : WP D ad ca sc M pc lv st h Q := by
  subst hn
  exact fun p l e R s m args below meth c A H locs cells slots Z ls hc hR hS hl hr => lv_ldc hc.1 hc.2.1 hc.2.2.2.1 (hc.2.2.2.2.2.2.1 _ hw) hd (k p l e R s m args below meth c A H locs cells slots Z ls hc hR hS hl hr)
theorem P_ldc2 {idx : Nat} {x : Int64} {n : Int} (hw : Cond.constantLong M.1 idx x ∈ TB) (hn : x = Int64.ofInt n) (hd : decode M.2.1 pc = .ok (.ldc2_w idx, 3)) (k : WP D ad ca sc M (pc + 3) lv (vL n :: st) h Q) : WP D ad ca sc M pc lv st h Q := by
  subst hn
  exact fun p l e R s m args below meth c A H locs cells slots Z ls hc hR hS hl hr => lv_ldc2 hc.1 hc.2.1 hc.2.2.2.1 (hc.2.2.2.2.2.2.1 _ hw) hd (k p l e R s m args below meth c A H locs cells slots Z ls hc hR hS hl hr)
theorem P_lconst {n : Fin 2} {i : Int} (hd : decode M.2.1 pc = .ok (.lconst n, 1)) (hv : Int64.ofNat (n : Nat) = Int64.ofInt i) (k : WP D ad ca sc M (pc + 1) lv (vL i :: st) h Q) : WP D ad ca sc M pc lv st h Q :=
  fun p l e R s m args below meth c A H locs cells slots Z ls hc hR hS hl hr => lv_lconst hc.1 hc.2.1 hd hv (k p l e R s m args below meth c A H locs cells slots Z ls hc hR hS hl hr)
theorem P_iload_n {j : Fin 4} {i : Nat} {x : Int} (pl : Nat) (hd : decode M.2.1 pc = .ok (.iload_n j, 1)) (hi : (j : Nat) = i) (hp : lv[pl]? = some (i, vI x)) (k : WP D ad ca sc M (pc + 1) lv (vI x :: st) h Q) : WP D ad ca sc M pc lv st h Q :=
  fun p l e R s m args below meth c A H locs cells slots Z ls hc hR hS hl hr => lv_iload_n hc.1 hc.2.1 hd hi (lv_at hl pl hp) (k p l e R s m args below meth c A H locs cells slots Z ls hc hR hS hl hr)
theorem P_iload {i : Nat} {x : Int} (pl : Nat) (hd : decode M.2.1 pc = .ok (.iload i, 2)) (hp : lv[pl]? = some (i, vI x)) (k : WP D ad ca sc M (pc + 2) lv (vI x :: st) h Q) : WP D ad ca sc M pc lv st h Q :=
  fun p l e R s m args below meth c A H locs cells slots Z ls hc hR hS hl hr => lv_iload hc.1 hc.2.1 hd (lv_at hl pl hp) (k p l e R s m args below meth c A H locs cells slots Z ls hc hR hS hl hr)
theorem P_lload_n {j : Fin 4} {i : Nat} {x : Int} (pl : Nat) (hd : decode M.2.1 pc = .ok (.lload_n j, 1)) (hi : (j : Nat) = i) (hp : lv[pl]? = some (i, vL x)) (k : WP D ad ca sc M (pc + 1) lv (vL x :: st) h Q) : WP D ad ca sc M pc lv st h Q :=
  fun p l e R s m args below meth c A H locs cells slots Z ls hc hR hS hl hr => lv_lload_n hc.1 hc.2.1 hd hi (lv_at hl pl hp) (k p l e R s m args below meth c A H locs cells slots Z ls hc hR hS hl hr)
theorem P_lload {i : Nat} {x : Int} (pl : Nat) (hd : decode M.2.1 pc = .ok (.lload i, 2)) (hp : lv[pl]? = some (i, vL x)) (k : WP D ad ca sc M (pc + 2) lv (vL x :: st) h Q) : WP D ad ca sc M pc lv st h Q :=
  fun p l e R s m args below meth c A H locs cells slots Z ls hc hR hS hl hr => lv_lload hc.1 hc.2.1 hd (lv_at hl pl hp) (k p l e R s m args below meth c A H locs cells slots Z ls hc hR hS hl hr)
theorem P_aload_n {j : Fin 4} {i x : Nat} (pl : Nat) (hd : decode M.2.1 pc = .ok (.aload_n j, 1)) (hi : (j : Nat) = i) (hp : lv[pl]? = some (i, .ref x)) (k : WP D ad ca sc M (pc + 1) lv (.ref x :: st) h Q) : WP D ad ca sc M pc lv st h Q :=
  fun p l e R s m args below meth c A H locs cells slots Z ls hc hR hS hl hr => lv_aload_n hc.1 hc.2.1 hd hi (lv_at hl pl hp) (k p l e R s m args below meth c A H locs cells slots Z ls hc hR hS hl hr)
theorem P_aload {i x : Nat} (pl : Nat) (hd : decode M.2.1 pc = .ok (.aload i, 2)) (hp : lv[pl]? = some (i, .ref x)) (k : WP D ad ca sc M (pc + 2) lv (.ref x :: st) h Q) : WP D ad ca sc M pc lv st h Q :=
  fun p l e R s m args below meth c A H locs cells slots Z ls hc hR hS hl hr => lv_aload hc.1 hc.2.1 hd (lv_at hl pl hp) (k p l e R s m args below meth c A H locs cells slots Z ls hc hR hS hl hr)
def st1 (lv : List (Nat × Value)) (i : Nat) (v : Value) : List (Nat × Value) := (i, v) :: lv.filter (fun q => !(q.1 == i) && !(q.1 + 1 == i && q.2.category == 2))
def st2 (lv : List (Nat × Value)) (i : Nat) (v : Value) : List (Nat × Value) := (i, v) :: lv.filter (fun q => !(q.1 == i) && (!(q.1 == i + 1) && !(q.1 + 1 == i && q.2.category == 2)))
theorem P_istore_n {j : Fin 4} {i : Nat} {x : Int} {lv' : List (Nat × Value)} (ks : List Nat) (hd : decode M.2.1 pc = .ok (.istore_n j, 1)) (hi : (j : Nat) = i) (hn : i < M.2.2.1) (hl' : lv_pick (st1 lv i (vI x)) ks = lv') (k : WP D ad ca sc M (pc + 1) lv' st h Q) : WP D ad ca sc M pc lv (vI x :: st) h Q :=
  fun p l e R s m args below meth c A H locs cells slots Z ls hc hR hS hl hr => lv_istore_n hc.1 hc.2.1 hd hi hl hn rfl (fun ls' h2 => k p l e R s m args below meth c A H locs cells slots Z ls' hc hR hS (lv_sub h2 ks hl') hr)
theorem P_istore {i : Nat} {x : Int} {lv' : List (Nat × Value)} (ks : List Nat) (hd : decode M.2.1 pc = .ok (.istore i, 2)) (hn : i < M.2.2.1) (hl' : lv_pick (st1 lv i (vI x)) ks = lv') (k : WP D ad ca sc M (pc + 2) lv' st h Q) : WP D ad ca sc M pc lv (vI x :: st) h Q :=
  fun p l e R s m args below meth c A H locs cells slots Z ls hc hR hS hl hr => lv_istore hc.1 hc.2.1 hd hl hn rfl (fun ls' h2 => k p l e R s m args below meth c A H locs cells slots Z ls' hc hR hS (lv_sub h2 ks hl') hr)
theorem P_lstore_n {j : Fin 4} {i : Nat} {x : Int} {lv' : List (Nat × Value)} (ks : List Nat) (hd : decode M.2.1 pc = .ok (.lstore_n j, 1)) (hi : (j : Nat) = i) (hn : i + 1 < M.2.2.1) (hl' : lv_pick (st2 lv i (vL x)) ks = lv') (k : WP D ad ca sc M (pc + 1) lv' st h Q) : WP D ad ca sc M pc lv (vL x :: st) h Q :=
  fun p l e R s m args below meth c A H locs cells slots Z ls hc hR hS hl hr => lv_lstore_n hc.1 hc.2.1 hd hi hl hn rfl (fun ls' h2 => k p l e R s m args below meth c A H locs cells slots Z ls' hc hR hS (lv_sub h2 ks hl') hr)
theorem P_lstore {i : Nat} {x : Int} {lv' : List (Nat × Value)} (ks : List Nat) (hd : decode M.2.1 pc = .ok (.lstore i, 2)) (hn : i + 1 < M.2.2.1) (hl' : lv_pick (st2 lv i (vL x)) ks = lv') (k : WP D ad ca sc M (pc + 2) lv' st h Q) : WP D ad ca sc M pc lv (vL x :: st) h Q :=
  fun p l e R s m args below meth c A H locs cells slots Z ls hc hR hS hl hr => lv_lstore hc.1 hc.2.1 hd hl hn rfl (fun ls' h2 => k p l e R s m args below meth c A H locs cells slots Z ls' hc hR hS (lv_sub h2 ks hl') hr)
theorem P_iinc {i : Nat} {n x : Int} {lv' : List (Nat × Value)} (pl : Nat) (ks : List Nat) (hd : decode M.2.1 pc = .ok (.iinc i n, 3)) (hp : lv[pl]? = some (i, vI x)) (hn : i < M.2.2.1) (hl' : lv_pick (st1 lv i (vI (x + n))) ks = lv') (k : WP D ad ca sc M (pc + 3) lv' st h Q) : WP D ad ca sc M pc lv st h Q :=
  fun p l e R s m args below meth c A H locs cells slots Z ls hc hR hS hl hr => lv_iinc hc.1 hc.2.1 hd hl hp (ofI_add x n) hn rfl (fun ls' h2 => k p l e R s m args below meth c A H locs cells slots Z ls' hc hR hS (lv_sub h2 ks hl') hr)
theorem P_iadd {x y : Int} (hd : decode M.2.1 pc = .ok (.iadd, 1)) (k : WP D ad ca sc M (pc + 1) lv (vI (x + y) :: st) h Q) : WP D ad ca sc M pc lv (vI y :: vI x :: st) h Q :=
  fun p l e R s m args below meth c A H locs cells slots Z ls hc hR hS hl hr => lv_iadd hc.1 hc.2.1 hd (by rw [ofI_add]; exact k p l e R s m args below meth c A H locs cells slots Z ls hc hR hS hl hr)
theorem P_isub {x y : Int} (hd : decode M.2.1 pc = .ok (.isub, 1)) (k : WP D ad ca sc M (pc + 1) lv (vI (x - y) :: st) h Q) : WP D ad ca sc M pc lv (vI y :: vI x :: st) h Q :=
  fun p l e R s m args below meth c A H locs cells slots Z ls hc hR hS hl hr => lv_isub hc.1 hc.2.1 hd (by rw [ofI_sub]; exact k p l e R s m args below meth c A H locs cells slots Z ls hc hR hS hl hr)
theorem P_imul {x y : Int} (hd : decode M.2.1 pc = .ok (.imul, 1)) (k : WP D ad ca sc M (pc + 1) lv (vI (x * y) :: st) h Q) : WP D ad ca sc M pc lv (vI y :: vI x :: st) h Q :=
  fun p l e R s m args below meth c A H locs cells slots Z ls hc hR hS hl hr => lv_imul hc.1 hc.2.1 hd (by rw [ofI_mul]; exact k p l e R s m args below meth c A H locs cells slots Z ls hc hR hS hl hr)
theorem P_ineg {x : Int} (hd : decode M.2.1 pc = .ok (.ineg, 1)) (k : WP D ad ca sc M (pc + 1) lv (vI (-x) :: st) h Q) : WP D ad ca sc M pc lv (vI x :: st) h Q :=
  fun p l e R s m args below meth c A H locs cells slots Z ls hc hR hS hl hr => lv_ineg hc.1 hc.2.1 hd (by rw [ofI_neg]; exact k p l e R s m args below meth c A H locs cells slots Z ls hc hR hS hl hr)
theorem P_ladd {x y : Int} (hd : decode M.2.1 pc = .ok (.ladd, 1)) (k : WP D ad ca sc M (pc + 1) lv (vL (x + y) :: st) h Q) : WP D ad ca sc M pc lv (vL y :: vL x :: st) h Q :=
  fun p l e R s m args below meth c A H locs cells slots Z ls hc hR hS hl hr => lv_ladd hc.1 hc.2.1 hd (by rw [ofL_add]; exact k p l e R s m args below meth c A H locs cells slots Z ls hc hR hS hl hr)
theorem P_lmul {x y : Int} (hd : decode M.2.1 pc = .ok (.lmul, 1)) (k : WP D ad ca sc M (pc + 1) lv (vL (x * y) :: st) h Q) : WP D ad ca sc M pc lv (vL y :: vL x :: st) h Q :=
  fun p l e R s m args below meth c A H locs cells slots Z ls hc hR hS hl hr => lv_lmul hc.1 hc.2.1 hd (by rw [ofL_mul]; exact k p l e R s m args below meth c A H locs cells slots Z ls hc hR hS hl hr)
theorem P_i2l {x : Int} (hx : InR x) (hd : decode M.2.1 pc = .ok (.i2l, 1)) (k : WP D ad ca sc M (pc + 1) lv (vL x :: st) h Q) : WP D ad ca sc M pc lv (vI x :: st) h Q :=
  fun p l e R s m args below meth c A H locs cells slots Z ls hc hR hS hl hr => lv_i2l hc.1 hc.2.1 hd (ofI_toL hx) (k p l e R s m args below meth c A H locs cells slots Z ls hc hR hS hl hr)
theorem P_l2i {x : Int} (hd : decode M.2.1 pc = .ok (.l2i, 1)) (k : WP D ad ca sc M (pc + 1) lv (vI x :: st) h Q) : WP D ad ca sc M pc lv (vL x :: st) h Q :=
  fun p l e R s m args below meth c A H locs cells slots Z ls hc hR hS hl hr => lv_l2i hc.1 hc.2.1 hd (ofL_toI x) (k p l e R s m args below meth c A H locs cells slots Z ls hc hR hS hl hr)
theorem P_dup {v : Value} (hd : decode M.2.1 pc = .ok (.dup, 1)) (hv : v.category = 1) (k : WP D ad ca sc M (pc + 1) lv (v :: v :: st) h Q) : WP D ad ca sc M pc lv (v :: st) h Q :=
  fun p l e R s m args below meth c A H locs cells slots Z ls hc hR hS hl hr => lv_dup hc.1 hc.2.1 hd hv (k p l e R s m args below meth c A H locs cells slots Z ls hc hR hS hl hr)
theorem P_dup2 {v w : Value} (hd : decode M.2.1 pc = .ok (.dup2, 1)) (hv : v.category = 1) (hw : w.category = 1) (k : WP D ad ca sc M (pc + 1) lv (v :: w :: v :: w :: st) h Q) : WP D ad ca sc M pc lv (v :: w :: st) h Q :=
  fun p l e R s m args below meth c A H locs cells slots Z ls hc hR hS hl hr => lv_dup2_11 hc.1 hc.2.1 hd hv hw (k p l e R s m args below meth c A H locs cells slots Z ls hc hR hS hl hr)
theorem P_pop {v : Value} (hd : decode M.2.1 pc = .ok (.pop, 1)) (hv : v.category = 1) (k : WP D ad ca sc M (pc + 1) lv st h Q) : WP D ad ca sc M pc lv (v :: st) h Q :=
  fun p l e R s m args below meth c A H locs cells slots Z ls hc hR hS hl hr => lv_pop hc.1 hc.2.1 hd hv (k p l e R s m args below meth c A H locs cells slots Z ls hc hR hS hl hr)
theorem P_goto {off : Int} (tgt : Nat) (hd : decode M.2.1 pc = .ok (.goto off, 3)) (ht : (pc : Int) + off = (tgt : Int)) (k : WP D ad ca sc M tgt lv st h Q) : WP D ad ca sc M pc lv st h Q :=
  fun p l e R s m args below meth c A H locs cells slots Z ls hc hR hS hl hr => lv_goto hc.1 hc.2.1 hd ht (k p l e R s m args below meth c A H locs cells slots Z ls hc hR hS hl hr)
theorem ofI_0 : (0 : Int32) = Int32.ofInt 0 := by decide
theorem inR_0 : InR 0 := by unfold InR; omega
theorem P_icmp_eq {x y : Int} {off : Int} (tgt : Nat) (hd : decode M.2.1 pc = .ok (.if_icmp .eq off, 3)) (ht : (pc : Int) + off = (tgt : Int)) (hx : InR x) (hy : InR y) (k1 : x = y → WP D ad ca sc M tgt lv st h Q) (k2 : ¬ x = y → WP D ad ca sc M (pc + 3) lv st h Q) : WP D ad ca sc M pc lv (vI y :: vI x :: st) h Q :=
  fun p l e R s m args below meth c A H locs cells slots Z ls hc hR hS hl hr => lv_icmp_eq hc.1 hc.2.1 hd ht (fun q => k1 ((ofI_eq hx hy).mp q) p l e R s m args below meth c A H locs cells slots Z ls hc hR hS hl hr) (fun q => k2 (fun z => q ((ofI_eq hx hy).mpr z)) p l e R s m args below meth c A H locs cells slots Z ls hc hR hS hl hr)
theorem P_if_eq {x : Int} {off : Int} (tgt : Nat) (hd : decode M.2.1 pc = .ok (.ifCond .eq off, 3)) (ht : (pc : Int) + off = (tgt : Int)) (hx : InR x) (k1 : x = 0 → WP D ad ca sc M tgt lv st h Q) (k2 : ¬ x = 0 → WP D ad ca sc M (pc + 3) lv st h Q) : WP D ad ca sc M pc lv (vI x :: st) h Q :=
  fun p l e R s m args below meth c A H locs cells slots Z ls hc hR hS hl hr => lv_if_eq hc.1 hc.2.1 hd ht (fun q => k1 ((ofI_eq hx inR_0).mp (by rw [← ofI_0]; exact q)) p l e R s m args below meth c A H locs cells slots Z ls hc hR hS hl hr) (fun q => k2 (fun z => q (by rw [ofI_0]; exact (ofI_eq hx inR_0).mpr z)) p l e R s m args below meth c A H locs cells slots Z ls hc hR hS hl hr)
theorem P_icmp_ne {x y : Int} {off : Int} (tgt : Nat) (hd : decode M.2.1 pc = .ok (.if_icmp .ne off, 3)) (ht : (pc : Int) + off = (tgt : Int)) (hx : InR x) (hy : InR y) (k1 : ¬ x = y → WP D ad ca sc M tgt lv st h Q) (k2 : x = y → WP D ad ca sc M (pc + 3) lv st h Q) : WP D ad ca sc M pc lv (vI y :: vI x :: st) h Q :=
  fun p l e R s m args below meth c A H locs cells slots Z ls hc hR hS hl hr => lv_icmp_ne hc.1 hc.2.1 hd ht (fun q => k1 ((not_congr (ofI_eq hx hy)).mp q) p l e R s m args below meth c A H locs cells slots Z ls hc hR hS hl hr) (fun q => k2 ((ofI_eq hx hy).mp q) p l e R s m args below meth c A H locs cells slots Z ls hc hR hS hl hr)
theorem P_if_ne {x : Int} {off : Int} (tgt : Nat) (hd : decode M.2.1 pc = .ok (.ifCond .ne off, 3)) (ht : (pc : Int) + off = (tgt : Int)) (hx : InR x) (k1 : ¬ x = 0 → WP D ad ca sc M tgt lv st h Q) (k2 : x = 0 → WP D ad ca sc M (pc + 3) lv st h Q) : WP D ad ca sc M pc lv (vI x :: st) h Q :=
  fun p l e R s m args below meth c A H locs cells slots Z ls hc hR hS hl hr => lv_if_ne hc.1 hc.2.1 hd ht (fun q => k1 ((not_congr (ofI_eq hx inR_0)).mp (by rw [← ofI_0]; exact q)) p l e R s m args below meth c A H locs cells slots Z ls hc hR hS hl hr) (fun q => k2 ((ofI_eq hx inR_0).mp (by rw [← ofI_0]; exact q)) p l e R s m args below meth c A H locs cells slots Z ls hc hR hS hl hr)
theorem P_icmp_lt {x y : Int} {off : Int} (tgt : Nat) (hd : decode M.2.1 pc = .ok (.if_icmp .lt off, 3)) (ht : (pc : Int) + off = (tgt : Int)) (hx : InR x) (hy : InR y) (k1 : x < y → WP D ad ca sc M tgt lv st h Q) (k2 : ¬ x < y → WP D ad ca sc M (pc + 3) lv st h Q) : WP D ad ca sc M pc lv (vI y :: vI x :: st) h Q :=
  fun p l e R s m args below meth c A H locs cells slots Z ls hc hR hS hl hr => lv_icmp_lt hc.1 hc.2.1 hd ht (fun q => k1 ((ofI_lt hx hy).mp q) p l e R s m args below meth c A H locs cells slots Z ls hc hR hS hl hr) (fun q => k2 (fun z => q ((ofI_lt hx hy).mpr z)) p l e R s m args below meth c A H locs cells slots Z ls hc hR hS hl hr)
theorem P_if_lt {x : Int} {off : Int} (tgt : Nat) (hd : decode M.2.1 pc = .ok (.ifCond .lt off, 3)) (ht : (pc : Int) + off = (tgt : Int)) (hx : InR x) (k1 : x < 0 → WP D ad ca sc M tgt lv st h Q) (k2 : ¬ x < 0 → WP D ad ca sc M (pc + 3) lv st h Q) : WP D ad ca sc M pc lv (vI x :: st) h Q :=
  fun p l e R s m args below meth c A H locs cells slots Z ls hc hR hS hl hr => lv_if_lt hc.1 hc.2.1 hd ht (fun q => k1 ((ofI_lt hx inR_0).mp (by rw [← ofI_0]; exact q)) p l e R s m args below meth c A H locs cells slots Z ls hc hR hS hl hr) (fun q => k2 (fun z => q (by rw [ofI_0]; exact (ofI_lt hx inR_0).mpr z)) p l e R s m args below meth c A H locs cells slots Z ls hc hR hS hl hr)
theorem P_icmp_ge {x y : Int} {off : Int} (tgt : Nat) (hd : decode M.2.1 pc = .ok (.if_icmp .ge off, 3)) (ht : (pc : Int) + off = (tgt : Int)) (hx : InR x) (hy : InR y) (k1 : y ≤ x → WP D ad ca sc M tgt lv st h Q) (k2 : ¬ y ≤ x → WP D ad ca sc M (pc + 3) lv st h Q) : WP D ad ca sc M pc lv (vI y :: vI x :: st) h Q :=
  fun p l e R s m args below meth c A H locs cells slots Z ls hc hR hS hl hr => lv_icmp_ge hc.1 hc.2.1 hd ht (fun q => k1 ((ofI_le hy hx).mp q) p l e R s m args below meth c A H locs cells slots Z ls hc hR hS hl hr) (fun q => k2 (fun z => q ((ofI_le hy hx).mpr z)) p l e R s m args below meth c A H locs cells slots Z ls hc hR hS hl hr)
theorem P_if_ge {x : Int} {off : Int} (tgt : Nat) (hd : decode M.2.1 pc = .ok (.ifCond .ge off, 3)) (ht : (pc : Int) + off = (tgt : Int)) (hx : InR x) (k1 : 0 ≤ x → WP D ad ca sc M tgt lv st h Q) (k2 : ¬ 0 ≤ x → WP D ad ca sc M (pc + 3) lv st h Q) : WP D ad ca sc M pc lv (vI x :: st) h Q :=
  fun p l e R s m args below meth c A H locs cells slots Z ls hc hR hS hl hr => lv_if_ge hc.1 hc.2.1 hd ht (fun q => k1 ((ofI_le inR_0 hx).mp (by rw [← ofI_0]; exact q)) p l e R s m args below meth c A H locs cells slots Z ls hc hR hS hl hr) (fun q => k2 (fun z => q (by rw [ofI_0]; exact (ofI_le inR_0 hx).mpr z)) p l e R s m args below meth c A H locs cells slots Z ls hc hR hS hl hr)
theorem P_icmp_gt {x y : Int} {off : Int} (tgt : Nat) (hd : decode M.2.1 pc = .ok (.if_icmp .gt off, 3)) (ht : (pc : Int) + off = (tgt : Int)) (hx : InR x) (hy : InR y) (k1 : y < x → WP D ad ca sc M tgt lv st h Q) (k2 : ¬ y < x → WP D ad ca sc M (pc + 3) lv st h Q) : WP D ad ca sc M pc lv (vI y :: vI x :: st) h Q :=
  fun p l e R s m args below meth c A H locs cells slots Z ls hc hR hS hl hr => lv_icmp_gt hc.1 hc.2.1 hd ht (fun q => k1 ((ofI_lt hy hx).mp q) p l e R s m args below meth c A H locs cells slots Z ls hc hR hS hl hr) (fun q => k2 (fun z => q ((ofI_lt hy hx).mpr z)) p l e R s m args below meth c A H locs cells slots Z ls hc hR hS hl hr)
theorem P_if_gt {x : Int} {off : Int} (tgt : Nat) (hd : decode M.2.1 pc = .ok (.ifCond .gt off, 3)) (ht : (pc : Int) + off = (tgt : Int)) (hx : InR x) (k1 : 0 < x → WP D ad ca sc M tgt lv st h Q) (k2 : ¬ 0 < x → WP D ad ca sc M (pc + 3) lv st h Q) : WP D ad ca sc M pc lv (vI x :: st) h Q :=
  fun p l e R s m args below meth c A H locs cells slots Z ls hc hR hS hl hr => lv_if_gt hc.1 hc.2.1 hd ht (fun q => k1 ((ofI_lt inR_0 hx).mp (by rw [← ofI_0]; exact q)) p l e R s m args below meth c A H locs cells slots Z ls hc hR hS hl hr) (fun q => k2 (fun z => q (by rw [ofI_0]; exact (ofI_lt inR_0 hx).mpr z)) p l e R s m args below meth c A H locs cells slots Z ls hc hR hS hl hr)
theorem P_icmp_le {x y : Int} {off : Int} (tgt : Nat) (hd : decode M.2.1 pc = .ok (.if_icmp .le off, 3)) (ht : (pc : Int) + off = (tgt : Int)) (hx : InR x) (hy : InR y) (k1 : x ≤ y → WP D ad ca sc M tgt lv st h Q) (k2 : ¬ x ≤ y → WP D ad ca sc M (pc + 3) lv st h Q) : WP D ad ca sc M pc lv (vI y :: vI x :: st) h Q :=
  fun p l e R s m args below meth c A H locs cells slots Z ls hc hR hS hl hr => lv_icmp_le hc.1 hc.2.1 hd ht (fun q => k1 ((ofI_le hx hy).mp q) p l e R s m args below meth c A H locs cells slots Z ls hc hR hS hl hr) (fun q => k2 (fun z => q ((ofI_le hx hy).mpr z)) p l e R s m args below meth c A H locs cells slots Z ls hc hR hS hl hr)
theorem P_if_le {x : Int} {off : Int} (tgt : Nat) (hd : decode M.2.1 pc = .ok (.ifCond .le off, 3)) (ht : (pc : Int) + off = (tgt : Int)) (hx : InR x) (k1 : x ≤ 0 → WP D ad ca sc M tgt lv st h Q) (k2 : ¬ x ≤ 0 → WP D ad ca sc M (pc + 3) lv st h Q) : WP D ad ca sc M pc lv (vI x :: st) h Q :=
  fun p l e R s m args below meth c A H locs cells slots Z ls hc hR hS hl hr => lv_if_le hc.1 hc.2.1 hd ht (fun q => k1 ((ofI_le hx inR_0).mp (by rw [← ofI_0]; exact q)) p l e R s m args below meth c A H locs cells slots Z ls hc hR hS hl hr) (fun q => k2 (fun z => q (by rw [ofI_0]; exact (ofI_le hx inR_0).mpr z)) p l e R s m args below meth c A H locs cells slots Z ls hc hR hS hl hr)
end PM
end
section
section PH
variable {D : va_G} {ad : Nat → Nat} {ca : Nat → ClassId} {sc : SC} {M : MI} {pc : Nat} {lv : List (Nat × Value)} {st : List Value} {h : Hp} {Q Q' : Option Value → Hp → Prop}
theorem up_eq (h : Hp) (k : Nat) (i v : Int) : up h k i v = fun k2 => if k2 = k then upf (h k) i v else h k2 := rfl
theorem HR_up {h : Hp} (hh : HR h) {k : Nat} {i v : Int} (hv : InL v ∧ (k ≠ 44 → InR v)) : HR (up h k i v) := by
  intro k2 j
  unfold up upf
  by_cases hk : k2 = k
  · subst hk
    simp only [if_true]
    by_cases hj : j = i
    · simp only [hj, if_true]; exact hv
    · simp only [hj, if_false]; exact hh k2 j
  · simp only [hk, if_false]; exact hh k2 j
theorem Cx.D1 {D : va_G} {ad : Nat → Nat} {ca : Nat → ClassId} {sc : SC} {M : MI} {p : Program} {R : Room} {s : State} {m : MethodId} {args : Array Value} {meth : Method} {c : Code} {A : Nat → Prop} {cells slots : Nat} (hc : Cx D ad ca sc M p R s m args meth c A cells slots) (h : Hp) : va_D A (wsH ad ca h) := wsH_D hc.2.2.2.2.2.2.2.2.2.2.2.2.1 hc.2.2.2.2.2.2.2.2.2.2.2.2.2.1
theorem P_getf {k ci j idx N : Nat} {C : String} {T : u_T} {fs : List Value} {v : Value} (hk : k < 46) (he : wE ad ca k (h k) = .inr (ci, fs)) (hcl : classes[ci]? = some (C, T, N)) (hin : ∀ w ∈ u_ws C T N, w ∈ TB) (hj : j < N) (hC : (T j).1 = C) (hv : fs[j]? = some v)
    (hw : Cond.fieldLink M.1 idx C (T j).2.1 (T j).2.2.1 ∈ TB) (hd : decode M.2.1 pc = .ok (.getfield idx, 3)) (kk : WP D ad ca sc M (pc + 3) lv (v :: st) h Q) : WP D ad ca sc M pc lv (.ref (ad k) :: st) h Q := by
  intro p l e R s m args below meth c A H locs cells slots Z ls hc hR hS hl hr
  refine va_get (D := D) (ci := ci) (v := v) (C := C) (T := T) (N := N) (fs := fs) hc.1 hc.2.1 hc.2.2.2.2.2.2.1 hin hc.2.2.2.1 hc.2.2.2.2.2.2.2.2.2.2.2.1 hR.1 k (by rw [wsH_at hk, he]) hcl j hj (hc.2.2.2.2.2.2.1 _ hw) (fun x hx => by rw [← hC]; exact hx) hv hd ?_
  exact kk p l e R s m args below meth c A H locs cells slots Z ls hc hR hS hl hr
theorem P_putf {k ci j idx N : Nat} {C : String} {T : u_T} {fs : List Value} {x : Int} {ty : FieldType} {ty0 : Nat → FieldType} (hk : k < 46) (he : wE ad ca k (h k) = .inr (ci, fs)) (he2 : (.inr (ci, fs.set j (vI x)) : va_E) = wE ad ca k (upf (h k) (j : Int) x)) (hcl : classes[ci]? = some (C, T, N)) (hin : ∀ w ∈ u_ws C T N, w ∈ TB) (hty : ∀ k, k < N → parseFieldDescriptor (T k).2.2.1 = some (ty0 k)) (hnm : ∀ a, a < N → ∀ b, b < N → a ≠ b → (T a).2.1 ≠ (T b).2.1) (hj : j < N) (hC : (T j).1 = C) (hfin : (T j).2.2.2 = false)
    (hd1 : parseFieldDescriptor (T j).2.2.1 = some ty) (hn : narrow ty (vI x) = vI x) (hfit : fits ty (vI x) = true) (hlen : j < fs.length) (h44 : k ≠ 44) (hx : InR x)
    (hw : Cond.fieldLink M.1 idx C (T j).2.1 (T j).2.2.1 ∈ TB) (hd : decode M.2.1 pc = .ok (.putfield idx, 3)) (kk : WP D ad ca sc M (pc + 3) lv st (up h k (j : Int) x) Q) : WP D ad ca sc M pc lv (vI x :: .ref (ad k) :: st) h Q := by
  intro p l e R s m args below meth c A H locs cells slots Z ls hc hR hS hl hr
  refine va_put (D := D) (ci := ci) (C := C) (T := T) (N := N) (fs := fs) (ty := ty) hc.1 hc.2.1 hc.2.2.2.2.2.2.1 hin ty0 hty hnm hc.2.2.2.1 hc.2.2.2.2.2.2.2.2.2.2.2.1 hR.1 (hc.D1 h) hS k (by rw [wsH_at hk, he]) hcl j hj (hc.2.2.2.2.2.2.1 _ hw) (fun x hx => by rw [← hC]; exact hx) hfin hd1 hn hfit hlen hd (fun H1 locs1 hP1 hD1 hS1 => ?_)
  rw [wsH_set he2] at hP1
  exact kk p l e R s m args below meth c A H1 locs1 cells slots Z ls hc ⟨hP1, HR_up hR.2 ⟨hx.toL, fun _ => hx⟩⟩ hS1 hl hr
theorem P_iald {k n : Nat} {i : Int} (hk : k < 46) (he : wE ad ca k (h k) = .inl (ca 0, aI n (h k))) (h44 : k ≠ 44) (hn : n ≤ 100000) (hd : decode M.2.1 pc = .ok (.iaload, 1)) (hi : 0 ≤ i ∧ i < n) (kk : InR (h k i) → WP D ad ca sc M (pc + 1) lv (vI (h k i) :: st) h Q) : WP D ad ca sc M pc lv (vI i :: .ref (ad k) :: st) h Q := by
  intro p l e R s m args below meth c A H locs cells slots Z ls hc hR hS hl hr
  obtain ⟨h1, h2⟩ := ofI_nat (n := n) hi.1 hi.2 hn
  refine va_iald hc.1 hc.2.1 hc.2.2.2.2.2.2.2.2.2.2.2.1 hR.1 k 0 (n := n) (f := fun j => Int32.ofInt (h k (j : Int))) (by rw [wsH_at hk, he]; rfl) rfl h1 hd ?_
  rw [h2]
  show W p l e R s m args below meth c H locs cells slots Z (F0 m (pc + 1) ls (Value.int (Int32.ofInt (h k ((i.toNat : Nat) : Int))) :: st))
  rw [Int.toNat_of_nonneg hi.1]
  exact kk ((hR.2 k i).2 h44) p l e R s m args below meth c A H locs cells slots Z ls hc hR hS hl hr
theorem P_zald {k n : Nat} {i : Int} (hk : k < 46) (he : wE ad ca k (h k) = .inl (ca 1, aI n (h k))) (h44 : k ≠ 44) (hn : n ≤ 100000) (hd : decode M.2.1 pc = .ok (.baload, 1)) (hi : 0 ≤ i ∧ i < n) (kk : InR (h k i) → WP D ad ca sc M (pc + 1) lv (vI (h k i) :: st) h Q) : WP D ad ca sc M pc lv (vI i :: .ref (ad k) :: st) h Q := by
  intro p l e R s m args below meth c A H locs cells slots Z ls hc hR hS hl hr
  obtain ⟨h1, h2⟩ := ofI_nat (n := n) hi.1 hi.2 hn
  refine va_zald hc.1 hc.2.1 hc.2.2.2.2.2.2.2.2.2.2.2.1 hR.1 k 1 (n := n) (f := fun j => Int32.ofInt (h k (j : Int))) (by rw [wsH_at hk, he]; rfl) rfl h1 hd ?_
  rw [h2]
  show W p l e R s m args below meth c H locs cells slots Z (F0 m (pc + 1) ls (Value.int (Int32.ofInt (h k ((i.toNat : Nat) : Int))) :: st))
  rw [Int.toNat_of_nonneg hi.1]
  exact kk ((hR.2 k i).2 h44) p l e R s m args below meth c A H locs cells slots Z ls hc hR hS hl hr
theorem P_lald {k n : Nat} {i : Int} (hk : k < 46) (he : wE ad ca k (h k) = .inl (ca 2, aL n (h k))) (hn : n ≤ 100000) (hd : decode M.2.1 pc = .ok (.laload, 1)) (hi : 0 ≤ i ∧ i < n) (kk : InL (h k i) → WP D ad ca sc M (pc + 1) lv (vL (h k i) :: st) h Q) : WP D ad ca sc M pc lv (vI i :: .ref (ad k) :: st) h Q := by
  intro p l e R s m args below meth c A H locs cells slots Z ls hc hR hS hl hr
  obtain ⟨h1, h2⟩ := ofI_nat (n := n) hi.1 hi.2 hn
  refine va_lald hc.1 hc.2.1 hc.2.2.2.2.2.2.2.2.2.2.2.1 hR.1 k 2 (n := n) (f := fun j => Int64.ofInt (h k (j : Int))) (by rw [wsH_at hk, he]; rfl) rfl h1 hd ?_
  rw [h2]
  show W p l e R s m args below meth c H locs cells slots Z (F0 m (pc + 1) ls (Value.long (Int64.ofInt (h k ((i.toNat : Nat) : Int))) :: st))
  rw [Int.toNat_of_nonneg hi.1]
  exact kk (hR.2 k i).1 p l e R s m args below meth c A H locs cells slots Z ls hc hR hS hl hr
theorem upd_upf (f : Int → Int) (n : Nat) {i x : Int} (h0 : 0 ≤ i) : ((n, .inl (upd (fun j => Int32.ofInt (f (j : Int))) i.toNat (Int32.ofInt x))) : vp_A) = aI n (upf f i x) := by
  unfold aI
  congr 2
  funext j
  unfold upd upf
  by_cases hj : j = i.toNat
  · have : (j : Int) = i := by omega
    simp [hj, Int.toNat_of_nonneg h0]
  · have : ¬ (j : Int) = i := by omega
    simp [hj, this]
theorem updL_upf (f : Int → Int) (n : Nat) {i x : Int} (h0 : 0 ≤ i) : ((n, .inr (.inl (vp_updL (fun j => Int64.ofInt (f (j : Int))) i.toNat (Int64.ofInt x)))) : vp_A) = aL n (upf f i x) := by
  unfold aL
  congr 3
  funext j
  unfold vp_updL upf
  by_cases hj : j = i.toNat
  · have : (j : Int) = i := by omega
    simp [hj, Int.toNat_of_nonneg h0]
  · have : ¬ (j : Int) = i := by omega
    simp [hj, this]
theorem P_iast {k n : Nat} {i x : Int} (hk : k < 46) (he : ∀ f, wE ad ca k f = .inl (ca 0, aI n f)) (h44 : k ≠ 44) (hn : n ≤ 100000) (hd : decode M.2.1 pc = .ok (.iastore, 1)) (hi : 0 ≤ i ∧ i < n) (hx : InR x) (kk : WP D ad ca sc M (pc + 1) lv st (up h k i x) Q) : WP D ad ca sc M pc lv (vI x :: vI i :: .ref (ad k) :: st) h Q := by
  intro p l e R s m args below meth c A H locs cells slots Z ls hc hR hS hl hr
  obtain ⟨h1, h2⟩ := ofI_nat (n := n) hi.1 hi.2 hn
  refine va_iast hc.1 hc.2.1 hc.2.2.2.2.2.2.2.2.2.2.2.1 hR.1 (hc.D1 h) hS k 0 (n := n) (f := fun j => Int32.ofInt (h k (j : Int))) (by rw [wsH_at hk, he]; rfl) rfl h1 hd (fun H1 locs1 hP1 hD1 hS1 => ?_)
  rw [h2, upd_upf (h k) n hi.1, wsH_set (he _).symm] at hP1
  exact kk p l e R s m args below meth c A H1 locs1 cells slots Z ls hc ⟨hP1, HR_up hR.2 ⟨hx.toL, fun _ => hx⟩⟩ hS1 hl hr
theorem nar_z {x : Int} (hx : x = 0 ∨ x = 1) : vp_nar .boolean (Int32.ofInt x) = Int32.ofInt x := by
  rcases hx with rfl | rfl <;> decide
theorem P_zast {k n : Nat} {i x : Int} (hk : k < 46) (he : ∀ f, wE ad ca k f = .inl (ca 1, aI n f)) (h44 : k ≠ 44) (hn : n ≤ 100000) (hd : decode M.2.1 pc = .ok (.bastore, 1)) (hi : 0 ≤ i ∧ i < n) (hx : x = 0 ∨ x = 1) (kk : WP D ad ca sc M (pc + 1) lv st (up h k i x) Q) : WP D ad ca sc M pc lv (vI x :: vI i :: .ref (ad k) :: st) h Q := by
  intro p l e R s m args below meth c A H locs cells slots Z ls hc hR hS hl hr
  obtain ⟨h1, h2⟩ := ofI_nat (n := n) hi.1 hi.2 hn
  refine va_zast hc.1 hc.2.1 hc.2.2.2.2.2.2.2.2.2.2.2.1 hR.1 (hc.D1 h) hS k 1 (n := n) (f := fun j => Int32.ofInt (h k (j : Int))) (by rw [wsH_at hk, he]; rfl) rfl h1 hd (fun H1 locs1 hP1 hD1 hS1 => ?_)
  rw [h2, nar_z hx, upd_upf (h k) n hi.1, wsH_set (he _).symm] at hP1
  have hxr : InR x := by unfold InR; omega
  exact kk p l e R s m args below meth c A H1 locs1 cells slots Z ls hc ⟨hP1, HR_up hR.2 ⟨hxr.toL, fun _ => hxr⟩⟩ hS1 hl hr
theorem P_last {k n : Nat} {i x : Int} (hk : k < 46) (he : ∀ f, wE ad ca k f = .inl (ca 2, aL n f)) (h44 : k = 44) (hn : n ≤ 100000) (hd : decode M.2.1 pc = .ok (.lastore, 1)) (hi : 0 ≤ i ∧ i < n) (hx : InL x) (kk : WP D ad ca sc M (pc + 1) lv st (up h k i x) Q) : WP D ad ca sc M pc lv (vL x :: vI i :: .ref (ad k) :: st) h Q := by
  intro p l e R s m args below meth c A H locs cells slots Z ls hc hR hS hl hr
  obtain ⟨h1, h2⟩ := ofI_nat (n := n) hi.1 hi.2 hn
  refine va_last hc.1 hc.2.1 hc.2.2.2.2.2.2.2.2.2.2.2.1 hR.1 (hc.D1 h) hS k 2 (n := n) (f := fun j => Int64.ofInt (h k (j : Int))) (by rw [wsH_at hk, he]; rfl) rfl h1 hd (fun H1 locs1 hP1 hD1 hS1 => ?_)
  rw [h2, updL_upf (h k) n hi.1, wsH_set (he _).symm] at hP1
  exact kk p l e R s m args below meth c A H1 locs1 cells slots Z ls hc ⟨hP1, HR_up hR.2 ⟨hx, fun q => absurd h44 q⟩⟩ hS1 hl hr
theorem P_sld {b L : Nat} {xs : Nat → Int32} {i : Int} (hsc : sc = some (b, L, xs)) (hL : L ≤ 100000) (hd : decode M.2.1 pc = .ok (.iaload, 1)) (hi : 0 ≤ i ∧ i < L) (kk : WP D ad ca sc M (pc + 1) lv (vI (xs i.toNat).toInt :: st) h Q) : WP D ad ca sc M pc lv (vI i :: .ref b :: st) h Q := by
  intro p l e R s m args below meth c A H locs cells slots Z ls hc hR hS hl hr
  obtain ⟨h1, h2⟩ := ofI_nat (n := L) hi.1 hi.2 hL
  obtain ⟨x1, x2, x3⟩ := hc.2.2.2.2.2.2.2.2.2.2.2.2.2.2 b L xs hsc
  refine va_sld hc.1 hc.2.1 x1 x2 x3 hS h1 hd ?_
  rw [h2, ← Int32.ofInt_toInt (xs i.toNat)]
  exact kk p l e R s m args below meth c A H locs cells slots Z ls hc hR hS hl hr
theorem P_slen {b L : Nat} {xs : Nat → Int32} (hsc : sc = some (b, L, xs)) (hd : decode M.2.1 pc = .ok (.arraylength, 1)) (kk : WP D ad ca sc M (pc + 1) lv (vI (L : Int) :: st) h Q) : WP D ad ca sc M pc lv (.ref b :: st) h Q := by
  intro p l e R s m args below meth c A H locs cells slots Z ls hc hR hS hl hr
  obtain ⟨x1, x2, x3⟩ := hc.2.2.2.2.2.2.2.2.2.2.2.2.2.2 b L xs hsc
  refine va_slen hc.1 hc.2.1 x1 x2 x3 hS hd ?_
  exact kk p l e R s m args below meth c A H locs cells slots Z ls hc hR hS hl hr
theorem P_iret {x : Int} (hd : decode M.2.1 pc = .ok (.ireturn, 1)) (ht : M.2.2.2.2.2 = some .int) (k : Q (some (vI x)) h) : WP D ad ca sc M pc lv [vI x] h Q :=
  fun p l e R s m args below meth c A H locs cells slots Z ls hc hR hS hl hr => hr (some (vI x)) h H locs ls pc k hR hS (Or.inl ⟨_, .int, rfl, hd, ht, rfl⟩)
theorem P_zret {x : Int} (hd : decode M.2.1 pc = .ok (.ireturn, 1)) (ht : M.2.2.2.2.2 = some .boolean) (hx : x = 0 ∨ x = 1) (k : Q (some (vI x)) h) : WP D ad ca sc M pc lv [vI x] h Q :=
  fun p l e R s m args below meth c A H locs cells slots Z ls hc hR hS hl hr => hr (some (vI x)) h H locs ls pc k hR hS (Or.inl ⟨_, .boolean, rfl, hd, ht, by rcases hx with rfl | rfl <;> decide⟩)
theorem P_lret {x : Int} (hd : decode M.2.1 pc = .ok (.lreturn, 1)) (ht : M.2.2.2.2.2 = some .long) (k : Q (some (vL x)) h) : WP D ad ca sc M pc lv [vL x] h Q :=
  fun p l e R s m args below meth c A H locs cells slots Z ls hc hR hS hl hr => hr (some (vL x)) h H locs ls pc k hR hS (Or.inr (Or.inl ⟨_, rfl, hd, ht⟩))
theorem P_vret (hd : decode M.2.1 pc = .ok (.return_, 1)) (ht : M.2.2.2.2.2 = none) (k : Q none h) : WP D ad ca sc M pc lv [] h Q :=
  fun p l e R s m args below meth c A H locs cells slots Z ls hc hR hS hl hr => hr none h H locs ls pc k hR hS (Or.inr (Or.inr ⟨rfl, hd, ht⟩))
/-! long compares, division by a written number, switches -/
def lc (x y : Int) : Int := if y < x then 1 else if x = y then 0 else -1
theorem lc_I {x y : Int} (hx : InL x) (hy : InL y) : lg_cmp (Int64.ofInt x) (Int64.ofInt y) = Int32.ofInt (lc x y) := by
  unfold lg_cmp lc
  have e1 : (Int64.ofInt x > Int64.ofInt y) ↔ y < x := by
    show Int64.ofInt y < Int64.ofInt x ↔ _
    rw [Int64.lt_iff_toInt_lt, toInt_L hx, toInt_L hy]
  have e2 : (Int64.ofInt x = Int64.ofInt y) ↔ x = y := by
    rw [← Int64.toInt_inj, toInt_L hx, toInt_L hy]
  by_cases h1 : y < x
  · rw [if_pos (e1.mpr h1), if_pos h1]; rfl
  · rw [if_neg (fun z => h1 (e1.mp z)), if_neg h1]
    by_cases h2 : x = y
    · rw [if_pos (e2.mpr h2), if_pos h2]; rfl
    · rw [if_neg (fun z => h2 (e2.mp z)), if_neg h2]; rfl
theorem lc_R (x y : Int) : InR (lc x y) := by
  unfold lc InR; split <;> (try split) <;> omega
theorem P_lcmp {x y : Int} (hx : InL x) (hy : InL y) (hd : decode M.2.1 pc = .ok (.lcmp, 1)) (k : WP D ad ca sc M (pc + 1) lv (vI (lc x y) :: st) h Q) : WP D ad ca sc M pc lv (vL y :: vL x :: st) h Q :=
  fun p l e R s m args below meth c A H locs cells slots Z ls hc hR hS hl hr => W.lcmp hc.1 hc.2.1 hd (by rw [lc_I hx hy]; exact k p l e R s m args below meth c A H locs cells slots Z ls hc hR hS hl hr)
theorem lc_lt {x y : Int} : lc x y < 0 ↔ x < y := by unfold lc; split <;> (try split) <;> omega
theorem lc_le {x y : Int} : lc x y ≤ 0 ↔ x ≤ y := by unfold lc; split <;> (try split) <;> omega
theorem lc_gt {x y : Int} : 0 < lc x y ↔ y < x := by unfold lc; split <;> (try split) <;> omega
theorem lc_ge {x y : Int} : 0 ≤ lc x y ↔ y ≤ x := by unfold lc; split <;> (try split) <;> omega
theorem ofL_div {x y : Int} (hx : 0 ≤ x ∧ InL x) (hy : 0 < y ∧ InL y) : Int64.ofInt x / Int64.ofInt y = Int64.ofInt (x / y) := by
  rw [← Int64.toInt_inj]
  have hq : InL (x / y) := by
    have h1 : 0 ≤ x / y := Int.ediv_nonneg hx.1 (by omega)
    have h2 : x / y ≤ x := Int.ediv_le_self y hx.1
    unfold InL at *
    omega
  rw [Int64.toInt_div, toInt_L hx.2, toInt_L hy.2, toInt_L hq, Int.tdiv_eq_ediv_of_nonneg hx.1]
  unfold InL at hq
  apply Int.bmod_eq_of_le <;> simp <;> omega
theorem P_ldiv {x y : Int} (hx : 0 ≤ x ∧ InL x) (hy : 0 < y ∧ InL y) (hd : decode M.2.1 pc = .ok (.ldiv, 1)) (k : WP D ad ca sc M (pc + 1) lv (vL (x / y) :: st) h Q) : WP D ad ca sc M pc lv (vL y :: vL x :: st) h Q :=
  fun p l e R s m args below meth c A H locs cells slots Z ls hc hR hS hl hr => lv_ldiv hc.1 hc.2.1 hd (fun z => by
    have : y = 0 := by rw [← toInt_L hy.2, z]; rfl
    omega) (by rw [ofL_div hx hy]; exact k p l e R s m args below meth c A H locs cells slots Z ls hc hR hS hl hr)
theorem P_lrem {x y : Int} (hx : 0 ≤ x ∧ InL x) (hy : 0 < y ∧ InL y) (hd : decode M.2.1 pc = .ok (.lrem, 1)) (k : WP D ad ca sc M (pc + 1) lv (vL (x % y) :: st) h Q) : WP D ad ca sc M pc lv (vL y :: vL x :: st) h Q :=
  fun p l e R s m args below meth c A H locs cells slots Z ls hc hR hS hl hr => lv_lrem hc.1 hc.2.1 hd (fun z => by
    have : y = 0 := by rw [← toInt_L hy.2, z]; rfl
    omega) (by
      rw [ofL_div hx hy, ofL_mul, ofL_sub]
      have e9 : x - x / y * y = x % y := by have := Int.emod_def x y; rw [Int.mul_comm] at this; omega
      rw [e9]
      exact k p l e R s m args below meth c A H locs cells slots Z ls hc hR hS hl hr)
theorem P_tabOut {dflt lo hi : Int} {offs : Array Int} {len : Nat} {x : Int} (tgt : Nat) (hd : decode M.2.1 pc = .ok (.tableswitch dflt lo hi offs, len)) (hx : InR x) (ho : x < lo ∨ hi < x) (ht : (pc : Int) + dflt = (tgt : Int)) (k : WP D ad ca sc M tgt lv st h Q) : WP D ad ca sc M pc lv (vI x :: st) h Q :=
  fun p l e R s m args below meth c A H locs cells slots Z ls hc hR hS hl hr => lv_tableOut hc.1 hc.2.1 hd (by rw [toInt_I hx]; exact ho) ht (k p l e R s m args below meth c A H locs cells slots Z ls hc hR hS hl hr)
theorem P_tabIn {dflt lo hi : Int} {offs : Array Int} {len : Nat} {x : Int} {off : Int} (tgt : Nat) (v : Int) (hd : decode M.2.1 pc = .ok (.tableswitch dflt lo hi offs, len)) (hx : x = v) (hv : InR v) (h1 : ¬ v < lo) (h2 : ¬ hi < v) (ho : offs[(v - lo).toNat]? = some off) (ht : (pc : Int) + off = (tgt : Int)) (k : WP D ad ca sc M tgt lv st h Q) : WP D ad ca sc M pc lv (vI x :: st) h Q := by
  subst hx
  exact fun p l e R s m args below meth c A H locs cells slots Z ls hc hR hS hl hr => lv_tableIn hc.1 hc.2.1 hd (by rw [toInt_I hv]; exact h1) (by rw [toInt_I hv]; exact h2) (by rw [toInt_I hv]; exact ho) ht (k p l e R s m args below meth c A H locs cells slots Z ls hc hR hS hl hr)
end PH
end
section
/-! calls: a method's contract out of its WP, and a call out of the contract -/
def adS (ad : Nat → Nat) : Nat → Prop := fun q => ∃ k, k < 46 ∧ q = ad k
def wsM (y : MethodName) (Mc : MI) : List Cond := .code y Mc.2.1 Mc.2.2.1 Mc.2.2.2.2.2 :: TB
def rmM (Mc : MI) : Room := { frames := Mc.2.2.2.1, cells := 0, slots := 0, locals := Mc.2.2.2.2.1 }
def QcM (D : va_G) (ad : Nat → Nat) (ca : Nat → ClassId) (Q : Option Value → Hp → Prop) : Array Value → State → Outcome → State → Prop := fun _ st o t => (∃ (v : Option Value) (h' : Hp), o = .returned v ∧ Q v h' ∧ Rl D ad ca h' t.heap) ∧ va_F (adS ad) st t
def PcM (D : va_G) (ad : Nat → Nat) (ca : Nat → ClassId) (av : List Value) (h : Hp) : Array Value → State → Prop := va_Pc av (fun U => Rl D ad ca h U.heap ∧ va_K D classes (tysC ca) U)
theorem met_of {D : va_G} {ad : Nat → Nat} {ca : Nat → ClassId} {Mc : MI} {y : MethodName} {av : List Value} {h : Hp} {Q : Option Value → Hp → Prop} (l : Launch) (hy : plainName y.cls = true) (hyc : y.cls = Mc.1) (hav : (lg_sl av).length ≤ Mc.2.2.1) (hinj : ∀ i j, i < 46 → j < 46 → ad i = ad j → i = j)
    (hw : WP D ad ca none Mc 0 (lv_args 0 av) [] h Q) : Met l y (wsM y Mc) (rmM Mc) (PcM D ad ca av h) (QcM D ad ca Q) 0 0 (adS ad) := by
  refine Met.ofW (cc := Mc.2.1) (maxL := Mc.2.2.1) (ret := Mc.2.2.2.2.2) hy rfl ?_
  intro p e s m args below meth c s₁ B hml hv
  obtain ⟨rfl, hR, hK⟩ := hv
  have hts := atoms_spec (ws := wsM y Mc) B.pre
  have hown : s.vm.findClass Mc.1 = some m.cls := by rw [← hyc]; exact findClass_of_methodNamed B.named
  have hl := lv_entry av (n := Mc.2.2.1) hav
  rw [lg_entry_eq]
  refine hw p l e _ s m av.toArray below meth c (adS ad) s.heap [] 0 0 _ _ ⟨B.exec, B.bytes, hml, hown, B.returns, B.notSynchronized, fun w hw => hts w (List.mem_cons_of_mem _ hw), Nat.le_refl _, Nat.le_refl _, Nat.zero_le _, Nat.zero_le _, hK, hinj, fun k hk => ⟨k, hk, rfl⟩, fun b L xs q => by cases q⟩ hR va_S.rf hl ?_
  intro v h' H' locs' ls' pc' hq hR' hS' hrt
  rcases hrt with ⟨x, ty, rfl, hd, ht, hn⟩ | ⟨x, rfl, hd, ht⟩ | ⟨rfl, hd, ht⟩
  · exact W.zret (hlocks := B.notSynchronized) B.exec B.bytes (B.returns.trans ht) hn (fun t ht hW => ⟨⟨_, h', rfl, hq, by rw [ht]; exact hR'⟩, hS'.F ht⟩) hS'.2.2 hd
  · exact W.lret (hlocks := B.notSynchronized) B.exec B.bytes (B.returns.trans ht) (fun t ht hW => ⟨⟨_, h', rfl, hq, by rw [ht]; exact hR'⟩, hS'.F ht⟩) hS'.2.2 hd
  · exact W.vret (hlocks := B.notSynchronized) B.exec B.bytes (B.returns.trans ht) (fun t ht hW => ⟨⟨_, h', rfl, hq, by rw [ht]; exact hR'⟩, hS'.F ht⟩) hS'.2.2 hd
section PC
variable {D : va_G} {ad : Nat → Nat} {ca : Nat → ClassId} {sc : SC} {M : MI} {pc : Nat} {lv : List (Nat × Value)} {st : List Value} {h : Hp} {Q Q' : Option Value → Hp → Prop}
theorem PcM_blind (av : List Value) (h : Hp) : FrameBlind (PcM D ad ca av h) := by
  intro a U g mk q
  obtain ⟨q0, qP, qK⟩ := q
  exact ⟨q0, qP, va_K.moved (u := U) (U := U.calling g mk a) (Vm.Alike.refl U.vm) qK⟩
/-- behind a call -/
theorem P_back {p : Program} {l : Launch} {e : Env} {R : Room} {s : State} {m : MethodId} {args : Array Value} {below : List Frame} {meth : Method} {c : Code} {A : Nat → Prop} {H H0 : Heap} {locs : List Loc} {cells slots : Nat} {Z : State → Prop} {ls : Array Slot} {rest st0 : List Value} {a : Array Value}
    (hr : va_Run p l e R s m args below meth c H locs cells slots 0 0 (F0 m pc ls st0) rest (QcM D ad ca Q a) (adS ad)) (hS : va_S A H0 H locs) (hA : ∀ k, k < 46 → A (ad k))
    (kk : ∀ (v : Option Value) (h' : Hp) (H1 : Heap) (locs1 : List Loc), Q v h' → Rl D ad ca h' H1 → va_S A H0 H1 locs1 → W p l e R s m args below meth c H1 locs1 cells slots Z (F0 m (pc + 3) ls (v.toList ++ rest))) : W p l e R s m args below meth c H locs cells slots Z (F0 m pc ls st0) := by
  intro T hT X
  obtain ⟨v, st₀, t, T', L, h0, X', hL, e1, e2, ⟨⟨v2, h', hv, hq, hR⟩, hz, hk⟩, st⟩ := hr T hT X
  cases hv
  rw [h0] at hz hk
  have hAA : ∀ q, adS ad q → A q := fun q ⟨k, hk, e⟩ => by rw [e]; exact hA k hk
  obtain ⟨t2, a1, b1⟩ := kk v h' T'.heap (locs ++ L) hq (by rw [e1]; exact hR)
    ⟨Nat.le_trans hS.1 (by rw [e1]; exact hz), fun q h1 h2 => by rw [e1, hk q (Nat.lt_of_lt_of_le h1 hS.1) (fun z => h2 (hAA q z))]; exact hS.2.1 q h1 h2, fun q hq => by
      rcases List.mem_append.mp hq with h | h
      · exact hS.2.2 q h
      · exact hAA _ (hL q h)⟩ T' rfl X'
  exact ⟨t2, st t2 a1, b1⟩
theorem good_V {own C : String} {idx : Nat} {y : MethodName} {Mc : MI} (h1 : Cond.methodLink own idx y ∈ TB) (h2 : Cond.instanceMethod y ∈ TB) (h3 : Cond.selects C y y ∈ TB) (h4 : Cond.initialized C ∈ TB) (h5 : Cond.code y Mc.2.1 Mc.2.2.1 Mc.2.2.2.2.2 ∈ TB) : GoodIn TB (wsV own idx C y (wsM y Mc)) := by
  intro w hw
  unfold wsV wsM at hw
  refine TB_good w ?_
  simp only [List.cons_append, List.nil_append, List.mem_cons] at hw
  rcases hw with rfl | rfl | rfl | rfl | rfl | hw
  · exact h1
  · exact h2
  · exact h3
  · exact h4
  · exact h5
  · exact hw
theorem good_S {own : String} {idx : Nat} {y : MethodName} {Mc : MI} (h1 : Cond.methodLink own idx y ∈ TB) (h2 : Cond.static y ∈ TB) (h4 : Cond.initialized y.cls ∈ TB) (h5 : Cond.code y Mc.2.1 Mc.2.2.1 Mc.2.2.2.2.2 ∈ TB) : GoodIn TB (va_wsS own idx y (wsM y Mc)) := by
  intro w hw
  unfold va_wsS wsM at hw
  refine TB_good w ?_
  simp only [List.cons_append, List.nil_append, List.mem_cons] at hw
  rcases hw with rfl | rfl | rfl | rfl | hw
  · exact h1
  · exact h2
  · exact h4
  · exact h5
  · exact hw
theorem P_invV {k ci idx n N : Nat} {T : u_T} {fs : List Value} {Mc : MI} {y : MethodName} {As rest : List Value} (hk : k < 46) (he : wE ad ca k (h k) = .inr (ci, fs)) (hcl : classes[ci]? = some (y.cls, T, N)) (g : GoodIn TB (wsV M.1 idx y.cls y (wsM y Mc)))
    (hy : plainName y.cls = true ∧ y.cls = Mc.1) (hd2 : y.cls = y.cls ∧ y.cls ≠ "java/lang/invoke/MethodHandle" ∧ y.cls ≠ "java/lang/invoke/VarHandle" ∧ (parseMethodDescriptor y.desc).map (fun d => d.parameters.length) = some n) (hroom : Mc.2.2.2.1 + 1 ≤ M.2.2.2.1 ∧ 8 + (Mc.2.2.1 + 11) + Mc.2.2.2.2.1 ≤ M.2.2.2.2.1)
    (hn : As.length = n) (hst : st = As.reverse ++ .ref (ad k) :: rest) (hrest : (rest.map fun v => v.category).sum ≤ 8) (hav : (lg_sl (.ref (ad k) :: As)).length ≤ Mc.2.2.1)
    (hd : decode M.2.1 pc = .ok (.invokevirtual idx, 3)) (kk : WP D ad ca none Mc 0 (lv_args 0 (.ref (ad k) :: As)) [] h (fun v h' => WP D ad ca sc M (pc + 3) lv (v.toList ++ rest) h' Q)) : WP D ad ca sc M pc lv st h Q := by
  subst hst
  intro p l e R s m args below meth c A H locs cells slots Z ls hc hR hS hl hr
  have hK := hc.2.2.2.2.2.2.2.2.2.2.2.1
  refine P_back (va_runV (cc := M.2.1) (nL := M.2.2.1) (Ts := TB) (own := M.1) (As := As) (rest := rest) (b := ad k) (C := y.cls) (n := n) (bytes := Mc.2.1) (maxL := Mc.2.2.1) (ret := Mc.2.2.2.2.2) ⟨hc.1, hc.2.1, hc.2.2.1, hc.2.2.2.1, hc.2.2.2.2.2.2.1⟩ (met_of l hy.1 hy.2 hav hc.2.2.2.2.2.2.2.2.2.2.2.2.1 kk) (cwV n hc.2.2.2.2.2.2.1 g rfl rfl rfl hd2 ⟨Nat.le_trans hroom.1 hc.2.2.2.2.2.2.2.1, Nat.le_trans hroom.2 hc.2.2.2.2.2.2.2.2.1⟩) ⟨PcM_blind _ _, va_recv hK hR.1 hcl (by rw [wsH_at hk, he]), fun U hU hW => ⟨rfl, by rw [hU]; exact hR, va_K.moved hW.alike hK⟩⟩ rfl hn hl.1 rfl (lv_room hrest) hd ⟨hc.2.2.2.2.2.2.2.2.2.1, hc.2.2.2.2.2.2.2.2.2.2.1⟩) hS hc.2.2.2.2.2.2.2.2.2.2.2.2.2.1 ?_
  intro v h' H1 locs1 hq hR1 hS1
  exact hq p l e R s m args below meth c A H1 locs1 cells slots Z ls hc hR1 hS1 hl hr
theorem P_invS {idx n : Nat} {Mc : MI} {y : MethodName} {As rest : List Value} (g : GoodIn TB (va_wsS M.1 idx y (wsM y Mc)))
    (hy : plainName y.cls = true ∧ y.cls = Mc.1) (hd2 : y.cls ≠ "java/lang/invoke/MethodHandle" ∧ y.cls ≠ "java/lang/invoke/VarHandle" ∧ (parseMethodDescriptor y.desc).map (fun d => d.parameters.length) = some n) (hroom : Mc.2.2.2.1 + 1 ≤ M.2.2.2.1 ∧ 8 + (Mc.2.2.1 + 11) + Mc.2.2.2.2.1 ≤ M.2.2.2.2.1)
    (hn : As.length = n) (hst : st = As.reverse ++ rest) (hrest : (rest.map fun v => v.category).sum ≤ 8) (hav : (lg_sl As).length ≤ Mc.2.2.1)
    (hd : decode M.2.1 pc = .ok (.invokestatic idx, 3)) (kk : WP D ad ca none Mc 0 (lv_args 0 As) [] h (fun v h' => WP D ad ca sc M (pc + 3) lv (v.toList ++ rest) h' Q)) : WP D ad ca sc M pc lv st h Q := by
  subst hst
  intro p l e R s m args below meth c A H locs cells slots Z ls hc hR hS hl hr
  have hK := hc.2.2.2.2.2.2.2.2.2.2.2.1
  refine P_back (va_runS (cc := M.2.1) (nL := M.2.2.1) (Ts := TB) (own := M.1) (As := As) (rest := rest) (n := n) (bytes := Mc.2.1) (maxL := Mc.2.2.1) (ret := Mc.2.2.2.2.2) ⟨hc.1, hc.2.1, hc.2.2.1, hc.2.2.2.1, hc.2.2.2.2.2.2.1⟩ (met_of l hy.1 hy.2 hav hc.2.2.2.2.2.2.2.2.2.2.2.2.1 kk) (va_cwS n hc.2.2.2.2.2.2.1 g rfl rfl rfl hd2 ⟨Nat.le_trans hroom.1 hc.2.2.2.2.2.2.2.1, Nat.le_trans hroom.2 hc.2.2.2.2.2.2.2.2.1⟩) ⟨PcM_blind _ _, fun U hU hW => ⟨rfl, by rw [hU]; exact hR, va_K.moved hW.alike hK⟩⟩ rfl hn hl.1 rfl (lv_room hrest) hd ⟨hc.2.2.2.2.2.2.2.2.2.1, hc.2.2.2.2.2.2.2.2.2.2.1⟩) hS hc.2.2.2.2.2.2.2.2.2.2.2.2.2.1 ?_
  intro v h' H1 locs1 hq hR1 hS1
  exact hq p l e R s m args below meth c A H1 locs1 cells slots Z ls hc hR1 hS1 hl hr
/-! what a caller takes of an answer -/
def RI (K : Int → Hp → Prop) : Option Value → Hp → Prop := fun v h' => ∃ r : Int, v = some (vI r) ∧ InR r ∧ K r h'
def RL (K : Int → Hp → Prop) : Option Value → Hp → Prop := fun v h' => ∃ r : Int, v = some (vL r) ∧ InL r ∧ K r h'
def RV (K : Hp → Prop) : Option Value → Hp → Prop := fun v h' => v = none ∧ K h'
theorem P_contI {rest : List Value} (v : Option Value) (h' : Hp) {K : Int → Hp → Prop} (hk : ∀ r h', InR r → K r h' → WP D ad ca sc M pc lv (vI r :: rest) h' Q) (q : RI K v h') : WP D ad ca sc M pc lv (v.toList ++ rest) h' Q := by
  obtain ⟨r, rfl, hr, q⟩ := q
  exact hk r h' hr q
theorem P_contL {rest : List Value} (v : Option Value) (h' : Hp) {K : Int → Hp → Prop} (hk : ∀ r h', InL r → K r h' → WP D ad ca sc M pc lv (vL r :: rest) h' Q) (q : RL K v h') : WP D ad ca sc M pc lv (v.toList ++ rest) h' Q := by
  obtain ⟨r, rfl, hr, q⟩ := q
  exact hk r h' hr q
theorem P_contV {rest : List Value} (v : Option Value) (h' : Hp) {K : Hp → Prop} (hk : ∀ h', K h' → WP D ad ca sc M pc lv rest h' Q) (q : RV K v h') : WP D ad ca sc M pc lv (v.toList ++ rest) h' Q := by
  obtain ⟨rfl, q⟩ := q
  exact hk h' q
end PC
end
