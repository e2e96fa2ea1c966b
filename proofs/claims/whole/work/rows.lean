section
-- ===== PART A: goes FIRST, ahead of the names: the tables' words, and 'selects' of the private methods out of them =====
/-- a private method of a class that the tables say can be made, by its rows of tables_1 -/
def lw_okq (q : MethodName × Nat) : Prop := (q.1.cls ≠ "java/lang/invoke/MethodHandle" ∧ q.1.cls ≠ "java/lang/invoke/VarHandle") ∧ Cond.instantiable q.1.cls q.2 ∈ tables_1 ∧ Cond.privateMethod q.1 ∈ tables_1 ∧ Cond.instanceMethod q.1 ∈ tables_1
theorem lw_p0 : lw_okq (⟨"MountainWatch", "isDay", "(I)Z"⟩, 12) := ⟨⟨by decide +kernel, by decide +kernel⟩, List.mem_of_getElem? (i := 10) (by decide +kernel), List.mem_of_getElem? (i := 305) (by decide +kernel), List.mem_of_getElem? (i := 306) (by decide +kernel)⟩
theorem lw_p1 : lw_okq (⟨"MountainWatch", "measured", "(II)I"⟩, 12) := ⟨⟨by decide +kernel, by decide +kernel⟩, List.mem_of_getElem? (i := 10) (by decide +kernel), List.mem_of_getElem? (i := 337) (by decide +kernel), List.mem_of_getElem? (i := 338) (by decide +kernel)⟩
theorem lw_p2 : lw_okq (⟨"MountainWatch", "holdsTrue", "(II)Z"⟩, 12) := ⟨⟨by decide +kernel, by decide +kernel⟩, List.mem_of_getElem? (i := 10) (by decide +kernel), List.mem_of_getElem? (i := 376) (by decide +kernel), List.mem_of_getElem? (i := 377) (by decide +kernel)⟩
theorem lw_p3 : lw_okq (⟨"MountainWatch", "endToday", "()V"⟩, 12) := ⟨⟨by decide +kernel, by decide +kernel⟩, List.mem_of_getElem? (i := 10) (by decide +kernel), List.mem_of_getElem? (i := 388) (by decide +kernel), List.mem_of_getElem? (i := 389) (by decide +kernel)⟩
theorem lw_p4 : lw_okq (⟨"MountainWatch", "wantedToday", "()I"⟩, 12) := ⟨⟨by decide +kernel, by decide +kernel⟩, List.mem_of_getElem? (i := 10) (by decide +kernel), List.mem_of_getElem? (i := 392) (by decide +kernel), List.mem_of_getElem? (i := 393) (by decide +kernel)⟩
theorem lw_p5 : lw_okq (⟨"MountainWatch", "heldToday", "()I"⟩, 12) := ⟨⟨by decide +kernel, by decide +kernel⟩, List.mem_of_getElem? (i := 10) (by decide +kernel), List.mem_of_getElem? (i := 396) (by decide +kernel), List.mem_of_getElem? (i := 397) (by decide +kernel)⟩
theorem lw_p6 : lw_okq (⟨"MountainWatch", "reasonToRaise", "(I)I"⟩, 12) := ⟨⟨by decide +kernel, by decide +kernel⟩, List.mem_of_getElem? (i := 10) (by decide +kernel), List.mem_of_getElem? (i := 400) (by decide +kernel), List.mem_of_getElem? (i := 401) (by decide +kernel)⟩
theorem lw_p7 : lw_okq (⟨"MountainWatch", "setLevel", "(II)I"⟩, 12) := ⟨⟨by decide +kernel, by decide +kernel⟩, List.mem_of_getElem? (i := 10) (by decide +kernel), List.mem_of_getElem? (i := 404) (by decide +kernel), List.mem_of_getElem? (i := 405) (by decide +kernel)⟩
theorem lw_p8 : lw_okq (⟨"MountainWatchModel", "isShake", "(I)Z"⟩, 32) := ⟨⟨by decide +kernel, by decide +kernel⟩, List.mem_of_getElem? (i := 524) (by decide +kernel), List.mem_of_getElem? (i := 638) (by decide +kernel), List.mem_of_getElem? (i := 639) (by decide +kernel)⟩
theorem lw_p9 : lw_okq (⟨"MountainWatchModel", "mark", "()V"⟩, 32) := ⟨⟨by decide +kernel, by decide +kernel⟩, List.mem_of_getElem? (i := 524) (by decide +kernel), List.mem_of_getElem? (i := 645) (by decide +kernel), List.mem_of_getElem? (i := 646) (by decide +kernel)⟩
theorem lw_p10 : lw_okq (⟨"MountainWatchModel", "areAlike", "(II)Z"⟩, 32) := ⟨⟨by decide +kernel, by decide +kernel⟩, List.mem_of_getElem? (i := 524) (by decide +kernel), List.mem_of_getElem? (i := 649) (by decide +kernel), List.mem_of_getElem? (i := 650) (by decide +kernel)⟩
theorem lw_p11 : lw_okq (⟨"MountainWatchModel", "product", "(II)J"⟩, 32) := ⟨⟨by decide +kernel, by decide +kernel⟩, List.mem_of_getElem? (i := 524) (by decide +kernel), List.mem_of_getElem? (i := 653) (by decide +kernel), List.mem_of_getElem? (i := 654) (by decide +kernel)⟩
theorem lw_p12 : lw_okq (⟨"MountainWatchModel", "kindOf", "(I)I"⟩, 32) := ⟨⟨by decide +kernel, by decide +kernel⟩, List.mem_of_getElem? (i := 524) (by decide +kernel), List.mem_of_getElem? (i := 658) (by decide +kernel), List.mem_of_getElem? (i := 659) (by decide +kernel)⟩
theorem lw_p13 : lw_okq (⟨"MountainWatchModel", "isDay", "(I)Z"⟩, 32) := ⟨⟨by decide +kernel, by decide +kernel⟩, List.mem_of_getElem? (i := 524) (by decide +kernel), List.mem_of_getElem? (i := 690) (by decide +kernel), List.mem_of_getElem? (i := 691) (by decide +kernel)⟩
theorem lw_p14 : lw_okq (⟨"MountainWatchModel", "tiltDay", "(I)I"⟩, 32) := ⟨⟨by decide +kernel, by decide +kernel⟩, List.mem_of_getElem? (i := 524) (by decide +kernel), List.mem_of_getElem? (i := 695) (by decide +kernel), List.mem_of_getElem? (i := 696) (by decide +kernel)⟩
theorem lw_p15 : lw_okq (⟨"MountainWatchModel", "isLaw", "(I)Z"⟩, 32) := ⟨⟨by decide +kernel, by decide +kernel⟩, List.mem_of_getElem? (i := 524) (by decide +kernel), List.mem_of_getElem? (i := 712) (by decide +kernel), List.mem_of_getElem? (i := 713) (by decide +kernel)⟩
def lw_privs_1 : List (MethodName × Nat) := [(⟨"MountainWatch", "isDay", "(I)Z"⟩, 12), (⟨"MountainWatch", "measured", "(II)I"⟩, 12), (⟨"MountainWatch", "holdsTrue", "(II)Z"⟩, 12), (⟨"MountainWatch", "endToday", "()V"⟩, 12), (⟨"MountainWatch", "wantedToday", "()I"⟩, 12), (⟨"MountainWatch", "heldToday", "()I"⟩, 12), (⟨"MountainWatch", "reasonToRaise", "(I)I"⟩, 12), (⟨"MountainWatch", "setLevel", "(II)I"⟩, 12), (⟨"MountainWatchModel", "isShake", "(I)Z"⟩, 32), (⟨"MountainWatchModel", "mark", "()V"⟩, 32), (⟨"MountainWatchModel", "areAlike", "(II)Z"⟩, 32), (⟨"MountainWatchModel", "product", "(II)J"⟩, 32), (⟨"MountainWatchModel", "kindOf", "(I)I"⟩, 32), (⟨"MountainWatchModel", "isDay", "(I)Z"⟩, 32), (⟨"MountainWatchModel", "tiltDay", "(I)I"⟩, 32), (⟨"MountainWatchModel", "isLaw", "(I)Z"⟩, 32)]
theorem lw_r1 : ∀ q ∈ lw_privs_1, lw_okq q := List.forall_mem_cons.mpr ⟨lw_p0, List.forall_mem_cons.mpr ⟨lw_p1, List.forall_mem_cons.mpr ⟨lw_p2, List.forall_mem_cons.mpr ⟨lw_p3, List.forall_mem_cons.mpr ⟨lw_p4, List.forall_mem_cons.mpr ⟨lw_p5, List.forall_mem_cons.mpr ⟨lw_p6, List.forall_mem_cons.mpr ⟨lw_p7, List.forall_mem_cons.mpr ⟨lw_p8, List.forall_mem_cons.mpr ⟨lw_p9, List.forall_mem_cons.mpr ⟨lw_p10, List.forall_mem_cons.mpr ⟨lw_p11, List.forall_mem_cons.mpr ⟨lw_p12, List.forall_mem_cons.mpr ⟨lw_p13, List.forall_mem_cons.mpr ⟨lw_p14, List.forall_mem_cons.mpr ⟨lw_p15, fun _ h => absurd h List.not_mem_nil⟩⟩⟩⟩⟩⟩⟩⟩⟩⟩⟩⟩⟩⟩⟩⟩
theorem lw_p16 : lw_okq (⟨"MountainWatchModel", "measureOf", "(II)I"⟩, 32) := ⟨⟨by decide +kernel, by decide +kernel⟩, List.mem_of_getElem? (i := 524) (by decide +kernel), List.mem_of_getElem? (i := 720) (by decide +kernel), List.mem_of_getElem? (i := 721) (by decide +kernel)⟩
theorem lw_p17 : lw_okq (⟨"MountainWatchModel", "within", "(III)I"⟩, 32) := ⟨⟨by decide +kernel, by decide +kernel⟩, List.mem_of_getElem? (i := 524) (by decide +kernel), List.mem_of_getElem? (i := 724) (by decide +kernel), List.mem_of_getElem? (i := 725) (by decide +kernel)⟩
theorem lw_p18 : lw_okq (⟨"MountainWatchModel", "holdsOn", "(II)Z"⟩, 32) := ⟨⟨by decide +kernel, by decide +kernel⟩, List.mem_of_getElem? (i := 524) (by decide +kernel), List.mem_of_getElem? (i := 732) (by decide +kernel), List.mem_of_getElem? (i := 733) (by decide +kernel)⟩
theorem lw_p19 : lw_okq (⟨"MountainWatchModel", "wanted", "()I"⟩, 32) := ⟨⟨by decide +kernel, by decide +kernel⟩, List.mem_of_getElem? (i := 524) (by decide +kernel), List.mem_of_getElem? (i := 744) (by decide +kernel), List.mem_of_getElem? (i := 745) (by decide +kernel)⟩
theorem lw_p20 : lw_okq (⟨"MountainWatchModel", "holdNow", "()I"⟩, 32) := ⟨⟨by decide +kernel, by decide +kernel⟩, List.mem_of_getElem? (i := 524) (by decide +kernel), List.mem_of_getElem? (i := 748) (by decide +kernel), List.mem_of_getElem? (i := 749) (by decide +kernel)⟩
theorem lw_p21 : lw_okq (⟨"MountainWatchModel", "turns", "(II)I"⟩, 32) := ⟨⟨by decide +kernel, by decide +kernel⟩, List.mem_of_getElem? (i := 524) (by decide +kernel), List.mem_of_getElem? (i := 752) (by decide +kernel), List.mem_of_getElem? (i := 753) (by decide +kernel)⟩
theorem lw_p22 : lw_okq (⟨"MountainWatchModel", "tells", "(IIII)V"⟩, 32) := ⟨⟨by decide +kernel, by decide +kernel⟩, List.mem_of_getElem? (i := 524) (by decide +kernel), List.mem_of_getElem? (i := 756) (by decide +kernel), List.mem_of_getElem? (i := 757) (by decide +kernel)⟩
theorem lw_p23 : lw_okq (⟨"MountainWatchModel", "isNode", "(I)Z"⟩, 32) := ⟨⟨by decide +kernel, by decide +kernel⟩, List.mem_of_getElem? (i := 524) (by decide +kernel), List.mem_of_getElem? (i := 788) (by decide +kernel), List.mem_of_getElem? (i := 789) (by decide +kernel)⟩
theorem lw_p24 : lw_okq (⟨"MountainWatchModel", "depth", "(I)I"⟩, 32) := ⟨⟨by decide +kernel, by decide +kernel⟩, List.mem_of_getElem? (i := 524) (by decide +kernel), List.mem_of_getElem? (i := 795) (by decide +kernel), List.mem_of_getElem? (i := 796) (by decide +kernel)⟩
theorem lw_p25 : lw_okq (⟨"MountainWatchModel", "children", "(I)I"⟩, 32) := ⟨⟨by decide +kernel, by decide +kernel⟩, List.mem_of_getElem? (i := 524) (by decide +kernel), List.mem_of_getElem? (i := 799) (by decide +kernel), List.mem_of_getElem? (i := 800) (by decide +kernel)⟩
theorem lw_p26 : lw_okq (⟨"MountainWatchModel", "isSound", "()Z"⟩, 32) := ⟨⟨by decide +kernel, by decide +kernel⟩, List.mem_of_getElem? (i := 524) (by decide +kernel), List.mem_of_getElem? (i := 815) (by decide +kernel), List.mem_of_getElem? (i := 816) (by decide +kernel)⟩
theorem lw_p27 : lw_okq (⟨"MountainWatchModel", "bounds", "(I[I)I"⟩, 32) := ⟨⟨by decide +kernel, by decide +kernel⟩, List.mem_of_getElem? (i := 524) (by decide +kernel), List.mem_of_getElem? (i := 819) (by decide +kernel), List.mem_of_getElem? (i := 820) (by decide +kernel)⟩
theorem lw_p28 : lw_okq (⟨"MountainWatchModel", "mixed", "(II)J"⟩, 32) := ⟨⟨by decide +kernel, by decide +kernel⟩, List.mem_of_getElem? (i := 524) (by decide +kernel), List.mem_of_getElem? (i := 827) (by decide +kernel), List.mem_of_getElem? (i := 828) (by decide +kernel)⟩
def lw_privs_2 : List (MethodName × Nat) := [(⟨"MountainWatchModel", "measureOf", "(II)I"⟩, 32), (⟨"MountainWatchModel", "within", "(III)I"⟩, 32), (⟨"MountainWatchModel", "holdsOn", "(II)Z"⟩, 32), (⟨"MountainWatchModel", "wanted", "()I"⟩, 32), (⟨"MountainWatchModel", "holdNow", "()I"⟩, 32), (⟨"MountainWatchModel", "turns", "(II)I"⟩, 32), (⟨"MountainWatchModel", "tells", "(IIII)V"⟩, 32), (⟨"MountainWatchModel", "isNode", "(I)Z"⟩, 32), (⟨"MountainWatchModel", "depth", "(I)I"⟩, 32), (⟨"MountainWatchModel", "children", "(I)I"⟩, 32), (⟨"MountainWatchModel", "isSound", "()Z"⟩, 32), (⟨"MountainWatchModel", "bounds", "(I[I)I"⟩, 32), (⟨"MountainWatchModel", "mixed", "(II)J"⟩, 32)]
theorem lw_r2 : ∀ q ∈ lw_privs_2, lw_okq q := List.forall_mem_cons.mpr ⟨lw_p16, List.forall_mem_cons.mpr ⟨lw_p17, List.forall_mem_cons.mpr ⟨lw_p18, List.forall_mem_cons.mpr ⟨lw_p19, List.forall_mem_cons.mpr ⟨lw_p20, List.forall_mem_cons.mpr ⟨lw_p21, List.forall_mem_cons.mpr ⟨lw_p22, List.forall_mem_cons.mpr ⟨lw_p23, List.forall_mem_cons.mpr ⟨lw_p24, List.forall_mem_cons.mpr ⟨lw_p25, List.forall_mem_cons.mpr ⟨lw_p26, List.forall_mem_cons.mpr ⟨lw_p27, List.forall_mem_cons.mpr ⟨lw_p28, fun _ h => absurd h List.not_mem_nil⟩⟩⟩⟩⟩⟩⟩⟩⟩⟩⟩⟩⟩
def lw_privs : List (MethodName × Nat) := lw_privs_1 ++ (lw_privs_2)
def lw_tbl : List Cond := k2_sels lw_privs ++ tables_1
theorem lw_privs_ok : ∀ q ∈ lw_privs, lw_okq q := by
  show ∀ q ∈ lw_privs_1 ++ (lw_privs_2), lw_okq q
  exact List.forall_mem_append.mpr ⟨lw_r1, lw_r2⟩
-- ===== end of PART A; then your names; then what follows =====
end
section
abbrev R_MW : String := "MountainWatch"
def F_MW : u_T := fun k => match k with
  | 0 => ("MountainWatch", "shakes", "LMountainWatch$Shakes;", true)
  | 1 => ("MountainWatch", "readings", "LMountainWatch$Readings;", true)
  | 2 => ("MountainWatch", "laws", "LMountainWatch$Laws;", true)
  | 3 => ("MountainWatch", "messages", "LMountainWatch$Messages;", true)
  | 4 => ("MountainWatch", "tree", "LMountainWatch$Tree;", true)
  | 5 => ("MountainWatch", "today", "I", false)
  | 6 => ("MountainWatch", "level", "I", false)
  | 7 => ("MountainWatch", "calm", "I", false)
  | 8 => ("MountainWatch", "restDays", "I", false)
  | 9 => ("MountainWatch", "holdLevel", "I", false)
  | 10 => ("MountainWatch", "holdEnd", "I", false)
  | _ => ("MountainWatch", "drillLevel", "I", false)
def t_MW : Nat → FieldType := fun k => match k with
  | 0 => .object "MountainWatch$Shakes"
  | 1 => .object "MountainWatch$Readings"
  | 2 => .object "MountainWatch$Laws"
  | 3 => .object "MountainWatch$Messages"
  | 4 => .object "MountainWatch$Tree"
  | 5 => .int
  | 6 => .int
  | 7 => .int
  | 8 => .int
  | 9 => .int
  | 10 => .int
  | _ => .int
theorem n_MW : ∀ a, a < 12 → ∀ b, b < 12 → a ≠ b → (F_MW a).2.1 ≠ (F_MW b).2.1 := by decide +kernel
theorem t_MW_ok : ∀ k, k < 12 → parseFieldDescriptor (F_MW k).2.2.1 = some (t_MW k) := by decide +kernel
abbrev R_SH : String := "MountainWatch$Shakes"
def F_SH : u_T := fun k => match k with
  | 0 => ("MountainWatch$Shakes", "bands", "[I", true)
  | 1 => ("MountainWatch$Shakes", "days", "[I", true)
  | 2 => ("MountainWatch$Shakes", "kinds", "[I", true)
  | 3 => ("MountainWatch$Shakes", "families", "[I", true)
  | 4 => ("MountainWatch$Shakes", "tally", "[I", true)
  | 5 => ("MountainWatch$Shakes", "count", "I", false)
  | _ => ("MountainWatch$Shakes", "asked", "I", false)
def t_SH : Nat → FieldType := fun k => match k with
  | 0 => .array .int
  | 1 => .array .int
  | 2 => .array .int
  | 3 => .array .int
  | 4 => .array .int
  | 5 => .int
  | _ => .int
theorem n_SH : ∀ a, a < 7 → ∀ b, b < 7 → a ≠ b → (F_SH a).2.1 ≠ (F_SH b).2.1 := by decide +kernel
theorem t_SH_ok : ∀ k, k < 7 → parseFieldDescriptor (F_SH k).2.2.1 = some (t_SH k) := by decide +kernel
abbrev R_RE : String := "MountainWatch$Readings"
def F_RE : u_T := fun k => match k with
  | 0 => ("MountainWatch$Readings", "tilts", "[I", true)
  | _ => ("MountainWatch$Readings", "gases", "[I", true)
def t_RE : Nat → FieldType := fun k => match k with
  | 0 => .array .int
  | _ => .array .int
theorem n_RE : ∀ a, a < 2 → ∀ b, b < 2 → a ≠ b → (F_RE a).2.1 ≠ (F_RE b).2.1 := by decide +kernel
theorem t_RE_ok : ∀ k, k < 2 → parseFieldDescriptor (F_RE k).2.2.1 = some (t_RE k) := by decide +kernel
abbrev R_LA : String := "MountainWatch$Laws"
def F_LA : u_T := fun k => match k with
  | 0 => ("MountainWatch$Laws", "levels", "[I", true)
  | 1 => ("MountainWatch$Laws", "measures", "[I", true)
  | 2 => ("MountainWatch$Laws", "numbers", "[I", true)
  | 3 => ("MountainWatch$Laws", "spans", "[I", true)
  | _ => ("MountainWatch$Laws", "count", "I", false)
def t_LA : Nat → FieldType := fun k => match k with
  | 0 => .array .int
  | 1 => .array .int
  | 2 => .array .int
  | 3 => .array .int
  | _ => .int
theorem n_LA : ∀ a, a < 5 → ∀ b, b < 5 → a ≠ b → (F_LA a).2.1 ≠ (F_LA b).2.1 := by decide +kernel
theorem t_LA_ok : ∀ k, k < 5 → parseFieldDescriptor (F_LA k).2.2.1 = some (t_LA k) := by decide +kernel
abbrev R_ME : String := "MountainWatch$Messages"
def F_ME : u_T := fun k => match k with
  | 0 => ("MountainWatch$Messages", "days", "[I", true)
  | 1 => ("MountainWatch$Messages", "levels", "[I", true)
  | 2 => ("MountainWatch$Messages", "reasons", "[I", true)
  | 3 => ("MountainWatch$Messages", "count", "I", false)
  | 4 => ("MountainWatch$Messages", "drillCount", "I", false)
  | 5 => ("MountainWatch$Messages", "kept", "I", false)
  | _ => ("MountainWatch$Messages", "keptDrills", "I", false)
def t_ME : Nat → FieldType := fun k => match k with
  | 0 => .array .int
  | 1 => .array .int
  | 2 => .array .int
  | 3 => .int
  | 4 => .int
  | 5 => .int
  | _ => .int
theorem n_ME : ∀ a, a < 7 → ∀ b, b < 7 → a ≠ b → (F_ME a).2.1 ≠ (F_ME b).2.1 := by decide +kernel
theorem t_ME_ok : ∀ k, k < 7 → parseFieldDescriptor (F_ME k).2.2.1 = some (t_ME k) := by decide +kernel
abbrev R_TR : String := "MountainWatch$Tree"
def F_TR : u_T := fun k => match k with
  | 0 => ("MountainWatch$Tree", "parents", "[I", true)
  | 1 => ("MountainWatch$Tree", "lows", "[I", true)
  | 2 => ("MountainWatch$Tree", "highs", "[I", true)
  | 3 => ("MountainWatch$Tree", "depths", "[I", true)
  | 4 => ("MountainWatch$Tree", "childCounts", "[I", true)
  | 5 => ("MountainWatch$Tree", "feared", "[Z", true)
  | 6 => ("MountainWatch$Tree", "chances", "[I", true)
  | 7 => ("MountainWatch$Tree", "served", "[Z", true)
  | _ => ("MountainWatch$Tree", "count", "I", false)
def t_TR : Nat → FieldType := fun k => match k with
  | 0 => .array .int
  | 1 => .array .int
  | 2 => .array .int
  | 3 => .array .int
  | 4 => .array .int
  | 5 => .array .boolean
  | 6 => .array .int
  | 7 => .array .boolean
  | _ => .int
theorem n_TR : ∀ a, a < 9 → ∀ b, b < 9 → a ≠ b → (F_TR a).2.1 ≠ (F_TR b).2.1 := by decide +kernel
theorem t_TR_ok : ∀ k, k < 9 → parseFieldDescriptor (F_TR k).2.2.1 = some (t_TR k) := by decide +kernel
abbrev R_MO : String := "MountainWatchModel"
def F_MO : u_T := fun k => match k with
  | 0 => ("MountainWatchModel", "today", "I", false)
  | 1 => ("MountainWatchModel", "shakes", "I", false)
  | 2 => ("MountainWatchModel", "dayOf", "[I", true)
  | 3 => ("MountainWatchModel", "band", "[I", true)
  | 4 => ("MountainWatchModel", "family", "[I", true)
  | 5 => ("MountainWatchModel", "areMarked", "Z", false)
  | 6 => ("MountainWatchModel", "likeness", "I", false)
  | 7 => ("MountainWatchModel", "hasTilt", "[Z", true)
  | 8 => ("MountainWatchModel", "tilt", "[I", true)
  | 9 => ("MountainWatchModel", "gas", "[I", true)
  | 10 => ("MountainWatchModel", "laws", "I", false)
  | 11 => ("MountainWatchModel", "lawLevel", "[I", true)
  | 12 => ("MountainWatchModel", "lawMeasure", "[I", true)
  | 13 => ("MountainWatchModel", "lawNumber", "[I", true)
  | 14 => ("MountainWatchModel", "lawSpan", "[I", true)
  | 15 => ("MountainWatchModel", "rest", "I", false)
  | 16 => ("MountainWatchModel", "level", "I", false)
  | 17 => ("MountainWatchModel", "calm", "I", false)
  | 18 => ("MountainWatchModel", "holdLevel", "I", false)
  | 19 => ("MountainWatchModel", "holdEnd", "I", false)
  | 20 => ("MountainWatchModel", "kept", "I", false)
  | 21 => ("MountainWatchModel", "message", "[I", true)
  | 22 => ("MountainWatchModel", "messages", "I", false)
  | 23 => ("MountainWatchModel", "drills", "I", false)
  | 24 => ("MountainWatchModel", "drillLevel", "I", false)
  | 25 => ("MountainWatchModel", "nodes", "I", false)
  | 26 => ("MountainWatchModel", "parent", "[I", true)
  | 27 => ("MountainWatchModel", "low", "[I", true)
  | 28 => ("MountainWatchModel", "high", "[I", true)
  | 29 => ("MountainWatchModel", "isFeared", "[Z", true)
  | 30 => ("MountainWatchModel", "chance", "[J", true)
  | _ => ("MountainWatchModel", "isGiven", "[Z", true)
def t_MO : Nat → FieldType := fun k => match k with
  | 0 => .int
  | 1 => .int
  | 2 => .array .int
  | 3 => .array .int
  | 4 => .array .int
  | 5 => .boolean
  | 6 => .int
  | 7 => .array .boolean
  | 8 => .array .int
  | 9 => .array .int
  | 10 => .int
  | 11 => .array .int
  | 12 => .array .int
  | 13 => .array .int
  | 14 => .array .int
  | 15 => .int
  | 16 => .int
  | 17 => .int
  | 18 => .int
  | 19 => .int
  | 20 => .int
  | 21 => .array .int
  | 22 => .int
  | 23 => .int
  | 24 => .int
  | 25 => .int
  | 26 => .array .int
  | 27 => .array .int
  | 28 => .array .int
  | 29 => .array .boolean
  | 30 => .array .long
  | _ => .array .boolean
theorem n_MO : ∀ a, a < 32 → ∀ b, b < 32 → a ≠ b → (F_MO a).2.1 ≠ (F_MO b).2.1 := by decide +kernel
theorem t_MO_ok : ∀ k, k < 32 → parseFieldDescriptor (F_MO k).2.2.1 = some (t_MO k) := by decide +kernel
abbrev classes : List vw_C := [(R_MW, F_MW, 12), (R_SH, F_SH, 7), (R_RE, F_RE, 2), (R_LA, F_LA, 5), (R_ME, F_ME, 7), (R_TR, F_TR, 9), (R_MO, F_MO, 32)]
/-- the words that every method takes with it -/
def TB : List Cond := lw_tbl.filter goodWord
theorem TB_mem {w : Cond} (i : Nat) (h : lw_tbl[i]? = some w) (g : goodWord w = true) : w ∈ TB := List.mem_filter.mpr ⟨List.mem_of_getElem? h, g⟩
theorem TB_good : GoodIn TB TB := fun w h => ⟨h, good_of_word (List.mem_filter.mp h).2⟩
theorem TB_of {args : Array Value} {s : State} (hts : ∀ w ∈ lw_tbl, w.before args s = true) : ∀ w ∈ TB, w.before args s = true := fun w h => hts w (List.mem_filter.mp h).1
theorem i_MW : ∀ w ∈ u_ws R_MW F_MW 12, w ∈ TB := by
  intro w hw
  have e : u_ws R_MW F_MW 12 = ([210, 212, 214, 216, 218, 220, 222, 224, 226, 228, 230, 232] : List Nat).filterMap (fun i => lw_tbl[i]?) := by decide +kernel
  have g : ∀ x ∈ (u_ws R_MW F_MW 12), goodWord x = true := by decide +kernel
  have gw := g w hw
  rw [e] at hw
  obtain ⟨i, -, hi⟩ := List.mem_filterMap.mp hw
  exact TB_mem i hi gw
theorem i_SH : ∀ w ∈ u_ws R_SH F_SH 7, w ∈ TB := by
  intro w hw
  have e : u_ws R_SH F_SH 7 = ([64, 66, 68, 70, 72, 74, 76] : List Nat).filterMap (fun i => lw_tbl[i]?) := by decide +kernel
  have g : ∀ x ∈ (u_ws R_SH F_SH 7), goodWord x = true := by decide +kernel
  have gw := g w hw
  rw [e] at hw
  obtain ⟨i, -, hi⟩ := List.mem_filterMap.mp hw
  exact TB_mem i hi gw
theorem i_RE : ∀ w ∈ u_ws R_RE F_RE 2, w ∈ TB := by
  intro w hw
  have e : u_ws R_RE F_RE 2 = ([91, 93] : List Nat).filterMap (fun i => lw_tbl[i]?) := by decide +kernel
  have g : ∀ x ∈ (u_ws R_RE F_RE 2), goodWord x = true := by decide +kernel
  have gw := g w hw
  rw [e] at hw
  obtain ⟨i, -, hi⟩ := List.mem_filterMap.mp hw
  exact TB_mem i hi gw
theorem i_LA : ∀ w ∈ u_ws R_LA F_LA 5, w ∈ TB := by
  intro w hw
  have e : u_ws R_LA F_LA 5 = ([112, 114, 116, 118, 120] : List Nat).filterMap (fun i => lw_tbl[i]?) := by decide +kernel
  have g : ∀ x ∈ (u_ws R_LA F_LA 5), goodWord x = true := by decide +kernel
  have gw := g w hw
  rw [e] at hw
  obtain ⟨i, -, hi⟩ := List.mem_filterMap.mp hw
  exact TB_mem i hi gw
theorem i_ME : ∀ w ∈ u_ws R_ME F_ME 7, w ∈ TB := by
  intro w hw
  have e : u_ws R_ME F_ME 7 = ([141, 143, 145, 147, 149, 151, 153] : List Nat).filterMap (fun i => lw_tbl[i]?) := by decide +kernel
  have g : ∀ x ∈ (u_ws R_ME F_ME 7), goodWord x = true := by decide +kernel
  have gw := g w hw
  rw [e] at hw
  obtain ⟨i, -, hi⟩ := List.mem_filterMap.mp hw
  exact TB_mem i hi gw
theorem i_TR : ∀ w ∈ u_ws R_TR F_TR 9, w ∈ TB := by
  intro w hw
  have e : u_ws R_TR F_TR 9 = ([178, 180, 182, 184, 186, 188, 190, 192, 194] : List Nat).filterMap (fun i => lw_tbl[i]?) := by decide +kernel
  have g : ∀ x ∈ (u_ws R_TR F_TR 9), goodWord x = true := by decide +kernel
  have gw := g w hw
  rw [e] at hw
  obtain ⟨i, -, hi⟩ := List.mem_filterMap.mp hw
  exact TB_mem i hi gw
theorem i_MO : ∀ w ∈ u_ws R_MO F_MO 32, w ∈ TB := by
  intro w hw
  have e : u_ws R_MO F_MO 32 = ([590, 592, 594, 596, 598, 600, 602, 604, 606, 608, 610, 612, 614, 616, 618, 620, 622, 624, 626, 628, 630, 632, 634, 636, 638, 640, 642, 644, 646, 648, 650, 652] : List Nat).filterMap (fun i => lw_tbl[i]?) := by decide +kernel
  have g : ∀ x ∈ (u_ws R_MO F_MO 32), goodWord x = true := by decide +kernel
  have gw := g w hw
  rw [e] at hw
  obtain ⟨i, -, hi⟩ := List.mem_filterMap.mp hw
  exact TB_mem i hi gw
abbrev MI : Type := String × ByteArray × Nat × Nat × Nat × Option FieldType
abbrev y_MW_init : MethodName := ⟨"MountainWatch", "<init>", "()V"⟩
abbrev M_MW_init : MI := ("MountainWatch", prog_1_method_1_code, 1, 2, 32, none)
abbrev y_MW_shake : MethodName := ⟨"MountainWatch", "shake", "(J)I"⟩
abbrev M_MW_shake : MI := ("MountainWatch", prog_1_method_2_code, 3, 5, 120, some .int)
abbrev y_MW_about : MethodName := ⟨"MountainWatch", "about", "(II)I"⟩
abbrev M_MW_about : MI := ("MountainWatch", prog_1_method_3_code, 3, 1, 22, some .int)
abbrev y_MW_alike : MethodName := ⟨"MountainWatch", "alike", "(II)I"⟩
abbrev M_MW_alike : MI := ("MountainWatch", prog_1_method_4_code, 3, 3, 71, some .int)
abbrev y_MW_likeness : MethodName := ⟨"MountainWatch", "likeness", "(I)I"⟩
abbrev M_MW_likeness : MI := ("MountainWatch", prog_1_method_5_code, 3, 5, 115, some .int)
abbrev y_MW_family : MethodName := ⟨"MountainWatch", "family", "(I)I"⟩
abbrev M_MW_family : MI := ("MountainWatch", prog_1_method_6_code, 2, 1, 23, some .int)
abbrev y_MW_kin : MethodName := ⟨"MountainWatch", "kin", "(I)I"⟩
abbrev M_MW_kin : MI := ("MountainWatch", prog_1_method_7_code, 2, 1, 23, some .int)
abbrev y_MW_tilt : MethodName := ⟨"MountainWatch", "tilt", "(I)I"⟩
abbrev M_MW_tilt : MI := ("MountainWatch", prog_1_method_8_code, 2, 1, 22, some .int)
abbrev y_MW_gas : MethodName := ⟨"MountainWatch", "gas", "(I)I"⟩
abbrev M_MW_gas : MI := ("MountainWatch", prog_1_method_9_code, 2, 1, 22, some .int)
abbrev y_MW_tiltAt : MethodName := ⟨"MountainWatch", "tiltAt", "(I)I"⟩
abbrev M_MW_tiltAt : MI := ("MountainWatch", prog_1_method_10_code, 2, 2, 43, some .int)
abbrev y_MW_gasOf : MethodName := ⟨"MountainWatch", "gasOf", "(I)I"⟩
abbrev M_MW_gasOf : MI := ("MountainWatch", prog_1_method_11_code, 2, 2, 43, some .int)
abbrev y_MW_law : MethodName := ⟨"MountainWatch", "law", "(IIII)I"⟩
abbrev M_MW_law : MI := ("MountainWatch", prog_1_method_12_code, 5, 2, 42, some .int)
abbrev y_MW_change : MethodName := ⟨"MountainWatch", "change", "(III)I"⟩
abbrev M_MW_change : MI := ("MountainWatch", prog_1_method_13_code, 4, 2, 42, some .int)
abbrev y_MW_measure : MethodName := ⟨"MountainWatch", "measure", "(II)I"⟩
abbrev M_MW_measure : MI := ("MountainWatch", prog_1_method_14_code, 3, 3, 73, some .int)
abbrev y_MW_isTrue : MethodName := ⟨"MountainWatch", "isTrue", "(II)I"⟩
abbrev M_MW_isTrue : MI := ("MountainWatch", prog_1_method_15_code, 3, 4, 95, some .int)
abbrev y_MW_rest : MethodName := ⟨"MountainWatch", "rest", "(I)I"⟩
abbrev M_MW_rest : MI := ("MountainWatch", prog_1_method_16_code, 3, 1, 22, some .int)
abbrev y_MW_next : MethodName := ⟨"MountainWatch", "next", "()I"⟩
abbrev M_MW_next : MI := ("MountainWatch", prog_1_method_17_code, 1, 6, 138, some .int)
abbrev y_MW_hold : MethodName := ⟨"MountainWatch", "hold", "(II)I"⟩
abbrev M_MW_hold : MI := ("MountainWatch", prog_1_method_18_code, 3, 2, 42, some .int)
abbrev y_MW_release : MethodName := ⟨"MountainWatch", "release", "()I"⟩
abbrev M_MW_release : MI := ("MountainWatch", prog_1_method_19_code, 2, 1, 20, some .int)
abbrev y_MW_word : MethodName := ⟨"MountainWatch", "word", "(I)I"⟩
abbrev M_MW_word : MI := ("MountainWatch", prog_1_method_20_code, 2, 3, 69, some .int)
abbrev y_MW_drill : MethodName := ⟨"MountainWatch", "drill", "(I)I"⟩
abbrev M_MW_drill : MI := ("MountainWatch", prog_1_method_21_code, 2, 2, 47, some .int)
abbrev y_MW_message : MethodName := ⟨"MountainWatch", "message", "(ZII)I"⟩
abbrev M_MW_message : MI := ("MountainWatch", prog_1_method_22_code, 5, 1, 22, some .int)
abbrev y_MW_told : MethodName := ⟨"MountainWatch", "told", "(I)I"⟩
abbrev M_MW_told : MI := ("MountainWatch", prog_1_method_23_code, 2, 5, 117, some .int)
abbrev y_MW_node : MethodName := ⟨"MountainWatch", "node", "(III)I"⟩
abbrev M_MW_node : MI := ("MountainWatch", prog_1_method_24_code, 4, 1, 24, some .int)
abbrev y_MW_share : MethodName := ⟨"MountainWatch", "share", "(III)I"⟩
abbrev M_MW_share : MI := ("MountainWatch", prog_1_method_25_code, 4, 1, 21, some .int)
abbrev y_MW_fear : MethodName := ⟨"MountainWatch", "fear", "(IZ)I"⟩
abbrev M_MW_fear : MI := ("MountainWatch", prog_1_method_26_code, 4, 1, 21, some .int)
abbrev y_MW_sound : MethodName := ⟨"MountainWatch", "sound", "()I"⟩
abbrev M_MW_sound : MI := ("MountainWatch", prog_1_method_27_code, 1, 2, 45, some .int)
abbrev y_MW_chance : MethodName := ⟨"MountainWatch", "chance", "(II)I"⟩
abbrev M_MW_chance : MI := ("MountainWatch", prog_1_method_28_code, 3, 4, 97, some .int)
abbrev y_MW_ofNode : MethodName := ⟨"MountainWatch", "ofNode", "(II)I"⟩
abbrev M_MW_ofNode : MI := ("MountainWatch", prog_1_method_29_code, 3, 1, 21, some .int)
abbrev y_MW_isWithin : MethodName := ⟨"MountainWatch", "isWithin", "(III)Z"⟩
abbrev M_MW_isWithin : MI := ("MountainWatch", prog_1_method_30_code, 3, 0, 0, some .boolean)
abbrev y_MW_oneIf : MethodName := ⟨"MountainWatch", "oneIf", "(Z)I"⟩
abbrev M_MW_oneIf : MI := ("MountainWatch", prog_1_method_31_code, 1, 0, 0, some .int)
abbrev y_MW_isLevel : MethodName := ⟨"MountainWatch", "isLevel", "(I)Z"⟩
abbrev M_MW_isLevel : MI := ("MountainWatch", prog_1_method_32_code, 1, 1, 22, some .boolean)
abbrev y_MW_isLawLevel : MethodName := ⟨"MountainWatch", "isLawLevel", "(I)Z"⟩
abbrev M_MW_isLawLevel : MI := ("MountainWatch", prog_1_method_33_code, 1, 1, 22, some .boolean)
abbrev y_MW_areBounds : MethodName := ⟨"MountainWatch", "areBounds", "(II)Z"⟩
abbrev M_MW_areBounds : MI := ("MountainWatch", prog_1_method_34_code, 2, 0, 0, some .boolean)
abbrev y_MW_isDay : MethodName := ⟨"MountainWatch", "isDay", "(I)Z"⟩
abbrev M_MW_isDay : MI := ("MountainWatch", prog_1_method_35_code, 2, 1, 22, some .boolean)
abbrev y_MW_measured : MethodName := ⟨"MountainWatch", "measured", "(II)I"⟩
abbrev M_MW_measured : MI := ("MountainWatch", prog_1_method_36_code, 6, 2, 48, some .int)
abbrev y_MW_holdsTrue : MethodName := ⟨"MountainWatch", "holdsTrue", "(II)Z"⟩
abbrev M_MW_holdsTrue : MI := ("MountainWatch", prog_1_method_37_code, 3, 3, 73, some .boolean)
abbrev y_MW_heldToday : MethodName := ⟨"MountainWatch", "heldToday", "()I"⟩
abbrev M_MW_heldToday : MI := ("MountainWatch", prog_1_method_38_code, 1, 0, 0, some .int)
abbrev y_MW_wantedToday : MethodName := ⟨"MountainWatch", "wantedToday", "()I"⟩
abbrev M_MW_wantedToday : MI := ("MountainWatch", prog_1_method_39_code, 3, 4, 95, some .int)
abbrev y_MW_reasonToRaise : MethodName := ⟨"MountainWatch", "reasonToRaise", "(I)I"⟩
abbrev M_MW_reasonToRaise : MI := ("MountainWatch", prog_1_method_40_code, 3, 4, 95, some .int)
abbrev y_MW_endToday : MethodName := ⟨"MountainWatch", "endToday", "()V"⟩
abbrev M_MW_endToday : MI := ("MountainWatch", prog_1_method_41_code, 2, 5, 117, none)
abbrev y_MW_setLevel : MethodName := ⟨"MountainWatch", "setLevel", "(II)I"⟩
abbrev M_MW_setLevel : MI := ("MountainWatch", prog_1_method_42_code, 3, 2, 47, some .int)
abbrev y_MO_init : MethodName := ⟨"MountainWatchModel", "<init>", "()V"⟩
abbrev M_MO_init : MI := ("MountainWatchModel", prog_8_method_1_code, 1, 1, 12, none)
abbrev y_MO_in : MethodName := ⟨"MountainWatchModel", "in", "(III)Z"⟩
abbrev M_MO_in : MI := ("MountainWatchModel", prog_8_method_2_code, 3, 0, 0, some .boolean)
abbrev y_MO_isShake : MethodName := ⟨"MountainWatchModel", "isShake", "(I)Z"⟩
abbrev M_MO_isShake : MI := ("MountainWatchModel", prog_8_method_3_code, 2, 1, 22, some .boolean)
abbrev y_MO_shake : MethodName := ⟨"MountainWatchModel", "shake", "(J)I"⟩
abbrev M_MO_shake : MI := ("MountainWatchModel", prog_8_method_4_code, 6, 0, 0, some .int)
abbrev y_MO_kindOf : MethodName := ⟨"MountainWatchModel", "kindOf", "(I)I"⟩
abbrev M_MO_kindOf : MI := ("MountainWatchModel", prog_8_method_5_code, 4, 0, 0, some .int)
abbrev y_MO_product : MethodName := ⟨"MountainWatchModel", "product", "(II)J"⟩
abbrev M_MO_product : MI := ("MountainWatchModel", prog_8_method_6_code, 6, 0, 0, some .long)
abbrev y_MO_areAlike : MethodName := ⟨"MountainWatchModel", "areAlike", "(II)Z"⟩
abbrev M_MO_areAlike : MI := ("MountainWatchModel", prog_8_method_7_code, 5, 1, 25, some .boolean)
abbrev y_MO_mark : MethodName := ⟨"MountainWatchModel", "mark", "()V"⟩
abbrev M_MO_mark : MI := ("MountainWatchModel", prog_8_method_8_code, 4, 2, 49, none)
abbrev y_MO_about : MethodName := ⟨"MountainWatchModel", "about", "(II)I"⟩
abbrev M_MO_about : MI := ("MountainWatchModel", prog_8_method_9_code, 3, 3, 72, some .int)
abbrev y_MO_alike : MethodName := ⟨"MountainWatchModel", "alike", "(II)I"⟩
abbrev M_MO_alike : MI := ("MountainWatchModel", prog_8_method_10_code, 3, 2, 49, some .int)
abbrev y_MO_likeness : MethodName := ⟨"MountainWatchModel", "likeness", "(I)I"⟩
abbrev M_MO_likeness : MI := ("MountainWatchModel", prog_8_method_11_code, 3, 1, 22, some .int)
abbrev y_MO_family : MethodName := ⟨"MountainWatchModel", "family", "(I)I"⟩
abbrev M_MO_family : MI := ("MountainWatchModel", prog_8_method_12_code, 4, 3, 72, some .int)
abbrev y_MO_kin : MethodName := ⟨"MountainWatchModel", "kin", "(I)I"⟩
abbrev M_MO_kin : MI := ("MountainWatchModel", prog_8_method_13_code, 4, 3, 72, some .int)
abbrev y_MO_tilt : MethodName := ⟨"MountainWatchModel", "tilt", "(I)I"⟩
abbrev M_MO_tilt : MI := ("MountainWatchModel", prog_8_method_14_code, 2, 1, 22, some .int)
abbrev y_MO_gas : MethodName := ⟨"MountainWatchModel", "gas", "(I)I"⟩
abbrev M_MO_gas : MI := ("MountainWatchModel", prog_8_method_15_code, 2, 1, 22, some .int)
abbrev y_MO_isDay : MethodName := ⟨"MountainWatchModel", "isDay", "(I)Z"⟩
abbrev M_MO_isDay : MI := ("MountainWatchModel", prog_8_method_16_code, 2, 1, 22, some .boolean)
abbrev y_MO_tiltDay : MethodName := ⟨"MountainWatchModel", "tiltDay", "(I)I"⟩
abbrev M_MO_tiltDay : MI := ("MountainWatchModel", prog_8_method_17_code, 3, 0, 0, some .int)
abbrev y_MO_tiltAt : MethodName := ⟨"MountainWatchModel", "tiltAt", "(I)I"⟩
abbrev M_MO_tiltAt : MI := ("MountainWatchModel", prog_8_method_18_code, 3, 2, 43, some .int)
abbrev y_MO_gasOf : MethodName := ⟨"MountainWatchModel", "gasOf", "(I)I"⟩
abbrev M_MO_gasOf : MI := ("MountainWatchModel", prog_8_method_19_code, 2, 2, 43, some .int)
abbrev y_MO_law : MethodName := ⟨"MountainWatchModel", "law", "(IIII)I"⟩
abbrev M_MO_law : MI := ("MountainWatchModel", prog_8_method_20_code, 5, 1, 22, some .int)
abbrev y_MO_isLaw : MethodName := ⟨"MountainWatchModel", "isLaw", "(I)Z"⟩
abbrev M_MO_isLaw : MI := ("MountainWatchModel", prog_8_method_21_code, 2, 1, 22, some .boolean)
abbrev y_MO_change : MethodName := ⟨"MountainWatchModel", "change", "(III)I"⟩
abbrev M_MO_change : MI := ("MountainWatchModel", prog_8_method_22_code, 4, 2, 43, some .int)
abbrev y_MO_within : MethodName := ⟨"MountainWatchModel", "within", "(III)I"⟩
abbrev M_MO_within : MI := ("MountainWatchModel", prog_8_method_23_code, 7, 1, 23, some .int)
abbrev y_MO_measureOf : MethodName := ⟨"MountainWatchModel", "measureOf", "(II)I"⟩
abbrev M_MO_measureOf : MI := ("MountainWatchModel", prog_8_method_24_code, 10, 3, 72, some .int)
abbrev y_MO_holdsOn : MethodName := ⟨"MountainWatchModel", "holdsOn", "(II)Z"⟩
abbrev M_MO_holdsOn : MI := ("MountainWatchModel", prog_8_method_25_code, 3, 4, 101, some .boolean)
abbrev y_MO_measure : MethodName := ⟨"MountainWatchModel", "measure", "(II)I"⟩
abbrev M_MO_measure : MI := ("MountainWatchModel", prog_8_method_26_code, 3, 4, 101, some .int)
abbrev y_MO_isTrue : MethodName := ⟨"MountainWatchModel", "isTrue", "(II)I"⟩
abbrev M_MO_isTrue : MI := ("MountainWatchModel", prog_8_method_27_code, 3, 5, 123, some .int)
abbrev y_MO_rest : MethodName := ⟨"MountainWatchModel", "rest", "(I)I"⟩
abbrev M_MO_rest : MI := ("MountainWatchModel", prog_8_method_28_code, 3, 1, 22, some .int)
abbrev y_MO_holdNow : MethodName := ⟨"MountainWatchModel", "holdNow", "()I"⟩
abbrev M_MO_holdNow : MI := ("MountainWatchModel", prog_8_method_29_code, 1, 0, 0, some .int)
abbrev y_MO_wanted : MethodName := ⟨"MountainWatchModel", "wanted", "()I"⟩
abbrev M_MO_wanted : MI := ("MountainWatchModel", prog_8_method_30_code, 3, 5, 123, some .int)
abbrev y_MO_tells : MethodName := ⟨"MountainWatchModel", "tells", "(IIII)V"⟩
abbrev M_MO_tells : MI := ("MountainWatchModel", prog_8_method_31_code, 5, 0, 0, none)
abbrev y_MO_turns : MethodName := ⟨"MountainWatchModel", "turns", "(II)I"⟩
abbrev M_MO_turns : MI := ("MountainWatchModel", prog_8_method_32_code, 3, 1, 24, some .int)
abbrev y_MO_next : MethodName := ⟨"MountainWatchModel", "next", "()I"⟩
abbrev M_MO_next : MI := ("MountainWatchModel", prog_8_method_33_code, 4, 6, 145, some .int)
abbrev y_MO_hold : MethodName := ⟨"MountainWatchModel", "hold", "(II)I"⟩
abbrev M_MO_hold : MI := ("MountainWatchModel", prog_8_method_34_code, 3, 1, 22, some .int)
abbrev y_MO_release : MethodName := ⟨"MountainWatchModel", "release", "()I"⟩
abbrev M_MO_release : MI := ("MountainWatchModel", prog_8_method_35_code, 2, 1, 20, some .int)
abbrev y_MO_word : MethodName := ⟨"MountainWatchModel", "word", "(I)I"⟩
abbrev M_MO_word : MI := ("MountainWatchModel", prog_8_method_36_code, 2, 2, 46, some .int)
abbrev y_MO_drill : MethodName := ⟨"MountainWatchModel", "drill", "(I)I"⟩
abbrev M_MO_drill : MI := ("MountainWatchModel", prog_8_method_37_code, 2, 1, 24, some .int)
abbrev y_MO_message : MethodName := ⟨"MountainWatchModel", "message", "(ZII)I"⟩
abbrev M_MO_message : MI := ("MountainWatchModel", prog_8_method_38_code, 6, 1, 22, some .int)
abbrev y_MO_told : MethodName := ⟨"MountainWatchModel", "told", "(I)I"⟩
abbrev M_MO_told : MI := ("MountainWatchModel", prog_8_method_39_code, 2, 6, 145, some .int)
abbrev y_MO_isNode : MethodName := ⟨"MountainWatchModel", "isNode", "(I)Z"⟩
abbrev M_MO_isNode : MI := ("MountainWatchModel", prog_8_method_40_code, 2, 1, 22, some .boolean)
abbrev y_MO_children : MethodName := ⟨"MountainWatchModel", "children", "(I)I"⟩
abbrev M_MO_children : MI := ("MountainWatchModel", prog_8_method_41_code, 4, 0, 0, some .int)
abbrev y_MO_depth : MethodName := ⟨"MountainWatchModel", "depth", "(I)I"⟩
abbrev M_MO_depth : MI := ("MountainWatchModel", prog_8_method_42_code, 4, 0, 0, some .int)
abbrev y_MO_isShare : MethodName := ⟨"MountainWatchModel", "isShare", "(II)Z"⟩
abbrev M_MO_isShare : MI := ("MountainWatchModel", prog_8_method_43_code, 2, 1, 22, some .boolean)
abbrev y_MO_node : MethodName := ⟨"MountainWatchModel", "node", "(III)I"⟩
abbrev M_MO_node : MI := ("MountainWatchModel", prog_8_method_44_code, 4, 2, 43, some .int)
abbrev y_MO_share : MethodName := ⟨"MountainWatchModel", "share", "(III)I"⟩
abbrev M_MO_share : MI := ("MountainWatchModel", prog_8_method_45_code, 4, 2, 43, some .int)
abbrev y_MO_fear : MethodName := ⟨"MountainWatchModel", "fear", "(IZ)I"⟩
abbrev M_MO_fear : MI := ("MountainWatchModel", prog_8_method_46_code, 4, 2, 43, some .int)
abbrev y_MO_bounds : MethodName := ⟨"MountainWatchModel", "bounds", "(I[I)I"⟩
abbrev M_MO_bounds : MI := ("MountainWatchModel", prog_8_method_47_code, 5, 0, 0, some .int)
abbrev y_MO_isSound : MethodName := ⟨"MountainWatchModel", "isSound", "()Z"⟩
abbrev M_MO_isSound : MI := ("MountainWatchModel", prog_8_method_48_code, 3, 1, 24, some .boolean)
abbrev y_MO_sound : MethodName := ⟨"MountainWatchModel", "sound", "()I"⟩
abbrev M_MO_sound : MI := ("MountainWatchModel", prog_8_method_49_code, 1, 2, 46, some .int)
abbrev y_MO_mixed : MethodName := ⟨"MountainWatchModel", "mixed", "(II)J"⟩
abbrev M_MO_mixed : MI := ("MountainWatchModel", prog_8_method_50_code, 9, 1, 24, some .long)
abbrev y_MO_chance : MethodName := ⟨"MountainWatchModel", "chance", "(II)I"⟩
abbrev M_MO_chance : MI := ("MountainWatchModel", prog_8_method_51_code, 4, 2, 52, some .int)
abbrev y_MO_ofNode : MethodName := ⟨"MountainWatchModel", "ofNode", "(II)I"⟩
abbrev M_MO_ofNode : MI := ("MountainWatchModel", prog_8_method_52_code, 3, 2, 43, some .int)
abbrev y_LA_init : MethodName := ⟨"MountainWatch$Laws", "<init>", "()V"⟩
abbrev M_LA_init : MI := ("MountainWatch$Laws", prog_2_method_1_code, 1, 1, 12, none)
abbrev y_LA_has : MethodName := ⟨"MountainWatch$Laws", "has", "(I)Z"⟩
abbrev M_LA_has : MI := ("MountainWatch$Laws", prog_2_method_2_code, 2, 0, 0, some .boolean)
abbrev y_LA_add : MethodName := ⟨"MountainWatch$Laws", "add", "(IIII)I"⟩
abbrev M_LA_add : MI := ("MountainWatch$Laws", prog_2_method_3_code, 6, 0, 0, some .int)
abbrev y_ME_init : MethodName := ⟨"MountainWatch$Messages", "<init>", "()V"⟩
abbrev M_ME_init : MI := ("MountainWatch$Messages", prog_3_method_1_code, 1, 1, 12, none)
abbrev y_ME_place : MethodName := ⟨"MountainWatch$Messages", "place", "(ZI)I"⟩
abbrev M_ME_place : MI := ("MountainWatch$Messages", prog_3_method_2_code, 2, 0, 0, some .int)
abbrev y_ME_isKept : MethodName := ⟨"MountainWatch$Messages", "isKept", "(ZI)Z"⟩
abbrev M_ME_isKept : MI := ("MountainWatch$Messages", prog_3_method_3_code, 3, 0, 0, some .boolean)
abbrev y_ME_add : MethodName := ⟨"MountainWatch$Messages", "add", "(ZIII)I"⟩
abbrev M_ME_add : MI := ("MountainWatch$Messages", prog_3_method_4_code, 7, 1, 21, some .int)
abbrev y_ME_takeNumber : MethodName := ⟨"MountainWatch$Messages", "takeNumber", "(Z)I"⟩
abbrev M_ME_takeNumber : MI := ("MountainWatch$Messages", prog_3_method_5_code, 2, 0, 0, some .int)
abbrev y_ME_countKept : MethodName := ⟨"MountainWatch$Messages", "countKept", "(Z)V"⟩
abbrev M_ME_countKept : MI := ("MountainWatch$Messages", prog_3_method_6_code, 2, 0, 0, none)
abbrev y_RE_init : MethodName := ⟨"MountainWatch$Readings", "<init>", "()V"⟩
abbrev M_RE_init : MI := ("MountainWatch$Readings", prog_4_method_1_code, 1, 1, 12, none)
abbrev y_RE_carryTiltTo : MethodName := ⟨"MountainWatch$Readings", "carryTiltTo", "(I)V"⟩
abbrev M_RE_carryTiltTo : MI := ("MountainWatch$Readings", prog_4_method_2_code, 2, 0, 0, none)
abbrev y_RE_tiltMove : MethodName := ⟨"MountainWatch$Readings", "tiltMove", "(II)I"⟩
abbrev M_RE_tiltMove : MI := ("MountainWatch$Readings", prog_4_method_3_code, 3, 1, 20, some .int)
abbrev y_RE_gasOfDays : MethodName := ⟨"MountainWatch$Readings", "gasOfDays", "(II)I"⟩
abbrev M_RE_gasOfDays : MI := ("MountainWatch$Readings", prog_4_method_4_code, 5, 0, 0, some .int)
abbrev y_SH_init : MethodName := ⟨"MountainWatch$Shakes", "<init>", "()V"⟩
abbrev M_SH_init : MI := ("MountainWatch$Shakes", prog_5_method_1_code, 1, 1, 12, none)
abbrev y_SH_has : MethodName := ⟨"MountainWatch$Shakes", "has", "(I)Z"⟩
abbrev M_SH_has : MI := ("MountainWatch$Shakes", prog_5_method_2_code, 2, 0, 0, some .boolean)
abbrev y_SH_band : MethodName := ⟨"MountainWatch$Shakes", "band", "(II)I"⟩
abbrev M_SH_band : MI := ("MountainWatch$Shakes", prog_5_method_3_code, 3, 0, 0, some .int)
abbrev y_SH_add : MethodName := ⟨"MountainWatch$Shakes", "add", "(JI)I"⟩
abbrev M_SH_add : MI := ("MountainWatch$Shakes", prog_5_method_4_code, 8, 4, 93, some .int)
abbrev y_SH_kindOf : MethodName := ⟨"MountainWatch$Shakes", "kindOf", "(I)I"⟩
abbrev M_SH_kindOf : MI := ("MountainWatch$Shakes", prog_5_method_5_code, 4, 1, 22, some .int)
abbrev y_SH_product : MethodName := ⟨"MountainWatch$Shakes", "product", "(II)J"⟩
abbrev M_SH_product : MI := ("MountainWatch$Shakes", prog_5_method_6_code, 6, 1, 22, some .long)
abbrev y_SH_areAlike : MethodName := ⟨"MountainWatch$Shakes", "areAlike", "(II)Z"⟩
abbrev M_SH_areAlike : MI := ("MountainWatch$Shakes", prog_5_method_7_code, 5, 2, 47, some .boolean)
abbrev y_SH_askLikeness : MethodName := ⟨"MountainWatch$Shakes", "askLikeness", "(I)V"⟩
abbrev M_SH_askLikeness : MI := ("MountainWatch$Shakes", prog_5_method_8_code, 3, 4, 93, none)
abbrev y_SH_joinFamilies : MethodName := ⟨"MountainWatch$Shakes", "joinFamilies", "(I)V"⟩
abbrev M_SH_joinFamilies : MI := ("MountainWatch$Shakes", prog_5_method_9_code, 3, 3, 71, none)
abbrev y_SH_mergeFamilies : MethodName := ⟨"MountainWatch$Shakes", "mergeFamilies", "(III)V"⟩
abbrev M_SH_mergeFamilies : MI := ("MountainWatch$Shakes", prog_5_method_10_code, 6, 1, 21, none)
abbrev y_SH_countFamilies : MethodName := ⟨"MountainWatch$Shakes", "countFamilies", "()I"⟩
abbrev M_SH_countFamilies : MI := ("MountainWatch$Shakes", prog_5_method_11_code, 3, 0, 0, some .int)
abbrev y_SH_familyByOrder : MethodName := ⟨"MountainWatch$Shakes", "familyByOrder", "(I)I"⟩
abbrev M_SH_familyByOrder : MI := ("MountainWatch$Shakes", prog_5_method_12_code, 4, 0, 0, some .int)
abbrev y_SH_countKin : MethodName := ⟨"MountainWatch$Shakes", "countKin", "(I)I"⟩
abbrev M_SH_countKin : MI := ("MountainWatch$Shakes", prog_5_method_13_code, 4, 0, 0, some .int)
abbrev y_SH_isOfDays : MethodName := ⟨"MountainWatch$Shakes", "isOfDays", "(III)Z"⟩
abbrev M_SH_isOfDays : MI := ("MountainWatch$Shakes", prog_5_method_14_code, 4, 0, 0, some .boolean)
abbrev y_SH_countOfDays : MethodName := ⟨"MountainWatch$Shakes", "countOfDays", "(II)I"⟩
abbrev M_SH_countOfDays : MI := ("MountainWatch$Shakes", prog_5_method_15_code, 5, 1, 23, some .int)
abbrev y_SH_countOfKind : MethodName := ⟨"MountainWatch$Shakes", "countOfKind", "(III)I"⟩
abbrev M_SH_countOfKind : MI := ("MountainWatch$Shakes", prog_5_method_16_code, 6, 1, 23, some .int)
abbrev y_SH_countOfGreatestFamily : MethodName := ⟨"MountainWatch$Shakes", "countOfGreatestFamily", "(II)I"⟩
abbrev M_SH_countOfGreatestFamily : MI := ("MountainWatch$Shakes", prog_5_method_17_code, 6, 1, 23, some .int)
abbrev y_TR_init : MethodName := ⟨"MountainWatch$Tree", "<init>", "()V"⟩
abbrev M_TR_init : MI := ("MountainWatch$Tree", prog_6_method_1_code, 1, 1, 12, none)
abbrev y_TR_has : MethodName := ⟨"MountainWatch$Tree", "has", "(I)Z"⟩
abbrev M_TR_has : MI := ("MountainWatch$Tree", prog_6_method_2_code, 2, 0, 0, some .boolean)
abbrev y_TR_takesChild : MethodName := ⟨"MountainWatch$Tree", "takesChild", "(I)Z"⟩
abbrev M_TR_takesChild : MI := ("MountainWatch$Tree", prog_6_method_3_code, 2, 0, 0, some .boolean)
abbrev y_TR_add : MethodName := ⟨"MountainWatch$Tree", "add", "(III)I"⟩
abbrev M_TR_add : MI := ("MountainWatch$Tree", prog_6_method_4_code, 5, 0, 0, some .int)
abbrev y_TR_isSound : MethodName := ⟨"MountainWatch$Tree", "isSound", "()Z"⟩
abbrev M_TR_isSound : MI := ("MountainWatch$Tree", prog_6_method_5_code, 2, 1, 24, some .boolean)
abbrev y_TR_hasShares : MethodName := ⟨"MountainWatch$Tree", "hasShares", "(I)Z"⟩
abbrev M_TR_hasShares : MI := ("MountainWatch$Tree", prog_6_method_6_code, 5, 0, 0, some .boolean)
abbrev y_TR_chanceOf : MethodName := ⟨"MountainWatch$Tree", "chanceOf", "(IZ)I"⟩
abbrev M_TR_chanceOf : MI := ("MountainWatch$Tree", prog_6_method_7_code, 4, 3, 74, some .int)
abbrev y_TR_chanceByShares : MethodName := ⟨"MountainWatch$Tree", "chanceByShares", "(IZ)I"⟩
abbrev M_TR_chanceByShares : MI := ("MountainWatch$Tree", prog_6_method_8_code, 9, 2, 46, some .int)
abbrev y_TR_bestUnserved : MethodName := ⟨"MountainWatch$Tree", "bestUnserved", "(IZ)I"⟩
abbrev M_TR_bestUnserved : MI := ("MountainWatch$Tree", prog_6_method_9_code, 5, 1, 22, some .int)
abbrev y_TR_isBetter : MethodName := ⟨"MountainWatch$Tree", "isBetter", "(IIZ)Z"⟩
abbrev M_TR_isBetter : MI := ("MountainWatch$Tree", prog_6_method_10_code, 3, 0, 0, some .boolean)
abbrev y_Math_min : MethodName := ⟨"java/lang/Math", "min", "(II)I"⟩
abbrev M_Math_min : MI := ("java/lang/Math", prog_9_method_69_code, 2, 0, 0, some .int)
abbrev y_Math_max : MethodName := ⟨"java/lang/Math", "max", "(II)I"⟩
abbrev M_Math_max : MI := ("java/lang/Math", prog_9_method_65_code, 2, 0, 0, some .int)
abbrev y_Math_abs : MethodName := ⟨"java/lang/Math", "abs", "(I)I"⟩
abbrev M_Math_abs : MI := ("java/lang/Math", prog_9_method_59_code, 1, 0, 0, some .int)
abbrev M_LW_law : MI := ("MountainWatchLaw", code, 4, 9, 336, ret)
end
section
/-! the heap as numbers: cell, place -/
abbrev Hp : Type := Nat → Int → Int
abbrev vI (i : Int) : Value := .int (Int32.ofInt i)
abbrev vL (i : Int) : Value := .long (Int64.ofInt i)
def upf (f : Int → Int) (i v : Int) : Int → Int := fun j => if j = i then v else f j
def up (h : Hp) (k : Nat) (i v : Int) : Hp := fun k2 => if k2 = k then upf (h k) i v else h k2
def aI (n : Nat) (f : Int → Int) : vp_A := (n, .inl (fun j => Int32.ofInt (f (j : Int))))
def aL (n : Nat) (f : Int → Int) : vp_A := (n, .inr (.inl (fun j => Int64.ofInt (f (j : Int)))))
def fs_MW (ad : Nat → Nat) (f : Int → Int) : List Value := [.ref (ad 1), .ref (ad 7), .ref (ad 10), .ref (ad 15), .ref (ad 19), vI (f 5), vI (f 6), vI (f 7), vI (f 8), vI (f 9), vI (f 10), vI (f 11)]
def fs_SH (ad : Nat → Nat) (f : Int → Int) : List Value := [.ref (ad 2), .ref (ad 3), .ref (ad 4), .ref (ad 5), .ref (ad 6), vI (f 5), vI (f 6)]
def fs_RE (ad : Nat → Nat) (f : Int → Int) : List Value := [.ref (ad 8), .ref (ad 9)]
def fs_LA (ad : Nat → Nat) (f : Int → Int) : List Value := [.ref (ad 11), .ref (ad 12), .ref (ad 13), .ref (ad 14), vI (f 4)]
def fs_ME (ad : Nat → Nat) (f : Int → Int) : List Value := [.ref (ad 16), .ref (ad 17), .ref (ad 18), vI (f 3), vI (f 4), vI (f 5), vI (f 6)]
def fs_TR (ad : Nat → Nat) (f : Int → Int) : List Value := [.ref (ad 20), .ref (ad 21), .ref (ad 22), .ref (ad 23), .ref (ad 24), .ref (ad 25), .ref (ad 26), .ref (ad 27), vI (f 8)]
def fs_MO (ad : Nat → Nat) (f : Int → Int) : List Value := [vI (f 0), vI (f 1), .ref (ad 29), .ref (ad 30), .ref (ad 31), vI (f 5), vI (f 6), .ref (ad 32), .ref (ad 33), .ref (ad 34), vI (f 10), .ref (ad 35), .ref (ad 36), .ref (ad 37), .ref (ad 38), vI (f 15), vI (f 16), vI (f 17), vI (f 18), vI (f 19), vI (f 20), .ref (ad 39), vI (f 22), vI (f 23), vI (f 24), vI (f 25), .ref (ad 40), .ref (ad 41), .ref (ad 42), .ref (ad 43), .ref (ad 44), .ref (ad 45)]
def wE (ad : Nat → Nat) (ca : Nat → ClassId) (k : Nat) (f : Int → Int) : va_E := match k with
  | 0 => .inr (0, fs_MW ad f)
  | 1 => .inr (1, fs_SH ad f)
  | 2 => .inl (ca 0, aI 480 f)
  | 3 => .inl (ca 0, aI 80 f)
  | 4 => .inl (ca 0, aI 80 f)
  | 5 => .inl (ca 0, aI 80 f)
  | 6 => .inl (ca 0, aI 80 f)
  | 7 => .inr (2, fs_RE ad f)
  | 8 => .inl (ca 0, aI 1000 f)
  | 9 => .inl (ca 0, aI 1000 f)
  | 10 => .inr (3, fs_LA ad f)
  | 11 => .inl (ca 0, aI 8 f)
  | 12 => .inl (ca 0, aI 8 f)
  | 13 => .inl (ca 0, aI 8 f)
  | 14 => .inl (ca 0, aI 8 f)
  | 15 => .inr (4, fs_ME ad f)
  | 16 => .inl (ca 0, aI 200 f)
  | 17 => .inl (ca 0, aI 200 f)
  | 18 => .inl (ca 0, aI 200 f)
  | 19 => .inr (5, fs_TR ad f)
  | 20 => .inl (ca 0, aI 24 f)
  | 21 => .inl (ca 0, aI 24 f)
  | 22 => .inl (ca 0, aI 24 f)
  | 23 => .inl (ca 0, aI 24 f)
  | 24 => .inl (ca 0, aI 24 f)
  | 25 => .inl (ca 1, aI 24 f)
  | 26 => .inl (ca 0, aI 24 f)
  | 27 => .inl (ca 1, aI 24 f)
  | 28 => .inr (6, fs_MO ad f)
  | 29 => .inl (ca 0, aI 80 f)
  | 30 => .inl (ca 0, aI 480 f)
  | 31 => .inl (ca 0, aI 80 f)
  | 32 => .inl (ca 1, aI 1000 f)
  | 33 => .inl (ca 0, aI 1000 f)
  | 34 => .inl (ca 0, aI 1000 f)
  | 35 => .inl (ca 0, aI 8 f)
  | 36 => .inl (ca 0, aI 8 f)
  | 37 => .inl (ca 0, aI 8 f)
  | 38 => .inl (ca 0, aI 8 f)
  | 39 => .inl (ca 0, aI 1000 f)
  | 40 => .inl (ca 0, aI 24 f)
  | 41 => .inl (ca 0, aI 24 f)
  | 42 => .inl (ca 0, aI 24 f)
  | 43 => .inl (ca 1, aI 24 f)
  | 44 => .inl (ca 2, aL 24 f)
  | _ => .inl (ca 1, aI 24 f)
def wsH (ad : Nat → Nat) (ca : Nat → ClassId) (h : Hp) : va_W := (List.range 46).map (fun k => (ad k, wE ad ca k (h k)))
def tysC (ca : Nat → ClassId) : List (ClassId × FieldType) := [(ca 0, .int), (ca 1, .boolean), (ca 2, .long)]
end
section
theorem wsH_at {ad : Nat → Nat} {ca : Nat → ClassId} {h : Hp} {k : Nat} (hk : k < 46) : (wsH ad ca h)[k]? = some (ad k, wE ad ca k (h k)) := by
  unfold wsH
  rw [List.getElem?_map, List.getElem?_range hk]
  rfl
theorem wsH_set {ad : Nat → Nat} {ca : Nat → ClassId} {h : Hp} {k : Nat} {g : Int → Int} {x : va_E} (hx : x = wE ad ca k g) : (wsH ad ca h).set k (ad k, x) = wsH ad ca (fun k2 => if k2 = k then g else h k2) := by
  subst hx
  apply List.ext_getElem?
  intro j
  unfold wsH
  by_cases hj : j = k
  · subst hj
    by_cases hk : j < 46
    · rw [List.getElem?_set_self (by simpa using hk), List.getElem?_map, List.getElem?_range hk]
      simp
    · rw [List.getElem?_eq_none (by simpa using hk), List.getElem?_eq_none (by simpa using hk)]
  · rw [List.getElem?_set_ne (Ne.symm hj), List.getElem?_map, List.getElem?_map]
    by_cases hk : j < 46
    · rw [List.getElem?_range hk]
      simp [hj]
    · rw [List.getElem?_eq_none (by simpa using hk)]
      rfl
theorem wsH_D {ad : Nat → Nat} {ca : Nat → ClassId} {h : Hp} {A : Nat → Prop} (hi : ∀ i j, i < 46 → j < 46 → ad i = ad j → i = j) (hA : ∀ k, k < 46 → A (ad k)) : va_D A (wsH ad ca h) := by
  have key : ∀ (k : Nat) (q : Nat × va_E), (wsH ad ca h)[k]? = some q → k < 46 ∧ q.1 = ad k := by
    intro k q hq
    have hk : k < 46 := by
      have := (List.getElem?_eq_some_iff.mp hq).1
      simpa [wsH] using this
    rw [wsH_at hk] at hq
    cases hq
    exact ⟨hk, rfl⟩
  refine ⟨fun i j p q h1 h2 h3 => ?_, fun k q hk => ?_⟩
  · obtain ⟨a1, b1⟩ := key i p h1
    obtain ⟨a2, b2⟩ := key j q h2
    exact hi i j a1 a2 (by rw [← b1, ← b2]; exact h3)
  · obtain ⟨a1, b1⟩ := key k q hk
    rw [b1]
    exact hA k a1
/-! numbers in their bounds -/
abbrev InR (x : Int) : Prop := -2147483648 ≤ x ∧ x ≤ 2147483647
abbrev InL (x : Int) : Prop := -9223372036854775808 ≤ x ∧ x ≤ 9223372036854775807
def HR (h : Hp) : Prop := ∀ (k : Nat) (i : Int), InL (h k i) ∧ (k ≠ 44 → InR (h k i))
theorem InR.toL {x : Int} (h : InR x) : InL x := by unfold InR at h; unfold InL; omega
theorem toInt_I {x : Int} (h : InR x) : (Int32.ofInt x).toInt = x := by
  rw [Int32.toInt_ofInt]
  unfold InR at h
  apply Int.bmod_eq_of_le <;> simp [Int32.size] <;> omega
theorem toInt_L {x : Int} (h : InL x) : (Int64.ofInt x).toInt = x := by
  rw [Int64.toInt_ofInt]
  unfold InL at h
  apply Int.bmod_eq_of_le <;> simp [Int64.size] <;> omega
theorem ofI_lt {x y : Int} (hx : InR x) (hy : InR y) : Int32.ofInt x < Int32.ofInt y ↔ x < y := by
  rw [Int32.lt_iff_toInt_lt, toInt_I hx, toInt_I hy]
theorem ofI_le {x y : Int} (hx : InR x) (hy : InR y) : Int32.ofInt x ≤ Int32.ofInt y ↔ x ≤ y := by
  rw [Int32.le_iff_toInt_le, toInt_I hx, toInt_I hy]
theorem ofI_eq {x y : Int} (hx : InR x) (hy : InR y) : Int32.ofInt x = Int32.ofInt y ↔ x = y := by
  rw [← Int32.toInt_inj, toInt_I hx, toInt_I hy]
theorem ofI_add (x y : Int) : Int32.ofInt x + Int32.ofInt y = Int32.ofInt (x + y) := (Int32.ofInt_add x y).symm
theorem ofI_sub (x y : Int) : Int32.ofInt x - Int32.ofInt y = Int32.ofInt (x - y) := (Int32.ofInt_sub x y).symm
theorem ofI_mul (x y : Int) : Int32.ofInt x * Int32.ofInt y = Int32.ofInt (x * y) := (Int32.ofInt_mul x y).symm
theorem ofI_neg (x : Int) : -Int32.ofInt x = Int32.ofInt (-x) := (Int32.ofInt_neg x).symm
theorem ofL_add (x y : Int) : Int64.ofInt x + Int64.ofInt y = Int64.ofInt (x + y) := (Int64.ofInt_add x y).symm
theorem ofL_mul (x y : Int) : Int64.ofInt x * Int64.ofInt y = Int64.ofInt (x * y) := (Int64.ofInt_mul x y).symm
theorem ofL_sub (x y : Int) : Int64.ofInt x - Int64.ofInt y = Int64.ofInt (x - y) := (Int64.ofInt_sub x y).symm
theorem ofI_nat {i : Int} {n : Nat} (h0 : 0 ≤ i) (h1 : i < n) (hn : n ≤ 100000) : vp_in (Int32.ofInt i) n ∧ (Int32.ofInt i).toNatClampNeg = i.toNat := by
  have hr : InR i := by unfold InR; omega
  have e : (Int32.ofInt i).toNatClampNeg = i.toNat := by
    show (Int32.ofInt i).toInt.toNat = i.toNat
    rw [toInt_I hr]
  refine ⟨?_, e⟩
  unfold vp_in
  rw [e]
  rintro (q | q)
  · have z : (0 : Int32) = Int32.ofInt 0 := by decide
    rw [z, ofI_lt hr (by unfold InR; omega)] at q
    omega
  · omega
theorem ofI_toL {x : Int} (h : InR x) : (Int32.ofInt x).toInt64 = Int64.ofInt x := by
  rw [← Int64.toInt_inj, toInt_L h.toL, Int32.toInt_toInt64, toInt_I h]
theorem ofL_toI (x : Int) : (Int64.ofInt x).toInt32 = Int32.ofInt x := by
  rw [← Int32.toInt_inj]
  simp [Int64.toInt_toInt32, Int64.toInt_ofInt, Int32.toInt_ofInt, Int32.size, Int64.size]
end
section
/-! THE PURE MACHINE: 'WP' says of a place in a method, with locals, stack and a heap of numbers: in every context the machine comes to a return with Q -/
abbrev SC : Type := Option (Nat × Nat × (Nat → Int32))
def Cx (D : va_G) (ad : Nat → Nat) (ca : Nat → ClassId) (sc : SC) (M : MI) (p : Program) (R : Room) (s : State) (m : MethodId) (args : Array Value) (meth : Method) (c : Code) (A : Nat → Prop) (cells slots : Nat) : Prop :=
  p.tables.exec = Jvm.exec ∧ c.code = M.2.1 ∧ c.maxLocals = M.2.2.1 ∧ s.vm.findClass M.1 = some m.cls ∧ meth.sig.returnType = M.2.2.2.2.2 ∧ meth.locks = false ∧ (∀ w ∈ TB, w.before args s = true) ∧ M.2.2.2.1 ≤ R.frames ∧ M.2.2.2.2.1 ≤ R.locals ∧ cells ≤ R.cells ∧ slots ≤ R.slots ∧ va_K D classes (tysC ca) s ∧ (∀ i j, i < 46 → j < 46 → ad i = ad j → i = j) ∧ (∀ k, k < 46 → A (ad k)) ∧ (∀ b L xs, sc = some (b, L, xs) → va_X b L xs s s.heap ∧ b < s.heap.size ∧ ¬ A b)
def Rl (D : va_G) (ad : Nat → Nat) (ca : Nat → ClassId) (h : Hp) (H : Heap) : Prop := va_P D classes (wsH ad ca h) H ∧ HR h
def rtI (M : MI) (v : Option Value) (pc : Nat) : Prop :=
  (∃ (x : Int32) (ty : FieldType), v = some (.int x) ∧ decode M.2.1 pc = .ok (.ireturn, 1) ∧ M.2.2.2.2.2 = some ty ∧ narrow ty (.int x) = .int x) ∨
  (∃ x : Int64, v = some (.long x) ∧ decode M.2.1 pc = .ok (.lreturn, 1) ∧ M.2.2.2.2.2 = some .long) ∨
  (v = none ∧ decode M.2.1 pc = .ok (.return_, 1) ∧ M.2.2.2.2.2 = none)
def WP (D : va_G) (ad : Nat → Nat) (ca : Nat → ClassId) (sc : SC) (M : MI) (pc : Nat) (lv : List (Nat × Value)) (st : List Value) (h : Hp) (Q : Option Value → Hp → Prop) : Prop :=
  ∀ (p : Program) (l : Launch) (e : Env) (R : Room) (s : State) (m : MethodId) (args : Array Value) (below : List Frame) (meth : Method) (c : Code) (A : Nat → Prop) (H : Heap) (locs : List Loc) (cells slots : Nat) (Z : State → Prop) (ls : Array Slot),
    Cx D ad ca sc M p R s m args meth c A cells slots → Rl D ad ca h H → va_S A s.heap H locs → lv_has ls M.2.2.1 lv →
    (∀ (v : Option Value) (h' : Hp) (H' : Heap) (locs' : List Loc) (ls' : Array Slot) (pc' : Nat), Q v h' → Rl D ad ca h' H' → va_S A s.heap H' locs' → rtI M v pc' → W p l e R s m args below meth c H' locs' cells slots Z (F0 m pc' ls' v.toList)) →
    W p l e R s m args below meth c H locs cells slots Z (F0 m pc ls st)
section PM
variable {D : va_G} {ad : Nat → Nat} {ca : Nat → ClassId} {sc : SC} {M : MI} {pc : Nat} {lv : List (Nat × Value)} {st : List Value} {h : Hp} {Q Q' : Option Value → Hp → Prop}
theorem WP.mono (hq : ∀ v h', Q v h' → Q' v h') (k : WP D ad ca sc M pc lv st h Q) : WP D ad ca sc M pc lv st h Q' :=
  fun p l e R s m args below meth c A H locs cells slots Z ls hc hR hS hl hr => k p l e R s m args below meth c A H locs cells slots Z ls hc hR hS hl (fun v h' H' locs' ls' pc' q => hr v h' H' locs' ls' pc' (hq v h' q))
theorem P_sub {lv' : List (Nat × Value)} (ks : List Nat) (hk : lv_pick lv ks = lv') (k : WP D ad ca sc M pc lv' st h Q) : WP D ad ca sc M pc lv st h Q :=
  fun p l e R s m args below meth c A H locs cells slots Z ls hc hR hS hl hr => k p l e R s m args below meth c A H locs cells slots Z ls hc hR hS (lv_sub hl ks hk) hr
/-- the numbers of a heap are in their bounds -/
theorem P_HR (k : HR h → WP D ad ca sc M pc lv st h Q) : WP D ad ca sc M pc lv st h Q :=
  fun p l e R s m args below meth c A H locs cells slots Z ls hc hR hS hl hr => k hR.2 p l e R s m args below meth c A H locs cells slots Z ls hc hR hS hl hr
theorem P_iconst {n : Int} (hd : decode M.2.1 pc = .ok (.iconst n, 1)) (k : WP D ad ca sc M (pc + 1) lv (vI n :: st) h Q) : WP D ad ca sc M pc lv st h Q :=
  fun p l e R s m args below meth c A H locs cells slots Z ls hc hR hS hl hr => lv_iconst hc.1 hc.2.1 hd rfl (k p l e R s m args below meth c A H locs cells slots Z ls hc hR hS hl hr)
theorem P_bipush {n : Int} (hd : decode M.2.1 pc = .ok (.bipush n, 2)) (hv : (Int8.ofInt n).toInt32 = Int32.ofInt n) (k : WP D ad ca sc M (pc + 2) lv (vI n :: st) h Q) : WP D ad ca sc M pc lv st h Q :=
  fun p l e R s m args below meth c A H locs cells slots Z ls hc hR hS hl hr => lv_bipush hc.1 hc.2.1 hd hv (k p l e R s m args below meth c A H locs cells slots Z ls hc hR hS hl hr)
theorem P_sipush {n : Int} (hd : decode M.2.1 pc = .ok (.sipush n, 3)) (hv : (Int16.ofInt n).toInt32 = Int32.ofInt n) (k : WP D ad ca sc M (pc + 3) lv (vI n :: st) h Q) : WP D ad ca sc M pc lv st h Q :=
  fun p l e R s m args below meth c A H locs cells slots Z ls hc hR hS hl hr => lv_sipush hc.1 hc.2.1 hd hv (k p l e R s m args below meth c A H locs cells slots Z ls hc hR hS hl hr)
theorem P_ldc {idx : Nat} {x : Int32} {n : Int} (hw : Cond.constant M.1 idx x ∈ TB) (hn : x = Int32.ofInt n) (hd : decode M.2.1 pc = .ok (.ldc idx, 2)) (k : WP D ad ca sc M (pc + 2) lv (vI n :: st) h Q) : WP D ad ca sc M pc lv st h Q := by
  subst hn
  exact fun p l e R s m args below meth c A H locs cells slots Z ls hc hR hS hl hr => lv_ldc hc.1 hc.2.1 hc.2.2.2.1 (hc.2.2.2.2.2.2.1 _ hw) hd (k p l e R s m args below meth c A H locs cells slots Z ls hc hR hS hl hr)
theorem P_ldc2 {idx : Nat} {x : Int64} {n : Int} (hw : Cond.constantLong M.1 idx x ∈ TB) (hn : x = Int64.ofInt n) (hd : decode M.2.1 pc = .ok (.ldc2_w idx, 3)) (k : WP D ad ca sc M (pc + 3) lv (vL n :: st) h Q) : WP D ad ca sc M pc lv st h Q := by
  subst hn
  exact fun p l e R s m args below meth c A H locs cells slots Z ls hc hR hS hl hr => lv_ldc2 hc.1 hc.2.1 hc.2.2.2.1 (hc.2.2.2.2.2.2.1 _ hw) hd (k p l e R s m args below meth c A H locs cells slots Z ls hc hR hS hl hr)
theorem P_lconst {n : Fin 2} {i : Int} (hd : decode M.2.1 pc = .ok (.lconst n, 1)) (hv : Int64.ofNat (n : Nat) = Int64.ofInt i) (k : WP D ad ca sc M (pc + 1) lv (vL i :: st) h Q) : WP D ad ca sc M pc lv st h Q :=
  fun p l e R s m args below meth c A H locs cells slots Z ls hc hR hS hl hr => lv_lconst hc.1 hc.2.1 hd hv (k p l e R s m args below meth c A H locs cells slots Z ls hc hR hS hl hr)
theorem P_iload_n {j : Fin 4} {i : Nat} {x : Int} (pl : Nat) (hd : decode M.2.1 pc = .ok (.iload_n j, 1)) (hi : (j : Nat) = i) (hp : lv[pl]? = some (i, vI x)) (k : WP D ad ca sc M (pc + 1) lv (vI x :: st) h Q) : WP D ad ca sc M pc lv st h Q :=
  fun p l e R s m args below meth c A H locs cells slots Z ls hc hR hS hl hr => lv_iload_n hc.1 hc.2.1 hd hi (lv_at hl pl hp) (k p l e R s m args below meth c A H locs cells slots Z ls hc hR hS hl hr)
theorem P_iload {i : Nat} {x : Int} (pl : Nat) (hd : decode M.2.1 pc = .ok (.iload i, 2)) (hp : lv[pl]? = some (i, vI x)) (k : WP D ad ca sc M (pc + 2) lv (vI x :: st) h Q) : WP D ad ca sc M pc lv st h Q :=
  fun p l e R s m args below meth c A H locs cells slots Z ls hc hR hS hl hr => lv_iload hc.1 hc.2.1 hd (lv_at hl pl hp) (k p l e R s m args below meth c A H locs cells slots Z ls hc hR hS hl hr)
theorem P_lload_n {j : Fin 4} {i : Nat} {x : Int} (pl : Nat) (hd : decode M.2.1 pc = .ok (.lload_n j, 1)) (hi : (j : Nat) = i) (hp : lv[pl]? = some (i, vL x)) (k : WP D ad ca sc M (pc + 1) lv (vL x :: st) h Q) : WP D ad ca sc M pc lv st h Q :=
  fun p l e R s m args below meth c A H locs cells slots Z ls hc hR hS hl hr => lv_lload_n hc.1 hc.2.1 hd hi (lv_at hl pl hp) (k p l e R s m args below meth c A H locs cells slots Z ls hc hR hS hl hr)
theorem P_lload {i : Nat} {x : Int} (pl : Nat) (hd : decode M.2.1 pc = .ok (.lload i, 2)) (hp : lv[pl]? = some (i, vL x)) (k : WP D ad ca sc M (pc + 2) lv (vL x :: st) h Q) : WP D ad ca sc M pc lv st h Q :=
  fun p l e R s m args below meth c A H locs cells slots Z ls hc hR hS hl hr => lv_lload hc.1 hc.2.1 hd (lv_at hl pl hp) (k p l e R s m args below meth c A H locs cells slots Z ls hc hR hS hl hr)
theorem P_aload_n {j : Fin 4} {i x : Nat} (pl : Nat) (hd : decode M.2.1 pc = .ok (.aload_n j, 1)) (hi : (j : Nat) = i) (hp : lv[pl]? = some (i, .ref x)) (k : WP D ad ca sc M (pc + 1) lv (.ref x :: st) h Q) : WP D ad ca sc M pc lv st h Q :=
  fun p l e R s m args below meth c A H locs cells slots Z ls hc hR hS hl hr => lv_aload_n hc.1 hc.2.1 hd hi (lv_at hl pl hp) (k p l e R s m args below meth c A H locs cells slots Z ls hc hR hS hl hr)
theorem P_aload {i x : Nat} (pl : Nat) (hd : decode M.2.1 pc = .ok (.aload i, 2)) (hp : lv[pl]? = some (i, .ref x)) (k : WP D ad ca sc M (pc + 2) lv (.ref x :: st) h Q) : WP D ad ca sc M pc lv st h Q :=
  fun p l e R s m args below meth c A H locs cells slots Z ls hc hR hS hl hr => lv_aload hc.1 hc.2.1 hd (lv_at hl pl hp) (k p l e R s m args below meth c A H locs cells slots Z ls hc hR hS hl hr)
def st1 (lv : List (Nat × Value)) (i : Nat) (v : Value) : List (Nat × Value) := (i, v) :: lv.filter (fun q => !(q.1 == i) && !(q.1 + 1 == i && q.2.category == 2))
def st2 (lv : List (Nat × Value)) (i : Nat) (v : Value) : List (Nat × Value) := (i, v) :: lv.filter (fun q => !(q.1 == i) && (!(q.1 == i + 1) && !(q.1 + 1 == i && q.2.category == 2)))
theorem P_istore_n {j : Fin 4} {i : Nat} {x : Int} {lv' : List (Nat × Value)} (ks : List Nat) (hd : decode M.2.1 pc = .ok (.istore_n j, 1)) (hi : (j : Nat) = i) (hn : i < M.2.2.1) (hl' : lv_pick (st1 lv i (vI x)) ks = lv') (k : WP D ad ca sc M (pc + 1) lv' st h Q) : WP D ad ca sc M pc lv (vI x :: st) h Q :=
  fun p l e R s m args below meth c A H locs cells slots Z ls hc hR hS hl hr => lv_istore_n hc.1 hc.2.1 hd hi hl hn rfl (fun ls' h2 => k p l e R s m args below meth c A H locs cells slots Z ls' hc hR hS (lv_sub h2 ks hl') hr)
theorem P_istore {i : Nat} {x : Int} {lv' : List (Nat × Value)} (ks : List Nat) (hd : decode M.2.1 pc = .ok (.istore i, 2)) (hn : i < M.2.2.1) (hl' : lv_pick (st1 lv i (vI x)) ks = lv') (k : WP D ad ca sc M (pc + 2) lv' st h Q) : WP D ad ca sc M pc lv (vI x :: st) h Q :=
  fun p l e R s m args below meth c A H locs cells slots Z ls hc hR hS hl hr => lv_istore hc.1 hc.2.1 hd hl hn rfl (fun ls' h2 => k p l e R s m args below meth c A H locs cells slots Z ls' hc hR hS (lv_sub h2 ks hl') hr)
theorem P_lstore_n {j : Fin 4} {i : Nat} {x : Int} {lv' : List (Nat × Value)} (ks : List Nat) (hd : decode M.2.1 pc = .ok (.lstore_n j, 1)) (hi : (j : Nat) = i) (hn : i + 1 < M.2.2.1) (hl' : lv_pick (st2 lv i (vL x)) ks = lv') (k : WP D ad ca sc M (pc + 1) lv' st h Q) : WP D ad ca sc M pc lv (vL x :: st) h Q :=
  fun p l e R s m args below meth c A H locs cells slots Z ls hc hR hS hl hr => lv_lstore_n hc.1 hc.2.1 hd hi hl hn rfl (fun ls' h2 => k p l e R s m args below meth c A H locs cells slots Z ls' hc hR hS (lv_sub h2 ks hl') hr)
theorem P_lstore {i : Nat} {x : Int} {lv' : List (Nat × Value)} (ks : List Nat) (hd : decode M.2.1 pc = .ok (.lstore i, 2)) (hn : i + 1 < M.2.2.1) (hl' : lv_pick (st2 lv i (vL x)) ks = lv') (k : WP D ad ca sc M (pc + 2) lv' st h Q) : WP D ad ca sc M pc lv (vL x :: st) h Q :=
  fun p l e R s m args below meth c A H locs cells slots Z ls hc hR hS hl hr => lv_lstore hc.1 hc.2.1 hd hl hn rfl (fun ls' h2 => k p l e R s m args below meth c A H locs cells slots Z ls' hc hR hS (lv_sub h2 ks hl') hr)
theorem P_iinc {i : Nat} {n x : Int} {lv' : List (Nat × Value)} (pl : Nat) (ks : List Nat) (hd : decode M.2.1 pc = .ok (.iinc i n, 3)) (hp : lv[pl]? = some (i, vI x)) (hn : i < M.2.2.1) (hl' : lv_pick (st1 lv i (vI (x + n))) ks = lv') (k : WP D ad ca sc M (pc + 3) lv' st h Q) : WP D ad ca sc M pc lv st h Q :=
  fun p l e R s m args below meth c A H locs cells slots Z ls hc hR hS hl hr => lv_iinc hc.1 hc.2.1 hd hl hp (ofI_add x n) hn rfl (fun ls' h2 => k p l e R s m args below meth c A H locs cells slots Z ls' hc hR hS (lv_sub h2 ks hl') hr)
theorem P_iadd {x y : Int} (hd : decode M.2.1 pc = .ok (.iadd, 1)) (k : WP D ad ca sc M (pc + 1) lv (vI (x + y) :: st) h Q) : WP D ad ca sc M pc lv (vI y :: vI x :: st) h Q :=
  fun p l e R s m args below meth c A H locs cells slots Z ls hc hR hS hl hr => lv_iadd hc.1 hc.2.1 hd (by rw [ofI_add]; exact k p l e R s m args below meth c A H locs cells slots Z ls hc hR hS hl hr)
theorem P_isub {x y : Int} (hd : decode M.2.1 pc = .ok (.isub, 1)) (k : WP D ad ca sc M (pc + 1) lv (vI (x - y) :: st) h Q) : WP D ad ca sc M pc lv (vI y :: vI x :: st) h Q :=
  fun p l e R s m args below meth c A H locs cells slots Z ls hc hR hS hl hr => lv_isub hc.1 hc.2.1 hd (by rw [ofI_sub]; exact k p l e R s m args below meth c A H locs cells slots Z ls hc hR hS hl hr)
theorem P_imul {x y : Int} (hd : decode M.2.1 pc = .ok (.imul, 1)) (k : WP D ad ca sc M (pc + 1) lv (vI (x * y) :: st) h Q) : WP D ad ca sc M pc lv (vI y :: vI x :: st) h Q :=
  fun p l e R s m args below meth c A H locs cells slots Z ls hc hR hS hl hr => lv_imul hc.1 hc.2.1 hd (by rw [ofI_mul]; exact k p l e R s m args below meth c A H locs cells slots Z ls hc hR hS hl hr)
theorem P_ineg {x : Int} (hd : decode M.2.1 pc = .ok (.ineg, 1)) (k : WP D ad ca sc M (pc + 1) lv (vI (-x) :: st) h Q) : WP D ad ca sc M pc lv (vI x :: st) h Q :=
  fun p l e R s m args below meth c A H locs cells slots Z ls hc hR hS hl hr => lv_ineg hc.1 hc.2.1 hd (by rw [ofI_neg]; exact k p l e R s m args below meth c A H locs cells slots Z ls hc hR hS hl hr)
theorem P_ladd {x y : Int} (hd : decode M.2.1 pc = .ok (.ladd, 1)) (k : WP D ad ca sc M (pc + 1) lv (vL (x + y) :: st) h Q) : WP D ad ca sc M pc lv (vL y :: vL x :: st) h Q :=
  fun p l e R s m args below meth c A H locs cells slots Z ls hc hR hS hl hr => lv_ladd hc.1 hc.2.1 hd (by rw [ofL_add]; exact k p l e R s m args below meth c A H locs cells slots Z ls hc hR hS hl hr)
theorem P_lmul {x y : Int} (hd : decode M.2.1 pc = .ok (.lmul, 1)) (k : WP D ad ca sc M (pc + 1) lv (vL (x * y) :: st) h Q) : WP D ad ca sc M pc lv (vL y :: vL x :: st) h Q :=
  fun p l e R s m args below meth c A H locs cells slots Z ls hc hR hS hl hr => lv_lmul hc.1 hc.2.1 hd (by rw [ofL_mul]; exact k p l e R s m args below meth c A H locs cells slots Z ls hc hR hS hl hr)
theorem P_i2l {x : Int} (hx : InR x) (hd : decode M.2.1 pc = .ok (.i2l, 1)) (k : WP D ad ca sc M (pc + 1) lv (vL x :: st) h Q) : WP D ad ca sc M pc lv (vI x :: st) h Q :=
  fun p l e R s m args below meth c A H locs cells slots Z ls hc hR hS hl hr => lv_i2l hc.1 hc.2.1 hd (ofI_toL hx) (k p l e R s m args below meth c A H locs cells slots Z ls hc hR hS hl hr)
theorem P_l2i {x : Int} (hd : decode M.2.1 pc = .ok (.l2i, 1)) (k : WP D ad ca sc M (pc + 1) lv (vI x :: st) h Q) : WP D ad ca sc M pc lv (vL x :: st) h Q :=
  fun p l e R s m args below meth c A H locs cells slots Z ls hc hR hS hl hr => lv_l2i hc.1 hc.2.1 hd (ofL_toI x) (k p l e R s m args below meth c A H locs cells slots Z ls hc hR hS hl hr)
theorem P_dup {v : Value} (hd : decode M.2.1 pc = .ok (.dup, 1)) (hv : v.category = 1) (k : WP D ad ca sc M (pc + 1) lv (v :: v :: st) h Q) : WP D ad ca sc M pc lv (v :: st) h Q :=
  fun p l e R s m args below meth c A H locs cells slots Z ls hc hR hS hl hr => lv_dup hc.1 hc.2.1 hd hv (k p l e R s m args below meth c A H locs cells slots Z ls hc hR hS hl hr)
theorem P_dup2 {v w : Value} (hd : decode M.2.1 pc = .ok (.dup2, 1)) (hv : v.category = 1) (hw : w.category = 1) (k : WP D ad ca sc M (pc + 1) lv (v :: w :: v :: w :: st) h Q) : WP D ad ca sc M pc lv (v :: w :: st) h Q :=
  fun p l e R s m args below meth c A H locs cells slots Z ls hc hR hS hl hr => lv_dup2_11 hc.1 hc.2.1 hd hv hw (k p l e R s m args below meth c A H locs cells slots Z ls hc hR hS hl hr)
theorem P_pop {v : Value} (hd : decode M.2.1 pc = .ok (.pop, 1)) (hv : v.category = 1) (k : WP D ad ca sc M (pc + 1) lv st h Q) : WP D ad ca sc M pc lv (v :: st) h Q :=
  fun p l e R s m args below meth c A H locs cells slots Z ls hc hR hS hl hr => lv_pop hc.1 hc.2.1 hd hv (k p l e R s m args below meth c A H locs cells slots Z ls hc hR hS hl hr)
theorem P_goto {off : Int} (tgt : Nat) (hd : decode M.2.1 pc = .ok (.goto off, 3)) (ht : (pc : Int) + off = (tgt : Int)) (k : WP D ad ca sc M tgt lv st h Q) : WP D ad ca sc M pc lv st h Q :=
  fun p l e R s m args below meth c A H locs cells slots Z ls hc hR hS hl hr => lv_goto hc.1 hc.2.1 hd ht (k p l e R s m args below meth c A H locs cells slots Z ls hc hR hS hl hr)
theorem ofI_0 : (0 : Int32) = Int32.ofInt 0 := by decide
theorem inR_0 : InR 0 := by unfold InR; omega
theorem P_icmp_eq {x y : Int} {off : Int} (tgt : Nat) (hd : decode M.2.1 pc = .ok (.if_icmp .eq off, 3)) (ht : (pc : Int) + off = (tgt : Int)) (hx : InR x) (hy : InR y) (k1 : x = y → WP D ad ca sc M tgt lv st h Q) (k2 : ¬ x = y → WP D ad ca sc M (pc + 3) lv st h Q) : WP D ad ca sc M pc lv (vI y :: vI x :: st) h Q :=
  fun p l e R s m args below meth c A H locs cells slots Z ls hc hR hS hl hr => lv_icmp_eq hc.1 hc.2.1 hd ht (fun q => k1 ((ofI_eq hx hy).mp q) p l e R s m args below meth c A H locs cells slots Z ls hc hR hS hl hr) (fun q => k2 (fun z => q ((ofI_eq hx hy).mpr z)) p l e R s m args below meth c A H locs cells slots Z ls hc hR hS hl hr)
theorem P_if_eq {x : Int} {off : Int} (tgt : Nat) (hd : decode M.2.1 pc = .ok (.ifCond .eq off, 3)) (ht : (pc : Int) + off = (tgt : Int)) (hx : InR x) (k1 : x = 0 → WP D ad ca sc M tgt lv st h Q) (k2 : ¬ x = 0 → WP D ad ca sc M (pc + 3) lv st h Q) : WP D ad ca sc M pc lv (vI x :: st) h Q :=
  fun p l e R s m args below meth c A H locs cells slots Z ls hc hR hS hl hr => lv_if_eq hc.1 hc.2.1 hd ht (fun q => k1 ((ofI_eq hx inR_0).mp (by rw [← ofI_0]; exact q)) p l e R s m args below meth c A H locs cells slots Z ls hc hR hS hl hr) (fun q => k2 (fun z => q (by rw [ofI_0]; exact (ofI_eq hx inR_0).mpr z)) p l e R s m args below meth c A H locs cells slots Z ls hc hR hS hl hr)
theorem P_icmp_ne {x y : Int} {off : Int} (tgt : Nat) (hd : decode M.2.1 pc = .ok (.if_icmp .ne off, 3)) (ht : (pc : Int) + off = (tgt : Int)) (hx : InR x) (hy : InR y) (k1 : ¬ x = y → WP D ad ca sc M tgt lv st h Q) (k2 : x = y → WP D ad ca sc M (pc + 3) lv st h Q) : WP D ad ca sc M pc lv (vI y :: vI x :: st) h Q :=
  fun p l e R s m args below meth c A H locs cells slots Z ls hc hR hS hl hr => lv_icmp_ne hc.1 hc.2.1 hd ht (fun q => k1 ((not_congr (ofI_eq hx hy)).mp q) p l e R s m args below meth c A H locs cells slots Z ls hc hR hS hl hr) (fun q => k2 ((ofI_eq hx hy).mp q) p l e R s m args below meth c A H locs cells slots Z ls hc hR hS hl hr)
theorem P_if_ne {x : Int} {off : Int} (tgt : Nat) (hd : decode M.2.1 pc = .ok (.ifCond .ne off, 3)) (ht : (pc : Int) + off = (tgt : Int)) (hx : InR x) (k1 : ¬ x = 0 → WP D ad ca sc M tgt lv st h Q) (k2 : x = 0 → WP D ad ca sc M (pc + 3) lv st h Q) : WP D ad ca sc M pc lv (vI x :: st) h Q :=
  fun p l e R s m args below meth c A H locs cells slots Z ls hc hR hS hl hr => lv_if_ne hc.1 hc.2.1 hd ht (fun q => k1 ((not_congr (ofI_eq hx inR_0)).mp (by rw [← ofI_0]; exact q)) p l e R s m args below meth c A H locs cells slots Z ls hc hR hS hl hr) (fun q => k2 ((ofI_eq hx inR_0).mp (by rw [← ofI_0]; exact q)) p l e R s m args below meth c A H locs cells slots Z ls hc hR hS hl hr)
theorem P_icmp_lt {x y : Int} {off : Int} (tgt : Nat) (hd : decode M.2.1 pc = .ok (.if_icmp .lt off, 3)) (ht : (pc : Int) + off = (tgt : Int)) (hx : InR x) (hy : InR y) (k1 : x < y → WP D ad ca sc M tgt lv st h Q) (k2 : ¬ x < y → WP D ad ca sc M (pc + 3) lv st h Q) : WP D ad ca sc M pc lv (vI y :: vI x :: st) h Q :=
  fun p l e R s m args below meth c A H locs cells slots Z ls hc hR hS hl hr => lv_icmp_lt hc.1 hc.2.1 hd ht (fun q => k1 ((ofI_lt hx hy).mp q) p l e R s m args below meth c A H locs cells slots Z ls hc hR hS hl hr) (fun q => k2 (fun z => q ((ofI_lt hx hy).mpr z)) p l e R s m args below meth c A H locs cells slots Z ls hc hR hS hl hr)
theorem P_if_lt {x : Int} {off : Int} (tgt : Nat) (hd : decode M.2.1 pc = .ok (.ifCond .lt off, 3)) (ht : (pc : Int) + off = (tgt : Int)) (hx : InR x) (k1 : x < 0 → WP D ad ca sc M tgt lv st h Q) (k2 : ¬ x < 0 → WP D ad ca sc M (pc + 3) lv st h Q) : WP D ad ca sc M pc lv (vI x :: st) h Q :=
  fun p l e R s m args below meth c A H locs cells slots Z ls hc hR hS hl hr => lv_if_lt hc.1 hc.2.1 hd ht (fun q => k1 ((ofI_lt hx inR_0).mp (by rw [← ofI_0]; exact q)) p l e R s m args below meth c A H locs cells slots Z ls hc hR hS hl hr) (fun q => k2 (fun z => q (by rw [ofI_0]; exact (ofI_lt hx inR_0).mpr z)) p l e R s m args below meth c A H locs cells slots Z ls hc hR hS hl hr)
theorem P_icmp_ge {x y : Int} {off : Int} (tgt : Nat) (hd : decode M.2.1 pc = .ok (.if_icmp .ge off, 3)) (ht : (pc : Int) + off = (tgt : Int)) (hx : InR x) (hy : InR y) (k1 : y ≤ x → WP D ad ca sc M tgt lv st h Q) (k2 : ¬ y ≤ x → WP D ad ca sc M (pc + 3) lv st h Q) : WP D ad ca sc M pc lv (vI y :: vI x :: st) h Q :=
  fun p l e R s m args below meth c A H locs cells slots Z ls hc hR hS hl hr => lv_icmp_ge hc.1 hc.2.1 hd ht (fun q => k1 ((ofI_le hy hx).mp q) p l e R s m args below meth c A H locs cells slots Z ls hc hR hS hl hr) (fun q => k2 (fun z => q ((ofI_le hy hx).mpr z)) p l e R s m args below meth c A H locs cells slots Z ls hc hR hS hl hr)
theorem P_if_ge {x : Int} {off : Int} (tgt : Nat) (hd : decode M.2.1 pc = .ok (.ifCond .ge off, 3)) (ht : (pc : Int) + off = (tgt : Int)) (hx : InR x) (k1 : 0 ≤ x → WP D ad ca sc M tgt lv st h Q) (k2 : ¬ 0 ≤ x → WP D ad ca sc M (pc + 3) lv st h Q) : WP D ad ca sc M pc lv (vI x :: st) h Q :=
  fun p l e R s m args below meth c A H locs cells slots Z ls hc hR hS hl hr => lv_if_ge hc.1 hc.2.1 hd ht (fun q => k1 ((ofI_le inR_0 hx).mp (by rw [← ofI_0]; exact q)) p l e R s m args below meth c A H locs cells slots Z ls hc hR hS hl hr) (fun q => k2 (fun z => q (by rw [ofI_0]; exact (ofI_le inR_0 hx).mpr z)) p l e R s m args below meth c A H locs cells slots Z ls hc hR hS hl hr)
theorem P_icmp_gt {x y : Int} {off : Int} (tgt : Nat) (hd : decode M.2.1 pc = .ok (.if_icmp .gt off, 3)) (ht : (pc : Int) + off = (tgt : Int)) (hx : InR x) (hy : InR y) (k1 : y < x → WP D ad ca sc M tgt lv st h Q) (k2 : ¬ y < x → WP D ad ca sc M (pc + 3) lv st h Q) : WP D ad ca sc M pc lv (vI y :: vI x :: st) h Q :=
  fun p l e R s m args below meth c A H locs cells slots Z ls hc hR hS hl hr => lv_icmp_gt hc.1 hc.2.1 hd ht (fun q => k1 ((ofI_lt hy hx).mp q) p l e R s m args below meth c A H locs cells slots Z ls hc hR hS hl hr) (fun q => k2 (fun z => q ((ofI_lt hy hx).mpr z)) p l e R s m args below meth c A H locs cells slots Z ls hc hR hS hl hr)
theorem P_if_gt {x : Int} {off : Int} (tgt : Nat) (hd : decode M.2.1 pc = .ok (.ifCond .gt off, 3)) (ht : (pc : Int) + off = (tgt : Int)) (hx : InR x) (k1 : 0 < x → WP D ad ca sc M tgt lv st h Q) (k2 : ¬ 0 < x → WP D ad ca sc M (pc + 3) lv st h Q) : WP D ad ca sc M pc lv (vI x :: st) h Q :=
  fun p l e R s m args below meth c A H locs cells slots Z ls hc hR hS hl hr => lv_if_gt hc.1 hc.2.1 hd ht (fun q => k1 ((ofI_lt inR_0 hx).mp (by rw [← ofI_0]; exact q)) p l e R s m args below meth c A H locs cells slots Z ls hc hR hS hl hr) (fun q => k2 (fun z => q (by rw [ofI_0]; exact (ofI_lt inR_0 hx).mpr z)) p l e R s m args below meth c A H locs cells slots Z ls hc hR hS hl hr)
theorem P_icmp_le {x y : Int} {off : Int} (tgt : Nat) (hd : decode M.2.1 pc = .ok (.if_icmp .le off, 3)) (ht : (pc : Int) + off = (tgt : Int)) (hx : InR x) (hy : InR y) (k1 : x ≤ y → WP D ad ca sc M tgt lv st h Q) (k2 : ¬ x ≤ y → WP D ad ca sc M (pc + 3) lv st h Q) : WP D ad ca sc M pc lv (vI y :: vI x :: st) h Q :=
  fun p l e R s m args below meth c A H locs cells slots Z ls hc hR hS hl hr => lv_icmp_le hc.1 hc.2.1 hd ht (fun q => k1 ((ofI_le hx hy).mp q) p l e R s m args below meth c A H locs cells slots Z ls hc hR hS hl hr) (fun q => k2 (fun z => q ((ofI_le hx hy).mpr z)) p l e R s m args below meth c A H locs cells slots Z ls hc hR hS hl hr)
theorem P_if_le {x : Int} {off : Int} (tgt : Nat) (hd : decode M.2.1 pc = .ok (.ifCond .le off, 3)) (ht : (pc : Int) + off = (tgt : Int)) (hx : InR x) (k1 : x ≤ 0 → WP D ad ca sc M tgt lv st h Q) (k2 : ¬ x ≤ 0 → WP D ad ca sc M (pc + 3) lv st h Q) : WP D ad ca sc M pc lv (vI x :: st) h Q :=
  fun p l e R s m args below meth c A H locs cells slots Z ls hc hR hS hl hr => lv_if_le hc.1 hc.2.1 hd ht (fun q => k1 ((ofI_le hx inR_0).mp (by rw [← ofI_0]; exact q)) p l e R s m args below meth c A H locs cells slots Z ls hc hR hS hl hr) (fun q => k2 (fun z => q (by rw [ofI_0]; exact (ofI_le hx inR_0).mpr z)) p l e R s m args below meth c A H locs cells slots Z ls hc hR hS hl hr)
end PM
end
section
section PH
variable {D : va_G} {ad : Nat → Nat} {ca : Nat → ClassId} {sc : SC} {M : MI} {pc : Nat} {lv : List (Nat × Value)} {st : List Value} {h : Hp} {Q Q' : Option Value → Hp → Prop}
theorem up_eq (h : Hp) (k : Nat) (i v : Int) : up h k i v = fun k2 => if k2 = k then upf (h k) i v else h k2 := rfl
theorem HR_up {h : Hp} (hh : HR h) {k : Nat} {i v : Int} (hv : InL v ∧ (k ≠ 44 → InR v)) : HR (up h k i v) := by
  intro k2 j
  unfold up upf
  by_cases hk : k2 = k
  · subst hk
    simp only [if_true]
    by_cases hj : j = i
    · simp only [hj, if_true]; exact hv
    · simp only [hj, if_false]; exact hh k2 j
  · simp only [hk, if_false]; exact hh k2 j
theorem Cx.D1 {D : va_G} {ad : Nat → Nat} {ca : Nat → ClassId} {sc : SC} {M : MI} {p : Program} {R : Room} {s : State} {m : MethodId} {args : Array Value} {meth : Method} {c : Code} {A : Nat → Prop} {cells slots : Nat} (hc : Cx D ad ca sc M p R s m args meth c A cells slots) (h : Hp) : va_D A (wsH ad ca h) := wsH_D hc.2.2.2.2.2.2.2.2.2.2.2.2.1 hc.2.2.2.2.2.2.2.2.2.2.2.2.2.1
theorem P_getf {k ci j idx N : Nat} {C : String} {T : u_T} {fs : List Value} {v : Value} (hk : k < 46) (he : wE ad ca k (h k) = .inr (ci, fs)) (hcl : classes[ci]? = some (C, T, N)) (hin : ∀ w ∈ u_ws C T N, w ∈ TB) (hj : j < N) (hC : (T j).1 = C) (hv : fs[j]? = some v)
    (hw : Cond.fieldLink M.1 idx C (T j).2.1 (T j).2.2.1 ∈ TB) (hd : decode M.2.1 pc = .ok (.getfield idx, 3)) (kk : WP D ad ca sc M (pc + 3) lv (v :: st) h Q) : WP D ad ca sc M pc lv (.ref (ad k) :: st) h Q := by
  intro p l e R s m args below meth c A H locs cells slots Z ls hc hR hS hl hr
  refine va_get (D := D) (ci := ci) (v := v) (C := C) (T := T) (N := N) (fs := fs) hc.1 hc.2.1 hc.2.2.2.2.2.2.1 hin hc.2.2.2.1 hc.2.2.2.2.2.2.2.2.2.2.2.1 hR.1 k (by rw [wsH_at hk, he]) hcl j hj (hc.2.2.2.2.2.2.1 _ hw) (fun x hx => by rw [← hC]; exact hx) hv hd ?_
  exact kk p l e R s m args below meth c A H locs cells slots Z ls hc hR hS hl hr
theorem P_putf {k ci j idx N : Nat} {C : String} {T : u_T} {fs : List Value} {x : Int} {ty : FieldType} {ty0 : Nat → FieldType} (hk : k < 46) (he : wE ad ca k (h k) = .inr (ci, fs)) (he2 : (.inr (ci, fs.set j (vI x)) : va_E) = wE ad ca k (upf (h k) (j : Int) x)) (hcl : classes[ci]? = some (C, T, N)) (hin : ∀ w ∈ u_ws C T N, w ∈ TB) (hty : ∀ k, k < N → parseFieldDescriptor (T k).2.2.1 = some (ty0 k)) (hnm : ∀ a, a < N → ∀ b, b < N → a ≠ b → (T a).2.1 ≠ (T b).2.1) (hj : j < N) (hC : (T j).1 = C) (hfin : (T j).2.2.2 = false)
    (hd1 : parseFieldDescriptor (T j).2.2.1 = some ty) (hn : narrow ty (vI x) = vI x) (hfit : fits ty (vI x) = true) (hlen : j < fs.length) (h44 : k ≠ 44) (hx : InR x)
    (hw : Cond.fieldLink M.1 idx C (T j).2.1 (T j).2.2.1 ∈ TB) (hd : decode M.2.1 pc = .ok (.putfield idx, 3)) (kk : WP D ad ca sc M (pc + 3) lv st (up h k (j : Int) x) Q) : WP D ad ca sc M pc lv (vI x :: .ref (ad k) :: st) h Q := by
  intro p l e R s m args below meth c A H locs cells slots Z ls hc hR hS hl hr
  refine va_put (D := D) (ci := ci) (C := C) (T := T) (N := N) (fs := fs) (ty := ty) hc.1 hc.2.1 hc.2.2.2.2.2.2.1 hin ty0 hty hnm hc.2.2.2.1 hc.2.2.2.2.2.2.2.2.2.2.2.1 hR.1 (hc.D1 h) hS k (by rw [wsH_at hk, he]) hcl j hj (hc.2.2.2.2.2.2.1 _ hw) (fun x hx => by rw [← hC]; exact hx) hfin hd1 hn hfit hlen hd (fun H1 locs1 hP1 hD1 hS1 => ?_)
  rw [wsH_set he2] at hP1
  exact kk p l e R s m args below meth c A H1 locs1 cells slots Z ls hc ⟨hP1, HR_up hR.2 ⟨hx.toL, fun _ => hx⟩⟩ hS1 hl hr
theorem P_iald {k n : Nat} {i : Int} (hk : k < 46) (he : wE ad ca k (h k) = .inl (ca 0, aI n (h k))) (h44 : k ≠ 44) (hn : n ≤ 100000) (hd : decode M.2.1 pc = .ok (.iaload, 1)) (hi : 0 ≤ i ∧ i < n) (kk : InR (h k i) → WP D ad ca sc M (pc + 1) lv (vI (h k i) :: st) h Q) : WP D ad ca sc M pc lv (vI i :: .ref (ad k) :: st) h Q := by
  intro p l e R s m args below meth c A H locs cells slots Z ls hc hR hS hl hr
  obtain ⟨h1, h2⟩ := ofI_nat (n := n) hi.1 hi.2 hn
  refine va_iald hc.1 hc.2.1 hc.2.2.2.2.2.2.2.2.2.2.2.1 hR.1 k 0 (n := n) (f := fun j => Int32.ofInt (h k (j : Int))) (by rw [wsH_at hk, he]; rfl) rfl h1 hd ?_
  rw [h2]
  show W p l e R s m args below meth c H locs cells slots Z (F0 m (pc + 1) ls (Value.int (Int32.ofInt (h k ((i.toNat : Nat) : Int))) :: st))
  rw [Int.toNat_of_nonneg hi.1]
  exact kk ((hR.2 k i).2 h44) p l e R s m args below meth c A H locs cells slots Z ls hc hR hS hl hr
theorem P_zald {k n : Nat} {i : Int} (hk : k < 46) (he : wE ad ca k (h k) = .inl (ca 1, aI n (h k))) (h44 : k ≠ 44) (hn : n ≤ 100000) (hd : decode M.2.1 pc = .ok (.baload, 1)) (hi : 0 ≤ i ∧ i < n) (kk : InR (h k i) → WP D ad ca sc M (pc + 1) lv (vI (h k i) :: st) h Q) : WP D ad ca sc M pc lv (vI i :: .ref (ad k) :: st) h Q := by
  intro p l e R s m args below meth c A H locs cells slots Z ls hc hR hS hl hr
  obtain ⟨h1, h2⟩ := ofI_nat (n := n) hi.1 hi.2 hn
  refine va_zald hc.1 hc.2.1 hc.2.2.2.2.2.2.2.2.2.2.2.1 hR.1 k 1 (n := n) (f := fun j => Int32.ofInt (h k (j : Int))) (by rw [wsH_at hk, he]; rfl) rfl h1 hd ?_
  rw [h2]
  show W p l e R s m args below meth c H locs cells slots Z (F0 m (pc + 1) ls (Value.int (Int32.ofInt (h k ((i.toNat : Nat) : Int))) :: st))
  rw [Int.toNat_of_nonneg hi.1]
  exact kk ((hR.2 k i).2 h44) p l e R s m args below meth c A H locs cells slots Z ls hc hR hS hl hr
theorem P_lald {k n : Nat} {i : Int} (hk : k < 46) (he : wE ad ca k (h k) = .inl (ca 2, aL n (h k))) (hn : n ≤ 100000) (hd : decode M.2.1 pc = .ok (.laload, 1)) (hi : 0 ≤ i ∧ i < n) (kk : InL (h k i) → WP D ad ca sc M (pc + 1) lv (vL (h k i) :: st) h Q) : WP D ad ca sc M pc lv (vI i :: .ref (ad k) :: st) h Q := by
  intro p l e R s m args below meth c A H locs cells slots Z ls hc hR hS hl hr
  obtain ⟨h1, h2⟩ := ofI_nat (n := n) hi.1 hi.2 hn
  refine va_lald hc.1 hc.2.1 hc.2.2.2.2.2.2.2.2.2.2.2.1 hR.1 k 2 (n := n) (f := fun j => Int64.ofInt (h k (j : Int))) (by rw [wsH_at hk, he]; rfl) rfl h1 hd ?_
  rw [h2]
  show W p l e R s m args below meth c H locs cells slots Z (F0 m (pc + 1) ls (Value.long (Int64.ofInt (h k ((i.toNat : Nat) : Int))) :: st))
  rw [Int.toNat_of_nonneg hi.1]
  exact kk (hR.2 k i).1 p l e R s m args below meth c A H locs cells slots Z ls hc hR hS hl hr
theorem upd_upf (f : Int → Int) (n : Nat) {i x : Int} (h0 : 0 ≤ i) : ((n, .inl (upd (fun j => Int32.ofInt (f (j : Int))) i.toNat (Int32.ofInt x))) : vp_A) = aI n (upf f i x) := by
  unfold aI
  congr 2
  funext j
  unfold upd upf
  by_cases hj : j = i.toNat
  · have : (j : Int) = i := by omega
    simp [hj, Int.toNat_of_nonneg h0]
  · have : ¬ (j : Int) = i := by omega
    simp [hj, this]
theorem updL_upf (f : Int → Int) (n : Nat) {i x : Int} (h0 : 0 ≤ i) : ((n, .inr (.inl (vp_updL (fun j => Int64.ofInt (f (j : Int))) i.toNat (Int64.ofInt x)))) : vp_A) = aL n (upf f i x) := by
  unfold aL
  congr 3
  funext j
  unfold vp_updL upf
  by_cases hj : j = i.toNat
  · have : (j : Int) = i := by omega
    simp [hj, Int.toNat_of_nonneg h0]
  · have : ¬ (j : Int) = i := by omega
    simp [hj, this]
theorem P_iast {k n : Nat} {i x : Int} (hk : k < 46) (he : ∀ f, wE ad ca k f = .inl (ca 0, aI n f)) (h44 : k ≠ 44) (hn : n ≤ 100000) (hd : decode M.2.1 pc = .ok (.iastore, 1)) (hi : 0 ≤ i ∧ i < n) (hx : InR x) (kk : WP D ad ca sc M (pc + 1) lv st (up h k i x) Q) : WP D ad ca sc M pc lv (vI x :: vI i :: .ref (ad k) :: st) h Q := by
  intro p l e R s m args below meth c A H locs cells slots Z ls hc hR hS hl hr
  obtain ⟨h1, h2⟩ := ofI_nat (n := n) hi.1 hi.2 hn
  refine va_iast hc.1 hc.2.1 hc.2.2.2.2.2.2.2.2.2.2.2.1 hR.1 (hc.D1 h) hS k 0 (n := n) (f := fun j => Int32.ofInt (h k (j : Int))) (by rw [wsH_at hk, he]; rfl) rfl h1 hd (fun H1 locs1 hP1 hD1 hS1 => ?_)
  rw [h2, upd_upf (h k) n hi.1, wsH_set (he _).symm] at hP1
  exact kk p l e R s m args below meth c A H1 locs1 cells slots Z ls hc ⟨hP1, HR_up hR.2 ⟨hx.toL, fun _ => hx⟩⟩ hS1 hl hr
theorem nar_z {x : Int} (hx : x = 0 ∨ x = 1) : vp_nar .boolean (Int32.ofInt x) = Int32.ofInt x := by
  rcases hx with rfl | rfl <;> decide
theorem P_zast {k n : Nat} {i x : Int} (hk : k < 46) (he : ∀ f, wE ad ca k f = .inl (ca 1, aI n f)) (h44 : k ≠ 44) (hn : n ≤ 100000) (hd : decode M.2.1 pc = .ok (.bastore, 1)) (hi : 0 ≤ i ∧ i < n) (hx : x = 0 ∨ x = 1) (kk : WP D ad ca sc M (pc + 1) lv st (up h k i x) Q) : WP D ad ca sc M pc lv (vI x :: vI i :: .ref (ad k) :: st) h Q := by
  intro p l e R s m args below meth c A H locs cells slots Z ls hc hR hS hl hr
  obtain ⟨h1, h2⟩ := ofI_nat (n := n) hi.1 hi.2 hn
  refine va_zast hc.1 hc.2.1 hc.2.2.2.2.2.2.2.2.2.2.2.1 hR.1 (hc.D1 h) hS k 1 (n := n) (f := fun j => Int32.ofInt (h k (j : Int))) (by rw [wsH_at hk, he]; rfl) rfl h1 hd (fun H1 locs1 hP1 hD1 hS1 => ?_)
  rw [h2, nar_z hx, upd_upf (h k) n hi.1, wsH_set (he _).symm] at hP1
  have hxr : InR x := by unfold InR; omega
  exact kk p l e R s m args below meth c A H1 locs1 cells slots Z ls hc ⟨hP1, HR_up hR.2 ⟨hxr.toL, fun _ => hxr⟩⟩ hS1 hl hr
theorem P_last {k n : Nat} {i x : Int} (hk : k < 46) (he : ∀ f, wE ad ca k f = .inl (ca 2, aL n f)) (h44 : k = 44) (hn : n ≤ 100000) (hd : decode M.2.1 pc = .ok (.lastore, 1)) (hi : 0 ≤ i ∧ i < n) (hx : InL x) (kk : WP D ad ca sc M (pc + 1) lv st (up h k i x) Q) : WP D ad ca sc M pc lv (vL x :: vI i :: .ref (ad k) :: st) h Q := by
  intro p l e R s m args below meth c A H locs cells slots Z ls hc hR hS hl hr
  obtain ⟨h1, h2⟩ := ofI_nat (n := n) hi.1 hi.2 hn
  refine va_last hc.1 hc.2.1 hc.2.2.2.2.2.2.2.2.2.2.2.1 hR.1 (hc.D1 h) hS k 2 (n := n) (f := fun j => Int64.ofInt (h k (j : Int))) (by rw [wsH_at hk, he]; rfl) rfl h1 hd (fun H1 locs1 hP1 hD1 hS1 => ?_)
  rw [h2, updL_upf (h k) n hi.1, wsH_set (he _).symm] at hP1
  exact kk p l e R s m args below meth c A H1 locs1 cells slots Z ls hc ⟨hP1, HR_up hR.2 ⟨hx, fun q => absurd h44 q⟩⟩ hS1 hl hr
theorem P_sld {b L : Nat} {xs : Nat → Int32} {i : Int} (hsc : sc = some (b, L, xs)) (hL : L ≤ 100000) (hd : decode M.2.1 pc = .ok (.iaload, 1)) (hi : 0 ≤ i ∧ i < L) (kk : WP D ad ca sc M (pc + 1) lv (vI (xs i.toNat).toInt :: st) h Q) : WP D ad ca sc M pc lv (vI i :: .ref b :: st) h Q := by
  intro p l e R s m args below meth c A H locs cells slots Z ls hc hR hS hl hr
  obtain ⟨h1, h2⟩ := ofI_nat (n := L) hi.1 hi.2 hL
  obtain ⟨x1, x2, x3⟩ := hc.2.2.2.2.2.2.2.2.2.2.2.2.2.2 b L xs hsc
  refine va_sld hc.1 hc.2.1 x1 x2 x3 hS h1 hd ?_
  rw [h2, ← Int32.ofInt_toInt (xs i.toNat)]
  exact kk p l e R s m args below meth c A H locs cells slots Z ls hc hR hS hl hr
theorem P_slen {b L : Nat} {xs : Nat → Int32} (hsc : sc = some (b, L, xs)) (hd : decode M.2.1 pc = .ok (.arraylength, 1)) (kk : WP D ad ca sc M (pc + 1) lv (vI (L : Int) :: st) h Q) : WP D ad ca sc M pc lv (.ref b :: st) h Q := by
  intro p l e R s m args below meth c A H locs cells slots Z ls hc hR hS hl hr
  obtain ⟨x1, x2, x3⟩ := hc.2.2.2.2.2.2.2.2.2.2.2.2.2.2 b L xs hsc
  refine va_slen hc.1 hc.2.1 x1 x2 x3 hS hd ?_
  exact kk p l e R s m args below meth c A H locs cells slots Z ls hc hR hS hl hr
theorem P_iret {x : Int} (hd : decode M.2.1 pc = .ok (.ireturn, 1)) (ht : M.2.2.2.2.2 = some .int) (k : Q (some (vI x)) h) : WP D ad ca sc M pc lv [vI x] h Q :=
  fun p l e R s m args below meth c A H locs cells slots Z ls hc hR hS hl hr => hr (some (vI x)) h H locs ls pc k hR hS (Or.inl ⟨_, .int, rfl, hd, ht, rfl⟩)
theorem P_zret {x : Int} (hd : decode M.2.1 pc = .ok (.ireturn, 1)) (ht : M.2.2.2.2.2 = some .boolean) (hx : x = 0 ∨ x = 1) (k : Q (some (vI x)) h) : WP D ad ca sc M pc lv [vI x] h Q :=
  fun p l e R s m args below meth c A H locs cells slots Z ls hc hR hS hl hr => hr (some (vI x)) h H locs ls pc k hR hS (Or.inl ⟨_, .boolean, rfl, hd, ht, by rcases hx with rfl | rfl <;> decide⟩)
theorem P_lret {x : Int} (hd : decode M.2.1 pc = .ok (.lreturn, 1)) (ht : M.2.2.2.2.2 = some .long) (k : Q (some (vL x)) h) : WP D ad ca sc M pc lv [vL x] h Q :=
  fun p l e R s m args below meth c A H locs cells slots Z ls hc hR hS hl hr => hr (some (vL x)) h H locs ls pc k hR hS (Or.inr (Or.inl ⟨_, rfl, hd, ht⟩))
theorem P_vret (hd : decode M.2.1 pc = .ok (.return_, 1)) (ht : M.2.2.2.2.2 = none) (k : Q none h) : WP D ad ca sc M pc lv [] h Q :=
  fun p l e R s m args below meth c A H locs cells slots Z ls hc hR hS hl hr => hr none h H locs ls pc k hR hS (Or.inr (Or.inr ⟨rfl, hd, ht⟩))
/-! long compares, division by a written number, switches -/
def lc (x y : Int) : Int := if y < x then 1 else if x = y then 0 else -1
theorem lc_I {x y : Int} (hx : InL x) (hy : InL y) : lg_cmp (Int64.ofInt x) (Int64.ofInt y) = Int32.ofInt (lc x y) := by
  unfold lg_cmp lc
  have e1 : (Int64.ofInt x > Int64.ofInt y) ↔ y < x := by
    show Int64.ofInt y < Int64.ofInt x ↔ _
    rw [Int64.lt_iff_toInt_lt, toInt_L hx, toInt_L hy]
  have e2 : (Int64.ofInt x = Int64.ofInt y) ↔ x = y := by
    rw [← Int64.toInt_inj, toInt_L hx, toInt_L hy]
  by_cases h1 : y < x
  · rw [if_pos (e1.mpr h1), if_pos h1]; rfl
  · rw [if_neg (fun z => h1 (e1.mp z)), if_neg h1]
    by_cases h2 : x = y
    · rw [if_pos (e2.mpr h2), if_pos h2]; rfl
    · rw [if_neg (fun z => h2 (e2.mp z)), if_neg h2]; rfl
theorem lc_R (x y : Int) : InR (lc x y) := by
  unfold lc InR; split <;> (try split) <;> omega
theorem P_lcmp {x y : Int} (hx : InL x) (hy : InL y) (hd : decode M.2.1 pc = .ok (.lcmp, 1)) (k : WP D ad ca sc M (pc + 1) lv (vI (lc x y) :: st) h Q) : WP D ad ca sc M pc lv (vL y :: vL x :: st) h Q :=
  fun p l e R s m args below meth c A H locs cells slots Z ls hc hR hS hl hr => W.lcmp hc.1 hc.2.1 hd (by rw [lc_I hx hy]; exact k p l e R s m args below meth c A H locs cells slots Z ls hc hR hS hl hr)
theorem lc_lt {x y : Int} : lc x y < 0 ↔ x < y := by unfold lc; split <;> (try split) <;> omega
theorem lc_le {x y : Int} : lc x y ≤ 0 ↔ x ≤ y := by unfold lc; split <;> (try split) <;> omega
theorem lc_gt {x y : Int} : 0 < lc x y ↔ y < x := by unfold lc; split <;> (try split) <;> omega
theorem lc_ge {x y : Int} : 0 ≤ lc x y ↔ y ≤ x := by unfold lc; split <;> (try split) <;> omega
theorem ofL_div {x y : Int} (hx : 0 ≤ x ∧ InL x) (hy : 0 < y ∧ InL y) : Int64.ofInt x / Int64.ofInt y = Int64.ofInt (x / y) := by
  rw [← Int64.toInt_inj]
  have hq : InL (x / y) := by
    have h1 : 0 ≤ x / y := Int.ediv_nonneg hx.1 (by omega)
    have h2 : x / y ≤ x := Int.ediv_le_self y hx.1
    unfold InL at *
    omega
  rw [Int64.toInt_div, toInt_L hx.2, toInt_L hy.2, toInt_L hq, Int.tdiv_eq_ediv_of_nonneg hx.1]
  unfold InL at hq
  apply Int.bmod_eq_of_le <;> simp <;> omega
theorem P_ldiv {x y : Int} (hx : 0 ≤ x ∧ InL x) (hy : 0 < y ∧ InL y) (hd : decode M.2.1 pc = .ok (.ldiv, 1)) (k : WP D ad ca sc M (pc + 1) lv (vL (x / y) :: st) h Q) : WP D ad ca sc M pc lv (vL y :: vL x :: st) h Q :=
  fun p l e R s m args below meth c A H locs cells slots Z ls hc hR hS hl hr => lv_ldiv hc.1 hc.2.1 hd (fun z => by
    have : y = 0 := by rw [← toInt_L hy.2, z]; rfl
    omega) (by rw [ofL_div hx hy]; exact k p l e R s m args below meth c A H locs cells slots Z ls hc hR hS hl hr)
theorem P_lrem {x y : Int} (hx : 0 ≤ x ∧ InL x) (hy : 0 < y ∧ InL y) (hd : decode M.2.1 pc = .ok (.lrem, 1)) (k : WP D ad ca sc M (pc + 1) lv (vL (x % y) :: st) h Q) : WP D ad ca sc M pc lv (vL y :: vL x :: st) h Q :=
  fun p l e R s m args below meth c A H locs cells slots Z ls hc hR hS hl hr => lv_lrem hc.1 hc.2.1 hd (fun z => by
    have : y = 0 := by rw [← toInt_L hy.2, z]; rfl
    omega) (by
      rw [ofL_div hx hy, ofL_mul, ofL_sub]
      have e9 : x - x / y * y = x % y := by have := Int.emod_def x y; rw [Int.mul_comm] at this; omega
      rw [e9]
      exact k p l e R s m args below meth c A H locs cells slots Z ls hc hR hS hl hr)
theorem P_tabOut {dflt lo hi : Int} {offs : Array Int} {len : Nat} {x : Int} (tgt : Nat) (hd : decode M.2.1 pc = .ok (.tableswitch dflt lo hi offs, len)) (hx : InR x) (ho : x < lo ∨ hi < x) (ht : (pc : Int) + dflt = (tgt : Int)) (k : WP D ad ca sc M tgt lv st h Q) : WP D ad ca sc M pc lv (vI x :: st) h Q :=
  fun p l e R s m args below meth c A H locs cells slots Z ls hc hR hS hl hr => lv_tableOut hc.1 hc.2.1 hd (by rw [toInt_I hx]; exact ho) ht (k p l e R s m args below meth c A H locs cells slots Z ls hc hR hS hl hr)
theorem P_tabIn {dflt lo hi : Int} {offs : Array Int} {len : Nat} {x : Int} {off : Int} (tgt : Nat) (v : Int) (hd : decode M.2.1 pc = .ok (.tableswitch dflt lo hi offs, len)) (hx : x = v) (hv : InR v) (h1 : ¬ v < lo) (h2 : ¬ hi < v) (ho : offs[(v - lo).toNat]? = some off) (ht : (pc : Int) + off = (tgt : Int)) (k : WP D ad ca sc M tgt lv st h Q) : WP D ad ca sc M pc lv (vI x :: st) h Q := by
  subst hx
  exact fun p l e R s m args below meth c A H locs cells slots Z ls hc hR hS hl hr => lv_tableIn hc.1 hc.2.1 hd (by rw [toInt_I hv]; exact h1) (by rw [toInt_I hv]; exact h2) (by rw [toInt_I hv]; exact ho) ht (k p l e R s m args below meth c A H locs cells slots Z ls hc hR hS hl hr)
end PH
end
section
/-! calls: a method's contract out of its WP, and a call out of the contract -/
def adS (ad : Nat → Nat) : Nat → Prop := fun q => ∃ k, k < 46 ∧ q = ad k
def wsM (y : MethodName) (Mc : MI) : List Cond := .code y Mc.2.1 Mc.2.2.1 Mc.2.2.2.2.2 :: TB
def rmM (Mc : MI) : Room := { frames := Mc.2.2.2.1, cells := 0, slots := 0, locals := Mc.2.2.2.2.1 }
def QcM (D : va_G) (ad : Nat → Nat) (ca : Nat → ClassId) (Q : Option Value → Hp → Prop) : Array Value → State → Outcome → State → Prop := fun _ st o t => (∃ (v : Option Value) (h' : Hp), o = .returned v ∧ Q v h' ∧ Rl D ad ca h' t.heap) ∧ va_F (adS ad) st t
def PcM (D : va_G) (ad : Nat → Nat) (ca : Nat → ClassId) (av : List Value) (h : Hp) : Array Value → State → Prop := va_Pc av (fun U => Rl D ad ca h U.heap ∧ va_K D classes (tysC ca) U)
theorem met_of {D : va_G} {ad : Nat → Nat} {ca : Nat → ClassId} {Mc : MI} {y : MethodName} {av : List Value} {h : Hp} {Q : Option Value → Hp → Prop} (l : Launch) (hy : plainName y.cls = true) (hyc : y.cls = Mc.1) (hav : (lg_sl av).length ≤ Mc.2.2.1) (hinj : ∀ i j, i < 46 → j < 46 → ad i = ad j → i = j)
    (hw : WP D ad ca none Mc 0 (lv_args 0 av) [] h Q) : Met l y (wsM y Mc) (rmM Mc) (PcM D ad ca av h) (QcM D ad ca Q) 0 0 (adS ad) := by
  refine Met.ofW (cc := Mc.2.1) (maxL := Mc.2.2.1) (ret := Mc.2.2.2.2.2) hy rfl ?_
  intro p e s m args below meth c s₁ B hml hv
  obtain ⟨rfl, hR, hK⟩ := hv
  have hts := atoms_spec (ws := wsM y Mc) B.pre
  have hown : s.vm.findClass Mc.1 = some m.cls := by rw [← hyc]; exact findClass_of_methodNamed B.named
  have hl := lv_entry av (n := Mc.2.2.1) hav
  rw [lg_entry_eq]
  refine hw p l e _ s m av.toArray below meth c (adS ad) s.heap [] 0 0 _ _ ⟨B.exec, B.bytes, hml, hown, B.returns, B.notSynchronized, fun w hw => hts w (List.mem_cons_of_mem _ hw), Nat.le_refl _, Nat.le_refl _, Nat.zero_le _, Nat.zero_le _, hK, hinj, fun k hk => ⟨k, hk, rfl⟩, fun b L xs q => by cases q⟩ hR va_S.rf hl ?_
  intro v h' H' locs' ls' pc' hq hR' hS' hrt
  rcases hrt with ⟨x, ty, rfl, hd, ht, hn⟩ | ⟨x, rfl, hd, ht⟩ | ⟨rfl, hd, ht⟩
  · exact W.zret (hlocks := B.notSynchronized) B.exec B.bytes (B.returns.trans ht) hn (fun t ht hW => ⟨⟨_, h', rfl, hq, by rw [ht]; exact hR'⟩, hS'.F ht⟩) hS'.2.2 hd
  · exact W.lret (hlocks := B.notSynchronized) B.exec B.bytes (B.returns.trans ht) (fun t ht hW => ⟨⟨_, h', rfl, hq, by rw [ht]; exact hR'⟩, hS'.F ht⟩) hS'.2.2 hd
  · exact W.vret (hlocks := B.notSynchronized) B.exec B.bytes (B.returns.trans ht) (fun t ht hW => ⟨⟨_, h', rfl, hq, by rw [ht]; exact hR'⟩, hS'.F ht⟩) hS'.2.2 hd
section PC
variable {D : va_G} {ad : Nat → Nat} {ca : Nat → ClassId} {sc : SC} {M : MI} {pc : Nat} {lv : List (Nat × Value)} {st : List Value} {h : Hp} {Q Q' : Option Value → Hp → Prop}
theorem PcM_blind (av : List Value) (h : Hp) : FrameBlind (PcM D ad ca av h) := by
  intro a U g mk q
  obtain ⟨q0, qP, qK⟩ := q
  exact ⟨q0, qP, va_K.moved (u := U) (U := U.calling g mk a) (Vm.Alike.refl U.vm) qK⟩
/-- behind a call -/
theorem P_back {p : Program} {l : Launch} {e : Env} {R : Room} {s : State} {m : MethodId} {args : Array Value} {below : List Frame} {meth : Method} {c : Code} {A : Nat → Prop} {H H0 : Heap} {locs : List Loc} {cells slots : Nat} {Z : State → Prop} {ls : Array Slot} {rest st0 : List Value} {a : Array Value}
    (hr : va_Run p l e R s m args below meth c H locs cells slots 0 0 (F0 m pc ls st0) rest (QcM D ad ca Q a) (adS ad)) (hS : va_S A H0 H locs) (hA : ∀ k, k < 46 → A (ad k))
    (kk : ∀ (v : Option Value) (h' : Hp) (H1 : Heap) (locs1 : List Loc), Q v h' → Rl D ad ca h' H1 → va_S A H0 H1 locs1 → W p l e R s m args below meth c H1 locs1 cells slots Z (F0 m (pc + 3) ls (v.toList ++ rest))) : W p l e R s m args below meth c H locs cells slots Z (F0 m pc ls st0) := by
  intro T hT X
  obtain ⟨v, st₀, t, T', L, h0, X', hL, e1, e2, ⟨⟨v2, h', hv, hq, hR⟩, hz, hk⟩, st⟩ := hr T hT X
  cases hv
  rw [h0] at hz hk
  have hAA : ∀ q, adS ad q → A q := fun q ⟨k, hk, e⟩ => by rw [e]; exact hA k hk
  obtain ⟨t2, a1, b1⟩ := kk v h' T'.heap (locs ++ L) hq (by rw [e1]; exact hR)
    ⟨Nat.le_trans hS.1 (by rw [e1]; exact hz), fun q h1 h2 => by rw [e1, hk q (Nat.lt_of_lt_of_le h1 hS.1) (fun z => h2 (hAA q z))]; exact hS.2.1 q h1 h2, fun q hq => by
      rcases List.mem_append.mp hq with h | h
      · exact hS.2.2 q h
      · exact hAA _ (hL q h)⟩ T' rfl X'
  exact ⟨t2, st t2 a1, b1⟩
theorem good_V {own C : String} {idx : Nat} {y : MethodName} {Mc : MI} (h1 : Cond.methodLink own idx y ∈ TB) (h2 : Cond.instanceMethod y ∈ TB) (h3 : Cond.selects C y y ∈ TB) (h4 : Cond.initialized C ∈ TB) (h5 : Cond.code y Mc.2.1 Mc.2.2.1 Mc.2.2.2.2.2 ∈ TB) : GoodIn TB (wsV own idx C y (wsM y Mc)) := by
  intro w hw
  unfold wsV wsM at hw
  refine TB_good w ?_
  simp only [List.cons_append, List.nil_append, List.mem_cons] at hw
  rcases hw with rfl | rfl | rfl | rfl | rfl | hw
  · exact h1
  · exact h2
  · exact h3
  · exact h4
  · exact h5
  · exact hw
theorem good_S {own : String} {idx : Nat} {y : MethodName} {Mc : MI} (h1 : Cond.methodLink own idx y ∈ TB) (h2 : Cond.static y ∈ TB) (h4 : Cond.initialized y.cls ∈ TB) (h5 : Cond.code y Mc.2.1 Mc.2.2.1 Mc.2.2.2.2.2 ∈ TB) : GoodIn TB (va_wsS own idx y (wsM y Mc)) := by
  intro w hw
  unfold va_wsS wsM at hw
  refine TB_good w ?_
  simp only [List.cons_append, List.nil_append, List.mem_cons] at hw
  rcases hw with rfl | rfl | rfl | rfl | hw
  · exact h1
  · exact h2
  · exact h4
  · exact h5
  · exact hw
theorem P_invV {k ci idx n N : Nat} {T : u_T} {fs : List Value} {Mc : MI} {y : MethodName} {As rest : List Value} (hk : k < 46) (he : wE ad ca k (h k) = .inr (ci, fs)) (hcl : classes[ci]? = some (y.cls, T, N)) (g : GoodIn TB (wsV M.1 idx y.cls y (wsM y Mc)))
    (hy : plainName y.cls = true ∧ y.cls = Mc.1) (hd2 : y.cls = y.cls ∧ y.cls ≠ "java/lang/invoke/MethodHandle" ∧ y.cls ≠ "java/lang/invoke/VarHandle" ∧ (parseMethodDescriptor y.desc).map (fun d => d.parameters.length) = some n) (hroom : Mc.2.2.2.1 + 1 ≤ M.2.2.2.1 ∧ 8 + (Mc.2.2.1 + 11) + Mc.2.2.2.2.1 ≤ M.2.2.2.2.1)
    (hn : As.length = n) (hst : st = As.reverse ++ .ref (ad k) :: rest) (hrest : (rest.map fun v => v.category).sum ≤ 8) (hav : (lg_sl (.ref (ad k) :: As)).length ≤ Mc.2.2.1)
    (hd : decode M.2.1 pc = .ok (.invokevirtual idx, 3)) (kk : WP D ad ca none Mc 0 (lv_args 0 (.ref (ad k) :: As)) [] h (fun v h' => WP D ad ca sc M (pc + 3) lv (v.toList ++ rest) h' Q)) : WP D ad ca sc M pc lv st h Q := by
  subst hst
  intro p l e R s m args below meth c A H locs cells slots Z ls hc hR hS hl hr
  have hK := hc.2.2.2.2.2.2.2.2.2.2.2.1
  refine P_back (va_runV (cc := M.2.1) (nL := M.2.2.1) (Ts := TB) (own := M.1) (As := As) (rest := rest) (b := ad k) (C := y.cls) (n := n) (bytes := Mc.2.1) (maxL := Mc.2.2.1) (ret := Mc.2.2.2.2.2) ⟨hc.1, hc.2.1, hc.2.2.1, hc.2.2.2.1, hc.2.2.2.2.2.2.1⟩ (met_of l hy.1 hy.2 hav hc.2.2.2.2.2.2.2.2.2.2.2.2.1 kk) (cwV n hc.2.2.2.2.2.2.1 g rfl rfl rfl hd2 ⟨Nat.le_trans hroom.1 hc.2.2.2.2.2.2.2.1, Nat.le_trans hroom.2 hc.2.2.2.2.2.2.2.2.1⟩) ⟨PcM_blind _ _, va_recv hK hR.1 hcl (by rw [wsH_at hk, he]), fun U hU hW => ⟨rfl, by rw [hU]; exact hR, va_K.moved hW.alike hK⟩⟩ rfl hn hl.1 rfl (lv_room hrest) hd ⟨hc.2.2.2.2.2.2.2.2.2.1, hc.2.2.2.2.2.2.2.2.2.2.1⟩) hS hc.2.2.2.2.2.2.2.2.2.2.2.2.2.1 ?_
  intro v h' H1 locs1 hq hR1 hS1
  exact hq p l e R s m args below meth c A H1 locs1 cells slots Z ls hc hR1 hS1 hl hr
theorem P_invS {idx n : Nat} {Mc : MI} {y : MethodName} {As rest : List Value} (g : GoodIn TB (va_wsS M.1 idx y (wsM y Mc)))
    (hy : plainName y.cls = true ∧ y.cls = Mc.1) (hd2 : y.cls ≠ "java/lang/invoke/MethodHandle" ∧ y.cls ≠ "java/lang/invoke/VarHandle" ∧ (parseMethodDescriptor y.desc).map (fun d => d.parameters.length) = some n) (hroom : Mc.2.2.2.1 + 1 ≤ M.2.2.2.1 ∧ 8 + (Mc.2.2.1 + 11) + Mc.2.2.2.2.1 ≤ M.2.2.2.2.1)
    (hn : As.length = n) (hst : st = As.reverse ++ rest) (hrest : (rest.map fun v => v.category).sum ≤ 8) (hav : (lg_sl As).length ≤ Mc.2.2.1)
    (hd : decode M.2.1 pc = .ok (.invokestatic idx, 3)) (kk : WP D ad ca none Mc 0 (lv_args 0 As) [] h (fun v h' => WP D ad ca sc M (pc + 3) lv (v.toList ++ rest) h' Q)) : WP D ad ca sc M pc lv st h Q := by
  subst hst
  intro p l e R s m args below meth c A H locs cells slots Z ls hc hR hS hl hr
  have hK := hc.2.2.2.2.2.2.2.2.2.2.2.1
  refine P_back (va_runS (cc := M.2.1) (nL := M.2.2.1) (Ts := TB) (own := M.1) (As := As) (rest := rest) (n := n) (bytes := Mc.2.1) (maxL := Mc.2.2.1) (ret := Mc.2.2.2.2.2) ⟨hc.1, hc.2.1, hc.2.2.1, hc.2.2.2.1, hc.2.2.2.2.2.2.1⟩ (met_of l hy.1 hy.2 hav hc.2.2.2.2.2.2.2.2.2.2.2.2.1 kk) (va_cwS n hc.2.2.2.2.2.2.1 g rfl rfl rfl hd2 ⟨Nat.le_trans hroom.1 hc.2.2.2.2.2.2.2.1, Nat.le_trans hroom.2 hc.2.2.2.2.2.2.2.2.1⟩) ⟨PcM_blind _ _, fun U hU hW => ⟨rfl, by rw [hU]; exact hR, va_K.moved hW.alike hK⟩⟩ rfl hn hl.1 rfl (lv_room hrest) hd ⟨hc.2.2.2.2.2.2.2.2.2.1, hc.2.2.2.2.2.2.2.2.2.2.1⟩) hS hc.2.2.2.2.2.2.2.2.2.2.2.2.2.1 ?_
  intro v h' H1 locs1 hq hR1 hS1
  exact hq p l e R s m args below meth c A H1 locs1 cells slots Z ls hc hR1 hS1 hl hr
/-! what a caller takes of an answer -/
def RI (K : Int → Hp → Prop) : Option Value → Hp → Prop := fun v h' => ∃ r : Int, v = some (vI r) ∧ InR r ∧ K r h'
def RL (K : Int → Hp → Prop) : Option Value → Hp → Prop := fun v h' => ∃ r : Int, v = some (vL r) ∧ InL r ∧ K r h'
def RV (K : Hp → Prop) : Option Value → Hp → Prop := fun v h' => v = none ∧ K h'
theorem P_contI {rest : List Value} (v : Option Value) (h' : Hp) {K : Int → Hp → Prop} (hk : ∀ r h', InR r → K r h' → WP D ad ca sc M pc lv (vI r :: rest) h' Q) (q : RI K v h') : WP D ad ca sc M pc lv (v.toList ++ rest) h' Q := by
  obtain ⟨r, rfl, hr, q⟩ := q
  exact hk r h' hr q
theorem P_contL {rest : List Value} (v : Option Value) (h' : Hp) {K : Int → Hp → Prop} (hk : ∀ r h', InL r → K r h' → WP D ad ca sc M pc lv (vL r :: rest) h' Q) (q : RL K v h') : WP D ad ca sc M pc lv (v.toList ++ rest) h' Q := by
  obtain ⟨r, rfl, hr, q⟩ := q
  exact hk r h' hr q
theorem P_contV {rest : List Value} (v : Option Value) (h' : Hp) {K : Hp → Prop} (hk : ∀ h', K h' → WP D ad ca sc M pc lv rest h' Q) (q : RV K v h') : WP D ad ca sc M pc lv (v.toList ++ rest) h' Q := by
  obtain ⟨rfl, q⟩ := q
  exact hk h' q
end PC
end
section
theorem tw_0 : Cond.selects "MountainWatch" ⟨"MountainWatch", "isDay", "(I)Z"⟩ ⟨"MountainWatch", "isDay", "(I)Z"⟩ ∈ TB := TB_mem 0 (by decide +kernel) (by decide +kernel)
theorem tw_1 : Cond.selects "MountainWatch" ⟨"MountainWatch", "measured", "(II)I"⟩ ⟨"MountainWatch", "measured", "(II)I"⟩ ∈ TB := TB_mem 1 (by decide +kernel) (by decide +kernel)
theorem tw_2 : Cond.selects "MountainWatch" ⟨"MountainWatch", "holdsTrue", "(II)Z"⟩ ⟨"MountainWatch", "holdsTrue", "(II)Z"⟩ ∈ TB := TB_mem 2 (by decide +kernel) (by decide +kernel)
theorem tw_3 : Cond.selects "MountainWatch" ⟨"MountainWatch", "endToday", "()V"⟩ ⟨"MountainWatch", "endToday", "()V"⟩ ∈ TB := TB_mem 3 (by decide +kernel) (by decide +kernel)
theorem tw_4 : Cond.selects "MountainWatch" ⟨"MountainWatch", "wantedToday", "()I"⟩ ⟨"MountainWatch", "wantedToday", "()I"⟩ ∈ TB := TB_mem 4 (by decide +kernel) (by decide +kernel)
theorem tw_5 : Cond.selects "MountainWatch" ⟨"MountainWatch", "heldToday", "()I"⟩ ⟨"MountainWatch", "heldToday", "()I"⟩ ∈ TB := TB_mem 5 (by decide +kernel) (by decide +kernel)
theorem tw_6 : Cond.selects "MountainWatch" ⟨"MountainWatch", "reasonToRaise", "(I)I"⟩ ⟨"MountainWatch", "reasonToRaise", "(I)I"⟩ ∈ TB := TB_mem 6 (by decide +kernel) (by decide +kernel)
theorem tw_7 : Cond.selects "MountainWatch" ⟨"MountainWatch", "setLevel", "(II)I"⟩ ⟨"MountainWatch", "setLevel", "(II)I"⟩ ∈ TB := TB_mem 7 (by decide +kernel) (by decide +kernel)
theorem tw_8 : Cond.selects "MountainWatchModel" ⟨"MountainWatchModel", "isShake", "(I)Z"⟩ ⟨"MountainWatchModel", "isShake", "(I)Z"⟩ ∈ TB := TB_mem 8 (by decide +kernel) (by decide +kernel)
theorem tw_9 : Cond.selects "MountainWatchModel" ⟨"MountainWatchModel", "mark", "()V"⟩ ⟨"MountainWatchModel", "mark", "()V"⟩ ∈ TB := TB_mem 9 (by decide +kernel) (by decide +kernel)
theorem tw_10 : Cond.selects "MountainWatchModel" ⟨"MountainWatchModel", "areAlike", "(II)Z"⟩ ⟨"MountainWatchModel", "areAlike", "(II)Z"⟩ ∈ TB := TB_mem 10 (by decide +kernel) (by decide +kernel)
theorem tw_11 : Cond.selects "MountainWatchModel" ⟨"MountainWatchModel", "product", "(II)J"⟩ ⟨"MountainWatchModel", "product", "(II)J"⟩ ∈ TB := TB_mem 11 (by decide +kernel) (by decide +kernel)
theorem tw_12 : Cond.selects "MountainWatchModel" ⟨"MountainWatchModel", "kindOf", "(I)I"⟩ ⟨"MountainWatchModel", "kindOf", "(I)I"⟩ ∈ TB := TB_mem 12 (by decide +kernel) (by decide +kernel)
theorem tw_13 : Cond.selects "MountainWatchModel" ⟨"MountainWatchModel", "isDay", "(I)Z"⟩ ⟨"MountainWatchModel", "isDay", "(I)Z"⟩ ∈ TB := TB_mem 13 (by decide +kernel) (by decide +kernel)
theorem tw_14 : Cond.selects "MountainWatchModel" ⟨"MountainWatchModel", "tiltDay", "(I)I"⟩ ⟨"MountainWatchModel", "tiltDay", "(I)I"⟩ ∈ TB := TB_mem 14 (by decide +kernel) (by decide +kernel)
theorem tw_15 : Cond.selects "MountainWatchModel" ⟨"MountainWatchModel", "isLaw", "(I)Z"⟩ ⟨"MountainWatchModel", "isLaw", "(I)Z"⟩ ∈ TB := TB_mem 15 (by decide +kernel) (by decide +kernel)
theorem tw_16 : Cond.selects "MountainWatchModel" ⟨"MountainWatchModel", "measureOf", "(II)I"⟩ ⟨"MountainWatchModel", "measureOf", "(II)I"⟩ ∈ TB := TB_mem 16 (by decide +kernel) (by decide +kernel)
theorem tw_17 : Cond.selects "MountainWatchModel" ⟨"MountainWatchModel", "within", "(III)I"⟩ ⟨"MountainWatchModel", "within", "(III)I"⟩ ∈ TB := TB_mem 17 (by decide +kernel) (by decide +kernel)
theorem tw_18 : Cond.selects "MountainWatchModel" ⟨"MountainWatchModel", "holdsOn", "(II)Z"⟩ ⟨"MountainWatchModel", "holdsOn", "(II)Z"⟩ ∈ TB := TB_mem 18 (by decide +kernel) (by decide +kernel)
theorem tw_19 : Cond.selects "MountainWatchModel" ⟨"MountainWatchModel", "wanted", "()I"⟩ ⟨"MountainWatchModel", "wanted", "()I"⟩ ∈ TB := TB_mem 19 (by decide +kernel) (by decide +kernel)
theorem tw_20 : Cond.selects "MountainWatchModel" ⟨"MountainWatchModel", "holdNow", "()I"⟩ ⟨"MountainWatchModel", "holdNow", "()I"⟩ ∈ TB := TB_mem 20 (by decide +kernel) (by decide +kernel)
theorem tw_21 : Cond.selects "MountainWatchModel" ⟨"MountainWatchModel", "turns", "(II)I"⟩ ⟨"MountainWatchModel", "turns", "(II)I"⟩ ∈ TB := TB_mem 21 (by decide +kernel) (by decide +kernel)
theorem tw_22 : Cond.selects "MountainWatchModel" ⟨"MountainWatchModel", "tells", "(IIII)V"⟩ ⟨"MountainWatchModel", "tells", "(IIII)V"⟩ ∈ TB := TB_mem 22 (by decide +kernel) (by decide +kernel)
theorem tw_23 : Cond.selects "MountainWatchModel" ⟨"MountainWatchModel", "isNode", "(I)Z"⟩ ⟨"MountainWatchModel", "isNode", "(I)Z"⟩ ∈ TB := TB_mem 23 (by decide +kernel) (by decide +kernel)
theorem tw_24 : Cond.selects "MountainWatchModel" ⟨"MountainWatchModel", "depth", "(I)I"⟩ ⟨"MountainWatchModel", "depth", "(I)I"⟩ ∈ TB := TB_mem 24 (by decide +kernel) (by decide +kernel)
theorem tw_25 : Cond.selects "MountainWatchModel" ⟨"MountainWatchModel", "children", "(I)I"⟩ ⟨"MountainWatchModel", "children", "(I)I"⟩ ∈ TB := TB_mem 25 (by decide +kernel) (by decide +kernel)
theorem tw_26 : Cond.selects "MountainWatchModel" ⟨"MountainWatchModel", "isSound", "()Z"⟩ ⟨"MountainWatchModel", "isSound", "()Z"⟩ ∈ TB := TB_mem 26 (by decide +kernel) (by decide +kernel)
theorem tw_27 : Cond.selects "MountainWatchModel" ⟨"MountainWatchModel", "bounds", "(I[I)I"⟩ ⟨"MountainWatchModel", "bounds", "(I[I)I"⟩ ∈ TB := TB_mem 27 (by decide +kernel) (by decide +kernel)
theorem tw_28 : Cond.selects "MountainWatchModel" ⟨"MountainWatchModel", "mixed", "(II)J"⟩ ⟨"MountainWatchModel", "mixed", "(II)J"⟩ ∈ TB := TB_mem 28 (by decide +kernel) (by decide +kernel)
theorem tw_30 : Cond.initialized "MountainWatch" ∈ TB := TB_mem 30 (by decide +kernel) (by decide +kernel)
theorem tw_31 : Cond.initialized "MountainWatch$Shakes" ∈ TB := TB_mem 31 (by decide +kernel) (by decide +kernel)
theorem tw_32 : Cond.initialized "MountainWatch$Readings" ∈ TB := TB_mem 32 (by decide +kernel) (by decide +kernel)
theorem tw_33 : Cond.initialized "MountainWatch$Laws" ∈ TB := TB_mem 33 (by decide +kernel) (by decide +kernel)
theorem tw_34 : Cond.initialized "MountainWatch$Messages" ∈ TB := TB_mem 34 (by decide +kernel) (by decide +kernel)
theorem tw_35 : Cond.initialized "MountainWatch$Tree" ∈ TB := TB_mem 35 (by decide +kernel) (by decide +kernel)
theorem tw_36 : Cond.initialized "MountainWatchModel" ∈ TB := TB_mem 36 (by decide +kernel) (by decide +kernel)
theorem tw_37 : Cond.initialized "java/lang/Math" ∈ TB := TB_mem 37 (by decide +kernel) (by decide +kernel)
theorem tw_52 : Cond.fieldLink "MountainWatch$Shakes" 11 "MountainWatch$Shakes" "bands" "[I" ∈ TB := TB_mem 52 (by decide +kernel) (by decide +kernel)
theorem tw_53 : Cond.fieldLink "MountainWatch$Shakes" 15 "MountainWatch$Shakes" "days" "[I" ∈ TB := TB_mem 53 (by decide +kernel) (by decide +kernel)
theorem tw_54 : Cond.fieldLink "MountainWatch" 72 "MountainWatch$Shakes" "days" "[I" ∈ TB := TB_mem 54 (by decide +kernel) (by decide +kernel)
theorem tw_55 : Cond.fieldLink "MountainWatch$Shakes" 18 "MountainWatch$Shakes" "kinds" "[I" ∈ TB := TB_mem 55 (by decide +kernel) (by decide +kernel)
theorem tw_56 : Cond.fieldLink "MountainWatch" 76 "MountainWatch$Shakes" "kinds" "[I" ∈ TB := TB_mem 56 (by decide +kernel) (by decide +kernel)
theorem tw_57 : Cond.fieldLink "MountainWatch$Shakes" 21 "MountainWatch$Shakes" "families" "[I" ∈ TB := TB_mem 57 (by decide +kernel) (by decide +kernel)
theorem tw_58 : Cond.fieldLink "MountainWatch" 79 "MountainWatch$Shakes" "families" "[I" ∈ TB := TB_mem 58 (by decide +kernel) (by decide +kernel)
theorem tw_59 : Cond.fieldLink "MountainWatch$Shakes" 24 "MountainWatch$Shakes" "tally" "[I" ∈ TB := TB_mem 59 (by decide +kernel) (by decide +kernel)
theorem tw_60 : Cond.fieldLink "MountainWatch$Shakes" 31 "MountainWatch$Shakes" "count" "I" ∈ TB := TB_mem 60 (by decide +kernel) (by decide +kernel)
theorem tw_61 : Cond.fieldLink "MountainWatch" 50 "MountainWatch$Shakes" "count" "I" ∈ TB := TB_mem 61 (by decide +kernel) (by decide +kernel)
theorem tw_62 : Cond.fieldLink "MountainWatch$Shakes" 27 "MountainWatch$Shakes" "asked" "I" ∈ TB := TB_mem 62 (by decide +kernel) (by decide +kernel)
theorem tw_63 : Cond.fieldLink "MountainWatch" 90 "MountainWatch$Shakes" "asked" "I" ∈ TB := TB_mem 63 (by decide +kernel) (by decide +kernel)
theorem tw_86 : Cond.constant "MountainWatch$Readings" 18 (-1000005) ∈ TB := TB_mem 86 (by decide +kernel) (by decide +kernel)
theorem tw_87 : Cond.fieldLink "MountainWatch$Readings" 11 "MountainWatch$Readings" "tilts" "[I" ∈ TB := TB_mem 87 (by decide +kernel) (by decide +kernel)
theorem tw_88 : Cond.fieldLink "MountainWatch" 108 "MountainWatch$Readings" "tilts" "[I" ∈ TB := TB_mem 88 (by decide +kernel) (by decide +kernel)
theorem tw_89 : Cond.fieldLink "MountainWatch$Readings" 15 "MountainWatch$Readings" "gases" "[I" ∈ TB := TB_mem 89 (by decide +kernel) (by decide +kernel)
theorem tw_90 : Cond.fieldLink "MountainWatch" 111 "MountainWatch$Readings" "gases" "[I" ∈ TB := TB_mem 90 (by decide +kernel) (by decide +kernel)
theorem tw_102 : Cond.fieldLink "MountainWatch$Laws" 9 "MountainWatch$Laws" "levels" "[I" ∈ TB := TB_mem 102 (by decide +kernel) (by decide +kernel)
theorem tw_103 : Cond.fieldLink "MountainWatch" 126 "MountainWatch$Laws" "levels" "[I" ∈ TB := TB_mem 103 (by decide +kernel) (by decide +kernel)
theorem tw_104 : Cond.fieldLink "MountainWatch$Laws" 13 "MountainWatch$Laws" "measures" "[I" ∈ TB := TB_mem 104 (by decide +kernel) (by decide +kernel)
theorem tw_105 : Cond.fieldLink "MountainWatch" 237 "MountainWatch$Laws" "measures" "[I" ∈ TB := TB_mem 105 (by decide +kernel) (by decide +kernel)
theorem tw_106 : Cond.fieldLink "MountainWatch$Laws" 16 "MountainWatch$Laws" "numbers" "[I" ∈ TB := TB_mem 106 (by decide +kernel) (by decide +kernel)
theorem tw_107 : Cond.fieldLink "MountainWatch" 129 "MountainWatch$Laws" "numbers" "[I" ∈ TB := TB_mem 107 (by decide +kernel) (by decide +kernel)
theorem tw_108 : Cond.fieldLink "MountainWatch$Laws" 19 "MountainWatch$Laws" "spans" "[I" ∈ TB := TB_mem 108 (by decide +kernel) (by decide +kernel)
theorem tw_109 : Cond.fieldLink "MountainWatch" 229 "MountainWatch$Laws" "spans" "[I" ∈ TB := TB_mem 109 (by decide +kernel) (by decide +kernel)
theorem tw_110 : Cond.fieldLink "MountainWatch$Laws" 22 "MountainWatch$Laws" "count" "I" ∈ TB := TB_mem 110 (by decide +kernel) (by decide +kernel)
theorem tw_111 : Cond.fieldLink "MountainWatch" 121 "MountainWatch$Laws" "count" "I" ∈ TB := TB_mem 111 (by decide +kernel) (by decide +kernel)
theorem tw_129 : Cond.fieldLink "MountainWatch$Messages" 9 "MountainWatch$Messages" "days" "[I" ∈ TB := TB_mem 129 (by decide +kernel) (by decide +kernel)
theorem tw_130 : Cond.fieldLink "MountainWatch" 176 "MountainWatch$Messages" "days" "[I" ∈ TB := TB_mem 130 (by decide +kernel) (by decide +kernel)
theorem tw_131 : Cond.fieldLink "MountainWatch$Messages" 13 "MountainWatch$Messages" "levels" "[I" ∈ TB := TB_mem 131 (by decide +kernel) (by decide +kernel)
theorem tw_132 : Cond.fieldLink "MountainWatch" 177 "MountainWatch$Messages" "levels" "[I" ∈ TB := TB_mem 132 (by decide +kernel) (by decide +kernel)
theorem tw_133 : Cond.fieldLink "MountainWatch$Messages" 16 "MountainWatch$Messages" "reasons" "[I" ∈ TB := TB_mem 133 (by decide +kernel) (by decide +kernel)
theorem tw_134 : Cond.fieldLink "MountainWatch" 178 "MountainWatch$Messages" "reasons" "[I" ∈ TB := TB_mem 134 (by decide +kernel) (by decide +kernel)
theorem tw_135 : Cond.fieldLink "MountainWatch$Messages" 41 "MountainWatch$Messages" "count" "I" ∈ TB := TB_mem 135 (by decide +kernel) (by decide +kernel)
theorem tw_136 : Cond.fieldLink "MountainWatch" 187 "MountainWatch$Messages" "count" "I" ∈ TB := TB_mem 136 (by decide +kernel) (by decide +kernel)
theorem tw_137 : Cond.fieldLink "MountainWatch$Messages" 38 "MountainWatch$Messages" "drillCount" "I" ∈ TB := TB_mem 137 (by decide +kernel) (by decide +kernel)
theorem tw_138 : Cond.fieldLink "MountainWatch" 188 "MountainWatch$Messages" "drillCount" "I" ∈ TB := TB_mem 138 (by decide +kernel) (by decide +kernel)
theorem tw_139 : Cond.fieldLink "MountainWatch$Messages" 23 "MountainWatch$Messages" "kept" "I" ∈ TB := TB_mem 139 (by decide +kernel) (by decide +kernel)
theorem tw_140 : Cond.fieldLink "MountainWatch$Messages" 19 "MountainWatch$Messages" "keptDrills" "I" ∈ TB := TB_mem 140 (by decide +kernel) (by decide +kernel)
theorem tw_162 : Cond.fieldLink "MountainWatch$Tree" 11 "MountainWatch$Tree" "parents" "[I" ∈ TB := TB_mem 162 (by decide +kernel) (by decide +kernel)
theorem tw_163 : Cond.fieldLink "MountainWatch" 220 "MountainWatch$Tree" "parents" "[I" ∈ TB := TB_mem 163 (by decide +kernel) (by decide +kernel)
theorem tw_164 : Cond.fieldLink "MountainWatch$Tree" 15 "MountainWatch$Tree" "lows" "[I" ∈ TB := TB_mem 164 (by decide +kernel) (by decide +kernel)
theorem tw_165 : Cond.fieldLink "MountainWatch" 202 "MountainWatch$Tree" "lows" "[I" ∈ TB := TB_mem 165 (by decide +kernel) (by decide +kernel)
theorem tw_166 : Cond.fieldLink "MountainWatch$Tree" 18 "MountainWatch$Tree" "highs" "[I" ∈ TB := TB_mem 166 (by decide +kernel) (by decide +kernel)
theorem tw_167 : Cond.fieldLink "MountainWatch" 205 "MountainWatch$Tree" "highs" "[I" ∈ TB := TB_mem 167 (by decide +kernel) (by decide +kernel)
theorem tw_168 : Cond.fieldLink "MountainWatch$Tree" 21 "MountainWatch$Tree" "depths" "[I" ∈ TB := TB_mem 168 (by decide +kernel) (by decide +kernel)
theorem tw_169 : Cond.fieldLink "MountainWatch" 226 "MountainWatch$Tree" "depths" "[I" ∈ TB := TB_mem 169 (by decide +kernel) (by decide +kernel)
theorem tw_170 : Cond.fieldLink "MountainWatch$Tree" 24 "MountainWatch$Tree" "childCounts" "[I" ∈ TB := TB_mem 170 (by decide +kernel) (by decide +kernel)
theorem tw_171 : Cond.fieldLink "MountainWatch" 223 "MountainWatch$Tree" "childCounts" "[I" ∈ TB := TB_mem 171 (by decide +kernel) (by decide +kernel)
theorem tw_172 : Cond.fieldLink "MountainWatch$Tree" 27 "MountainWatch$Tree" "feared" "[Z" ∈ TB := TB_mem 172 (by decide +kernel) (by decide +kernel)
theorem tw_173 : Cond.fieldLink "MountainWatch" 208 "MountainWatch$Tree" "feared" "[Z" ∈ TB := TB_mem 173 (by decide +kernel) (by decide +kernel)
theorem tw_174 : Cond.fieldLink "MountainWatch$Tree" 31 "MountainWatch$Tree" "chances" "[I" ∈ TB := TB_mem 174 (by decide +kernel) (by decide +kernel)
theorem tw_175 : Cond.fieldLink "MountainWatch$Tree" 34 "MountainWatch$Tree" "served" "[Z" ∈ TB := TB_mem 175 (by decide +kernel) (by decide +kernel)
theorem tw_176 : Cond.fieldLink "MountainWatch$Tree" 37 "MountainWatch$Tree" "count" "I" ∈ TB := TB_mem 176 (by decide +kernel) (by decide +kernel)
theorem tw_177 : Cond.fieldLink "MountainWatch" 191 "MountainWatch$Tree" "count" "I" ∈ TB := TB_mem 177 (by decide +kernel) (by decide +kernel)
theorem tw_198 : Cond.fieldLink "MountainWatch" 10 "MountainWatch" "shakes" "LMountainWatch$Shakes;" ∈ TB := TB_mem 198 (by decide +kernel) (by decide +kernel)
theorem tw_199 : Cond.fieldLink "MountainWatch" 19 "MountainWatch" "readings" "LMountainWatch$Readings;" ∈ TB := TB_mem 199 (by decide +kernel) (by decide +kernel)
theorem tw_200 : Cond.fieldLink "MountainWatch" 26 "MountainWatch" "laws" "LMountainWatch$Laws;" ∈ TB := TB_mem 200 (by decide +kernel) (by decide +kernel)
theorem tw_201 : Cond.fieldLink "MountainWatch" 33 "MountainWatch" "messages" "LMountainWatch$Messages;" ∈ TB := TB_mem 201 (by decide +kernel) (by decide +kernel)
theorem tw_202 : Cond.fieldLink "MountainWatch" 40 "MountainWatch" "tree" "LMountainWatch$Tree;" ∈ TB := TB_mem 202 (by decide +kernel) (by decide +kernel)
theorem tw_203 : Cond.fieldLink "MountainWatch" 53 "MountainWatch" "today" "I" ∈ TB := TB_mem 203 (by decide +kernel) (by decide +kernel)
theorem tw_204 : Cond.fieldLink "MountainWatch" 144 "MountainWatch" "level" "I" ∈ TB := TB_mem 204 (by decide +kernel) (by decide +kernel)
theorem tw_205 : Cond.fieldLink "MountainWatch" 181 "MountainWatch" "calm" "I" ∈ TB := TB_mem 205 (by decide +kernel) (by decide +kernel)
theorem tw_206 : Cond.fieldLink "MountainWatch" 44 "MountainWatch" "restDays" "I" ∈ TB := TB_mem 206 (by decide +kernel) (by decide +kernel)
theorem tw_207 : Cond.fieldLink "MountainWatch" 147 "MountainWatch" "holdLevel" "I" ∈ TB := TB_mem 207 (by decide +kernel) (by decide +kernel)
theorem tw_208 : Cond.fieldLink "MountainWatch" 150 "MountainWatch" "holdEnd" "I" ∈ TB := TB_mem 208 (by decide +kernel) (by decide +kernel)
theorem tw_209 : Cond.fieldLink "MountainWatch" 162 "MountainWatch" "drillLevel" "I" ∈ TB := TB_mem 209 (by decide +kernel) (by decide +kernel)
theorem tw_235 : Cond.methodLink "MountainWatchLaw" 15 ⟨"MountainWatch", "shake", "(J)I"⟩ ∈ TB := TB_mem 235 (by decide +kernel) (by decide +kernel)
theorem tw_236 : Cond.instanceMethod ⟨"MountainWatch", "shake", "(J)I"⟩ ∈ TB := TB_mem 236 (by decide +kernel) (by decide +kernel)
theorem tw_237 : Cond.selects "MountainWatch" ⟨"MountainWatch", "shake", "(J)I"⟩ ⟨"MountainWatch", "shake", "(J)I"⟩ ∈ TB := TB_mem 237 (by decide +kernel) (by decide +kernel)
theorem tw_238 : Cond.code ⟨"MountainWatch", "shake", "(J)I"⟩ prog_1_method_2_code 3 (some .int) ∈ TB := TB_mem 238 (by decide +kernel) (by decide +kernel)
theorem tw_239 : Cond.constantLong "MountainWatch" 48 1061520150600 ∈ TB := TB_mem 239 (by decide +kernel) (by decide +kernel)
theorem tw_240 : Cond.methodLink "MountainWatch" 56 ⟨"MountainWatch$Shakes", "add", "(JI)I"⟩ ∈ TB := TB_mem 240 (by decide +kernel) (by decide +kernel)
theorem tw_241 : Cond.instanceMethod ⟨"MountainWatch$Shakes", "add", "(JI)I"⟩ ∈ TB := TB_mem 241 (by decide +kernel) (by decide +kernel)
theorem tw_242 : Cond.selects "MountainWatch$Shakes" ⟨"MountainWatch$Shakes", "add", "(JI)I"⟩ ⟨"MountainWatch$Shakes", "add", "(JI)I"⟩ ∈ TB := TB_mem 242 (by decide +kernel) (by decide +kernel)
theorem tw_243 : Cond.code ⟨"MountainWatch$Shakes", "add", "(JI)I"⟩ prog_5_method_4_code 8 (some .int) ∈ TB := TB_mem 243 (by decide +kernel) (by decide +kernel)
theorem tw_244 : Cond.constantLong "MountainWatch$Shakes" 34 101 ∈ TB := TB_mem 244 (by decide +kernel) (by decide +kernel)
theorem tw_245 : Cond.methodLink "MountainWatch$Shakes" 36 ⟨"MountainWatch$Shakes", "kindOf", "(I)I"⟩ ∈ TB := TB_mem 245 (by decide +kernel) (by decide +kernel)
theorem tw_246 : Cond.instanceMethod ⟨"MountainWatch$Shakes", "kindOf", "(I)I"⟩ ∈ TB := TB_mem 246 (by decide +kernel) (by decide +kernel)
theorem tw_247 : Cond.selects "MountainWatch$Shakes" ⟨"MountainWatch$Shakes", "kindOf", "(I)I"⟩ ⟨"MountainWatch$Shakes", "kindOf", "(I)I"⟩ ∈ TB := TB_mem 247 (by decide +kernel) (by decide +kernel)
theorem tw_248 : Cond.code ⟨"MountainWatch$Shakes", "kindOf", "(I)I"⟩ prog_5_method_5_code 4 (some .int) ∈ TB := TB_mem 248 (by decide +kernel) (by decide +kernel)
theorem tw_249 : Cond.methodLink "MountainWatch$Shakes" 44 ⟨"MountainWatch$Shakes", "band", "(II)I"⟩ ∈ TB := TB_mem 249 (by decide +kernel) (by decide +kernel)
theorem tw_250 : Cond.instanceMethod ⟨"MountainWatch$Shakes", "band", "(II)I"⟩ ∈ TB := TB_mem 250 (by decide +kernel) (by decide +kernel)
theorem tw_251 : Cond.selects "MountainWatch$Shakes" ⟨"MountainWatch$Shakes", "band", "(II)I"⟩ ⟨"MountainWatch$Shakes", "band", "(II)I"⟩ ∈ TB := TB_mem 251 (by decide +kernel) (by decide +kernel)
theorem tw_252 : Cond.code ⟨"MountainWatch$Shakes", "band", "(II)I"⟩ prog_5_method_3_code 3 (some .int) ∈ TB := TB_mem 252 (by decide +kernel) (by decide +kernel)
theorem tw_253 : Cond.methodLink "MountainWatch$Shakes" 40 ⟨"MountainWatch$Shakes", "joinFamilies", "(I)V"⟩ ∈ TB := TB_mem 253 (by decide +kernel) (by decide +kernel)
theorem tw_254 : Cond.instanceMethod ⟨"MountainWatch$Shakes", "joinFamilies", "(I)V"⟩ ∈ TB := TB_mem 254 (by decide +kernel) (by decide +kernel)
theorem tw_255 : Cond.selects "MountainWatch$Shakes" ⟨"MountainWatch$Shakes", "joinFamilies", "(I)V"⟩ ⟨"MountainWatch$Shakes", "joinFamilies", "(I)V"⟩ ∈ TB := TB_mem 255 (by decide +kernel) (by decide +kernel)
theorem tw_256 : Cond.code ⟨"MountainWatch$Shakes", "joinFamilies", "(I)V"⟩ prog_5_method_9_code 3 none ∈ TB := TB_mem 256 (by decide +kernel) (by decide +kernel)
theorem tw_257 : Cond.methodLink "MountainWatch$Shakes" 54 ⟨"MountainWatch$Shakes", "areAlike", "(II)Z"⟩ ∈ TB := TB_mem 257 (by decide +kernel) (by decide +kernel)
theorem tw_258 : Cond.instanceMethod ⟨"MountainWatch$Shakes", "areAlike", "(II)Z"⟩ ∈ TB := TB_mem 258 (by decide +kernel) (by decide +kernel)
theorem tw_259 : Cond.selects "MountainWatch$Shakes" ⟨"MountainWatch$Shakes", "areAlike", "(II)Z"⟩ ⟨"MountainWatch$Shakes", "areAlike", "(II)Z"⟩ ∈ TB := TB_mem 259 (by decide +kernel) (by decide +kernel)
theorem tw_260 : Cond.code ⟨"MountainWatch$Shakes", "areAlike", "(II)Z"⟩ prog_5_method_7_code 5 (some .boolean) ∈ TB := TB_mem 260 (by decide +kernel) (by decide +kernel)
theorem tw_261 : Cond.methodLink "MountainWatch$Shakes" 48 ⟨"MountainWatch$Shakes", "product", "(II)J"⟩ ∈ TB := TB_mem 261 (by decide +kernel) (by decide +kernel)
theorem tw_262 : Cond.instanceMethod ⟨"MountainWatch$Shakes", "product", "(II)J"⟩ ∈ TB := TB_mem 262 (by decide +kernel) (by decide +kernel)
theorem tw_263 : Cond.selects "MountainWatch$Shakes" ⟨"MountainWatch$Shakes", "product", "(II)J"⟩ ⟨"MountainWatch$Shakes", "product", "(II)J"⟩ ∈ TB := TB_mem 263 (by decide +kernel) (by decide +kernel)
theorem tw_264 : Cond.code ⟨"MountainWatch$Shakes", "product", "(II)J"⟩ prog_5_method_6_code 6 (some .long) ∈ TB := TB_mem 264 (by decide +kernel) (by decide +kernel)
theorem tw_265 : Cond.constantLong "MountainWatch$Shakes" 52 100 ∈ TB := TB_mem 265 (by decide +kernel) (by decide +kernel)
theorem tw_266 : Cond.methodLink "MountainWatch$Shakes" 58 ⟨"MountainWatch$Shakes", "mergeFamilies", "(III)V"⟩ ∈ TB := TB_mem 266 (by decide +kernel) (by decide +kernel)
theorem tw_267 : Cond.instanceMethod ⟨"MountainWatch$Shakes", "mergeFamilies", "(III)V"⟩ ∈ TB := TB_mem 267 (by decide +kernel) (by decide +kernel)
theorem tw_268 : Cond.selects "MountainWatch$Shakes" ⟨"MountainWatch$Shakes", "mergeFamilies", "(III)V"⟩ ⟨"MountainWatch$Shakes", "mergeFamilies", "(III)V"⟩ ∈ TB := TB_mem 268 (by decide +kernel) (by decide +kernel)
theorem tw_269 : Cond.code ⟨"MountainWatch$Shakes", "mergeFamilies", "(III)V"⟩ prog_5_method_10_code 6 none ∈ TB := TB_mem 269 (by decide +kernel) (by decide +kernel)
theorem tw_270 : Cond.methodLink "MountainWatch$Shakes" 62 ⟨"java/lang/Math", "min", "(II)I"⟩ ∈ TB := TB_mem 270 (by decide +kernel) (by decide +kernel)
theorem tw_271 : Cond.static ⟨"java/lang/Math", "min", "(II)I"⟩ ∈ TB := TB_mem 271 (by decide +kernel) (by decide +kernel)
theorem tw_272 : Cond.code ⟨"java/lang/Math", "min", "(II)I"⟩ prog_9_method_69_code 2 (some .int) ∈ TB := TB_mem 272 (by decide +kernel) (by decide +kernel)
theorem tw_273 : Cond.methodLink "MountainWatchLaw" 20 ⟨"MountainWatch", "about", "(II)I"⟩ ∈ TB := TB_mem 273 (by decide +kernel) (by decide +kernel)
theorem tw_274 : Cond.instanceMethod ⟨"MountainWatch", "about", "(II)I"⟩ ∈ TB := TB_mem 274 (by decide +kernel) (by decide +kernel)
theorem tw_275 : Cond.selects "MountainWatch" ⟨"MountainWatch", "about", "(II)I"⟩ ⟨"MountainWatch", "about", "(II)I"⟩ ∈ TB := TB_mem 275 (by decide +kernel) (by decide +kernel)
theorem tw_276 : Cond.code ⟨"MountainWatch", "about", "(II)I"⟩ prog_1_method_3_code 3 (some .int) ∈ TB := TB_mem 276 (by decide +kernel) (by decide +kernel)
theorem tw_277 : Cond.methodLink "MountainWatch" 60 ⟨"MountainWatch$Shakes", "has", "(I)Z"⟩ ∈ TB := TB_mem 277 (by decide +kernel) (by decide +kernel)
theorem tw_278 : Cond.instanceMethod ⟨"MountainWatch$Shakes", "has", "(I)Z"⟩ ∈ TB := TB_mem 278 (by decide +kernel) (by decide +kernel)
theorem tw_279 : Cond.selects "MountainWatch$Shakes" ⟨"MountainWatch$Shakes", "has", "(I)Z"⟩ ⟨"MountainWatch$Shakes", "has", "(I)Z"⟩ ∈ TB := TB_mem 279 (by decide +kernel) (by decide +kernel)
theorem tw_280 : Cond.code ⟨"MountainWatch$Shakes", "has", "(I)Z"⟩ prog_5_method_2_code 2 (some .boolean) ∈ TB := TB_mem 280 (by decide +kernel) (by decide +kernel)
theorem tw_281 : Cond.methodLink "MountainWatch" 64 ⟨"MountainWatch", "isWithin", "(III)Z"⟩ ∈ TB := TB_mem 281 (by decide +kernel) (by decide +kernel)
theorem tw_282 : Cond.static ⟨"MountainWatch", "isWithin", "(III)Z"⟩ ∈ TB := TB_mem 282 (by decide +kernel) (by decide +kernel)
theorem tw_283 : Cond.code ⟨"MountainWatch", "isWithin", "(III)Z"⟩ prog_1_method_30_code 3 (some .boolean) ∈ TB := TB_mem 283 (by decide +kernel) (by decide +kernel)
theorem tw_284 : Cond.methodLink "MountainWatch" 68 ⟨"MountainWatch$Shakes", "band", "(II)I"⟩ ∈ TB := TB_mem 284 (by decide +kernel) (by decide +kernel)
theorem tw_285 : Cond.methodLink "MountainWatchLaw" 25 ⟨"MountainWatch", "alike", "(II)I"⟩ ∈ TB := TB_mem 285 (by decide +kernel) (by decide +kernel)
theorem tw_286 : Cond.instanceMethod ⟨"MountainWatch", "alike", "(II)I"⟩ ∈ TB := TB_mem 286 (by decide +kernel) (by decide +kernel)
theorem tw_287 : Cond.selects "MountainWatch" ⟨"MountainWatch", "alike", "(II)I"⟩ ⟨"MountainWatch", "alike", "(II)I"⟩ ∈ TB := TB_mem 287 (by decide +kernel) (by decide +kernel)
theorem tw_288 : Cond.code ⟨"MountainWatch", "alike", "(II)I"⟩ prog_1_method_4_code 3 (some .int) ∈ TB := TB_mem 288 (by decide +kernel) (by decide +kernel)
theorem tw_289 : Cond.methodLink "MountainWatch" 82 ⟨"MountainWatch$Shakes", "areAlike", "(II)Z"⟩ ∈ TB := TB_mem 289 (by decide +kernel) (by decide +kernel)
theorem tw_290 : Cond.methodLink "MountainWatch" 86 ⟨"MountainWatch", "oneIf", "(Z)I"⟩ ∈ TB := TB_mem 290 (by decide +kernel) (by decide +kernel)
theorem tw_291 : Cond.static ⟨"MountainWatch", "oneIf", "(Z)I"⟩ ∈ TB := TB_mem 291 (by decide +kernel) (by decide +kernel)
theorem tw_292 : Cond.code ⟨"MountainWatch", "oneIf", "(Z)I"⟩ prog_1_method_31_code 1 (some .int) ∈ TB := TB_mem 292 (by decide +kernel) (by decide +kernel)
theorem tw_293 : Cond.methodLink "MountainWatchLaw" 29 ⟨"MountainWatch", "likeness", "(I)I"⟩ ∈ TB := TB_mem 293 (by decide +kernel) (by decide +kernel)
theorem tw_294 : Cond.instanceMethod ⟨"MountainWatch", "likeness", "(I)I"⟩ ∈ TB := TB_mem 294 (by decide +kernel) (by decide +kernel)
theorem tw_295 : Cond.selects "MountainWatch" ⟨"MountainWatch", "likeness", "(I)I"⟩ ⟨"MountainWatch", "likeness", "(I)I"⟩ ∈ TB := TB_mem 295 (by decide +kernel) (by decide +kernel)
theorem tw_296 : Cond.code ⟨"MountainWatch", "likeness", "(I)I"⟩ prog_1_method_5_code 3 (some .int) ∈ TB := TB_mem 296 (by decide +kernel) (by decide +kernel)
theorem tw_297 : Cond.methodLink "MountainWatch" 93 ⟨"MountainWatch$Shakes", "askLikeness", "(I)V"⟩ ∈ TB := TB_mem 297 (by decide +kernel) (by decide +kernel)
theorem tw_298 : Cond.instanceMethod ⟨"MountainWatch$Shakes", "askLikeness", "(I)V"⟩ ∈ TB := TB_mem 298 (by decide +kernel) (by decide +kernel)
theorem tw_299 : Cond.selects "MountainWatch$Shakes" ⟨"MountainWatch$Shakes", "askLikeness", "(I)V"⟩ ⟨"MountainWatch$Shakes", "askLikeness", "(I)V"⟩ ∈ TB := TB_mem 299 (by decide +kernel) (by decide +kernel)
theorem tw_300 : Cond.code ⟨"MountainWatch$Shakes", "askLikeness", "(I)V"⟩ prog_5_method_8_code 3 none ∈ TB := TB_mem 300 (by decide +kernel) (by decide +kernel)
theorem tw_301 : Cond.methodLink "MountainWatchLaw" 34 ⟨"MountainWatch", "family", "(I)I"⟩ ∈ TB := TB_mem 301 (by decide +kernel) (by decide +kernel)
theorem tw_302 : Cond.instanceMethod ⟨"MountainWatch", "family", "(I)I"⟩ ∈ TB := TB_mem 302 (by decide +kernel) (by decide +kernel)
theorem tw_303 : Cond.selects "MountainWatch" ⟨"MountainWatch", "family", "(I)I"⟩ ⟨"MountainWatch", "family", "(I)I"⟩ ∈ TB := TB_mem 303 (by decide +kernel) (by decide +kernel)
theorem tw_304 : Cond.code ⟨"MountainWatch", "family", "(I)I"⟩ prog_1_method_6_code 2 (some .int) ∈ TB := TB_mem 304 (by decide +kernel) (by decide +kernel)
theorem tw_305 : Cond.methodLink "MountainWatch" 97 ⟨"MountainWatch$Shakes", "countFamilies", "()I"⟩ ∈ TB := TB_mem 305 (by decide +kernel) (by decide +kernel)
theorem tw_306 : Cond.instanceMethod ⟨"MountainWatch$Shakes", "countFamilies", "()I"⟩ ∈ TB := TB_mem 306 (by decide +kernel) (by decide +kernel)
theorem tw_307 : Cond.selects "MountainWatch$Shakes" ⟨"MountainWatch$Shakes", "countFamilies", "()I"⟩ ⟨"MountainWatch$Shakes", "countFamilies", "()I"⟩ ∈ TB := TB_mem 307 (by decide +kernel) (by decide +kernel)
theorem tw_308 : Cond.code ⟨"MountainWatch$Shakes", "countFamilies", "()I"⟩ prog_5_method_11_code 3 (some .int) ∈ TB := TB_mem 308 (by decide +kernel) (by decide +kernel)
theorem tw_309 : Cond.methodLink "MountainWatch" 101 ⟨"MountainWatch$Shakes", "familyByOrder", "(I)I"⟩ ∈ TB := TB_mem 309 (by decide +kernel) (by decide +kernel)
theorem tw_310 : Cond.instanceMethod ⟨"MountainWatch$Shakes", "familyByOrder", "(I)I"⟩ ∈ TB := TB_mem 310 (by decide +kernel) (by decide +kernel)
theorem tw_311 : Cond.selects "MountainWatch$Shakes" ⟨"MountainWatch$Shakes", "familyByOrder", "(I)I"⟩ ⟨"MountainWatch$Shakes", "familyByOrder", "(I)I"⟩ ∈ TB := TB_mem 311 (by decide +kernel) (by decide +kernel)
theorem tw_312 : Cond.code ⟨"MountainWatch$Shakes", "familyByOrder", "(I)I"⟩ prog_5_method_12_code 4 (some .int) ∈ TB := TB_mem 312 (by decide +kernel) (by decide +kernel)
theorem tw_313 : Cond.methodLink "MountainWatchLaw" 38 ⟨"MountainWatch", "kin", "(I)I"⟩ ∈ TB := TB_mem 313 (by decide +kernel) (by decide +kernel)
theorem tw_314 : Cond.instanceMethod ⟨"MountainWatch", "kin", "(I)I"⟩ ∈ TB := TB_mem 314 (by decide +kernel) (by decide +kernel)
theorem tw_315 : Cond.selects "MountainWatch" ⟨"MountainWatch", "kin", "(I)I"⟩ ⟨"MountainWatch", "kin", "(I)I"⟩ ∈ TB := TB_mem 315 (by decide +kernel) (by decide +kernel)
theorem tw_316 : Cond.code ⟨"MountainWatch", "kin", "(I)I"⟩ prog_1_method_7_code 2 (some .int) ∈ TB := TB_mem 316 (by decide +kernel) (by decide +kernel)
theorem tw_317 : Cond.methodLink "MountainWatch" 105 ⟨"MountainWatch$Shakes", "countKin", "(I)I"⟩ ∈ TB := TB_mem 317 (by decide +kernel) (by decide +kernel)
theorem tw_318 : Cond.instanceMethod ⟨"MountainWatch$Shakes", "countKin", "(I)I"⟩ ∈ TB := TB_mem 318 (by decide +kernel) (by decide +kernel)
theorem tw_319 : Cond.selects "MountainWatch$Shakes" ⟨"MountainWatch$Shakes", "countKin", "(I)I"⟩ ⟨"MountainWatch$Shakes", "countKin", "(I)I"⟩ ∈ TB := TB_mem 319 (by decide +kernel) (by decide +kernel)
theorem tw_320 : Cond.code ⟨"MountainWatch$Shakes", "countKin", "(I)I"⟩ prog_5_method_13_code 4 (some .int) ∈ TB := TB_mem 320 (by decide +kernel) (by decide +kernel)
theorem tw_321 : Cond.methodLink "MountainWatchLaw" 42 ⟨"MountainWatch", "tilt", "(I)I"⟩ ∈ TB := TB_mem 321 (by decide +kernel) (by decide +kernel)
theorem tw_322 : Cond.instanceMethod ⟨"MountainWatch", "tilt", "(I)I"⟩ ∈ TB := TB_mem 322 (by decide +kernel) (by decide +kernel)
theorem tw_323 : Cond.selects "MountainWatch" ⟨"MountainWatch", "tilt", "(I)I"⟩ ⟨"MountainWatch", "tilt", "(I)I"⟩ ∈ TB := TB_mem 323 (by decide +kernel) (by decide +kernel)
theorem tw_324 : Cond.code ⟨"MountainWatch", "tilt", "(I)I"⟩ prog_1_method_8_code 2 (some .int) ∈ TB := TB_mem 324 (by decide +kernel) (by decide +kernel)
theorem tw_325 : Cond.methodLink "MountainWatchLaw" 46 ⟨"MountainWatch", "gas", "(I)I"⟩ ∈ TB := TB_mem 325 (by decide +kernel) (by decide +kernel)
theorem tw_326 : Cond.instanceMethod ⟨"MountainWatch", "gas", "(I)I"⟩ ∈ TB := TB_mem 326 (by decide +kernel) (by decide +kernel)
theorem tw_327 : Cond.selects "MountainWatch" ⟨"MountainWatch", "gas", "(I)I"⟩ ⟨"MountainWatch", "gas", "(I)I"⟩ ∈ TB := TB_mem 327 (by decide +kernel) (by decide +kernel)
theorem tw_328 : Cond.code ⟨"MountainWatch", "gas", "(I)I"⟩ prog_1_method_9_code 2 (some .int) ∈ TB := TB_mem 328 (by decide +kernel) (by decide +kernel)
theorem tw_329 : Cond.methodLink "MountainWatchLaw" 50 ⟨"MountainWatch", "tiltAt", "(I)I"⟩ ∈ TB := TB_mem 329 (by decide +kernel) (by decide +kernel)
theorem tw_330 : Cond.instanceMethod ⟨"MountainWatch", "tiltAt", "(I)I"⟩ ∈ TB := TB_mem 330 (by decide +kernel) (by decide +kernel)
theorem tw_331 : Cond.selects "MountainWatch" ⟨"MountainWatch", "tiltAt", "(I)I"⟩ ⟨"MountainWatch", "tiltAt", "(I)I"⟩ ∈ TB := TB_mem 331 (by decide +kernel) (by decide +kernel)
theorem tw_332 : Cond.code ⟨"MountainWatch", "tiltAt", "(I)I"⟩ prog_1_method_10_code 2 (some .int) ∈ TB := TB_mem 332 (by decide +kernel) (by decide +kernel)
theorem tw_333 : Cond.methodLink "MountainWatch" 114 ⟨"MountainWatch", "isDay", "(I)Z"⟩ ∈ TB := TB_mem 333 (by decide +kernel) (by decide +kernel)
theorem tw_335 : Cond.instanceMethod ⟨"MountainWatch", "isDay", "(I)Z"⟩ ∈ TB := TB_mem 335 (by decide +kernel) (by decide +kernel)
theorem tw_336 : Cond.code ⟨"MountainWatch", "isDay", "(I)Z"⟩ prog_1_method_35_code 2 (some .boolean) ∈ TB := TB_mem 336 (by decide +kernel) (by decide +kernel)
theorem tw_337 : Cond.constant "MountainWatch" 117 (-1000001) ∈ TB := TB_mem 337 (by decide +kernel) (by decide +kernel)
theorem tw_338 : Cond.methodLink "MountainWatchLaw" 54 ⟨"MountainWatch", "gasOf", "(I)I"⟩ ∈ TB := TB_mem 338 (by decide +kernel) (by decide +kernel)
theorem tw_339 : Cond.instanceMethod ⟨"MountainWatch", "gasOf", "(I)I"⟩ ∈ TB := TB_mem 339 (by decide +kernel) (by decide +kernel)
theorem tw_340 : Cond.selects "MountainWatch" ⟨"MountainWatch", "gasOf", "(I)I"⟩ ⟨"MountainWatch", "gasOf", "(I)I"⟩ ∈ TB := TB_mem 340 (by decide +kernel) (by decide +kernel)
theorem tw_341 : Cond.code ⟨"MountainWatch", "gasOf", "(I)I"⟩ prog_1_method_11_code 2 (some .int) ∈ TB := TB_mem 341 (by decide +kernel) (by decide +kernel)
theorem tw_342 : Cond.methodLink "MountainWatchLaw" 58 ⟨"MountainWatch", "law", "(IIII)I"⟩ ∈ TB := TB_mem 342 (by decide +kernel) (by decide +kernel)
theorem tw_343 : Cond.instanceMethod ⟨"MountainWatch", "law", "(IIII)I"⟩ ∈ TB := TB_mem 343 (by decide +kernel) (by decide +kernel)
theorem tw_344 : Cond.selects "MountainWatch" ⟨"MountainWatch", "law", "(IIII)I"⟩ ⟨"MountainWatch", "law", "(IIII)I"⟩ ∈ TB := TB_mem 344 (by decide +kernel) (by decide +kernel)
theorem tw_345 : Cond.code ⟨"MountainWatch", "law", "(IIII)I"⟩ prog_1_method_12_code 5 (some .int) ∈ TB := TB_mem 345 (by decide +kernel) (by decide +kernel)
theorem tw_346 : Cond.methodLink "MountainWatch" 118 ⟨"MountainWatch", "isLawLevel", "(I)Z"⟩ ∈ TB := TB_mem 346 (by decide +kernel) (by decide +kernel)
theorem tw_347 : Cond.static ⟨"MountainWatch", "isLawLevel", "(I)Z"⟩ ∈ TB := TB_mem 347 (by decide +kernel) (by decide +kernel)
theorem tw_348 : Cond.code ⟨"MountainWatch", "isLawLevel", "(I)Z"⟩ prog_1_method_33_code 1 (some .boolean) ∈ TB := TB_mem 348 (by decide +kernel) (by decide +kernel)
theorem tw_349 : Cond.methodLink "MountainWatch" 122 ⟨"MountainWatch$Laws", "add", "(IIII)I"⟩ ∈ TB := TB_mem 349 (by decide +kernel) (by decide +kernel)
theorem tw_350 : Cond.instanceMethod ⟨"MountainWatch$Laws", "add", "(IIII)I"⟩ ∈ TB := TB_mem 350 (by decide +kernel) (by decide +kernel)
theorem tw_351 : Cond.selects "MountainWatch$Laws" ⟨"MountainWatch$Laws", "add", "(IIII)I"⟩ ⟨"MountainWatch$Laws", "add", "(IIII)I"⟩ ∈ TB := TB_mem 351 (by decide +kernel) (by decide +kernel)
theorem tw_352 : Cond.code ⟨"MountainWatch$Laws", "add", "(IIII)I"⟩ prog_2_method_3_code 6 (some .int) ∈ TB := TB_mem 352 (by decide +kernel) (by decide +kernel)
theorem tw_353 : Cond.methodLink "MountainWatchLaw" 63 ⟨"MountainWatch", "change", "(III)I"⟩ ∈ TB := TB_mem 353 (by decide +kernel) (by decide +kernel)
theorem tw_354 : Cond.instanceMethod ⟨"MountainWatch", "change", "(III)I"⟩ ∈ TB := TB_mem 354 (by decide +kernel) (by decide +kernel)
theorem tw_355 : Cond.selects "MountainWatch" ⟨"MountainWatch", "change", "(III)I"⟩ ⟨"MountainWatch", "change", "(III)I"⟩ ∈ TB := TB_mem 355 (by decide +kernel) (by decide +kernel)
theorem tw_356 : Cond.code ⟨"MountainWatch", "change", "(III)I"⟩ prog_1_method_13_code 4 (some .int) ∈ TB := TB_mem 356 (by decide +kernel) (by decide +kernel)
theorem tw_357 : Cond.methodLink "MountainWatch" 125 ⟨"MountainWatch$Laws", "has", "(I)Z"⟩ ∈ TB := TB_mem 357 (by decide +kernel) (by decide +kernel)
theorem tw_358 : Cond.instanceMethod ⟨"MountainWatch$Laws", "has", "(I)Z"⟩ ∈ TB := TB_mem 358 (by decide +kernel) (by decide +kernel)
theorem tw_359 : Cond.selects "MountainWatch$Laws" ⟨"MountainWatch$Laws", "has", "(I)Z"⟩ ⟨"MountainWatch$Laws", "has", "(I)Z"⟩ ∈ TB := TB_mem 359 (by decide +kernel) (by decide +kernel)
theorem tw_360 : Cond.code ⟨"MountainWatch$Laws", "has", "(I)Z"⟩ prog_2_method_2_code 2 (some .boolean) ∈ TB := TB_mem 360 (by decide +kernel) (by decide +kernel)
theorem tw_361 : Cond.methodLink "MountainWatchLaw" 68 ⟨"MountainWatch", "measure", "(II)I"⟩ ∈ TB := TB_mem 361 (by decide +kernel) (by decide +kernel)
theorem tw_362 : Cond.instanceMethod ⟨"MountainWatch", "measure", "(II)I"⟩ ∈ TB := TB_mem 362 (by decide +kernel) (by decide +kernel)
theorem tw_363 : Cond.selects "MountainWatch" ⟨"MountainWatch", "measure", "(II)I"⟩ ⟨"MountainWatch", "measure", "(II)I"⟩ ∈ TB := TB_mem 363 (by decide +kernel) (by decide +kernel)
theorem tw_364 : Cond.code ⟨"MountainWatch", "measure", "(II)I"⟩ prog_1_method_14_code 3 (some .int) ∈ TB := TB_mem 364 (by decide +kernel) (by decide +kernel)
theorem tw_365 : Cond.methodLink "MountainWatch" 132 ⟨"MountainWatch", "measured", "(II)I"⟩ ∈ TB := TB_mem 365 (by decide +kernel) (by decide +kernel)
theorem tw_367 : Cond.instanceMethod ⟨"MountainWatch", "measured", "(II)I"⟩ ∈ TB := TB_mem 367 (by decide +kernel) (by decide +kernel)
theorem tw_368 : Cond.code ⟨"MountainWatch", "measured", "(II)I"⟩ prog_1_method_36_code 6 (some .int) ∈ TB := TB_mem 368 (by decide +kernel) (by decide +kernel)
theorem tw_369 : Cond.methodLink "MountainWatch" 232 ⟨"java/lang/Math", "max", "(II)I"⟩ ∈ TB := TB_mem 369 (by decide +kernel) (by decide +kernel)
theorem tw_370 : Cond.static ⟨"java/lang/Math", "max", "(II)I"⟩ ∈ TB := TB_mem 370 (by decide +kernel) (by decide +kernel)
theorem tw_371 : Cond.code ⟨"java/lang/Math", "max", "(II)I"⟩ prog_9_method_65_code 2 (some .int) ∈ TB := TB_mem 371 (by decide +kernel) (by decide +kernel)
theorem tw_372 : Cond.methodLink "MountainWatch" 240 ⟨"MountainWatch$Shakes", "countOfDays", "(II)I"⟩ ∈ TB := TB_mem 372 (by decide +kernel) (by decide +kernel)
theorem tw_373 : Cond.instanceMethod ⟨"MountainWatch$Shakes", "countOfDays", "(II)I"⟩ ∈ TB := TB_mem 373 (by decide +kernel) (by decide +kernel)
theorem tw_374 : Cond.selects "MountainWatch$Shakes" ⟨"MountainWatch$Shakes", "countOfDays", "(II)I"⟩ ⟨"MountainWatch$Shakes", "countOfDays", "(II)I"⟩ ∈ TB := TB_mem 374 (by decide +kernel) (by decide +kernel)
theorem tw_375 : Cond.code ⟨"MountainWatch$Shakes", "countOfDays", "(II)I"⟩ prog_5_method_15_code 5 (some .int) ∈ TB := TB_mem 375 (by decide +kernel) (by decide +kernel)
theorem tw_376 : Cond.methodLink "MountainWatch$Shakes" 67 ⟨"MountainWatch$Shakes", "isOfDays", "(III)Z"⟩ ∈ TB := TB_mem 376 (by decide +kernel) (by decide +kernel)
theorem tw_377 : Cond.instanceMethod ⟨"MountainWatch$Shakes", "isOfDays", "(III)Z"⟩ ∈ TB := TB_mem 377 (by decide +kernel) (by decide +kernel)
theorem tw_378 : Cond.selects "MountainWatch$Shakes" ⟨"MountainWatch$Shakes", "isOfDays", "(III)Z"⟩ ⟨"MountainWatch$Shakes", "isOfDays", "(III)Z"⟩ ∈ TB := TB_mem 378 (by decide +kernel) (by decide +kernel)
theorem tw_379 : Cond.code ⟨"MountainWatch$Shakes", "isOfDays", "(III)Z"⟩ prog_5_method_14_code 4 (some .boolean) ∈ TB := TB_mem 379 (by decide +kernel) (by decide +kernel)
theorem tw_380 : Cond.methodLink "MountainWatch" 243 ⟨"MountainWatch$Shakes", "countOfGreatestFamily", "(II)I"⟩ ∈ TB := TB_mem 380 (by decide +kernel) (by decide +kernel)
theorem tw_381 : Cond.instanceMethod ⟨"MountainWatch$Shakes", "countOfGreatestFamily", "(II)I"⟩ ∈ TB := TB_mem 381 (by decide +kernel) (by decide +kernel)
theorem tw_382 : Cond.selects "MountainWatch$Shakes" ⟨"MountainWatch$Shakes", "countOfGreatestFamily", "(II)I"⟩ ⟨"MountainWatch$Shakes", "countOfGreatestFamily", "(II)I"⟩ ∈ TB := TB_mem 382 (by decide +kernel) (by decide +kernel)
theorem tw_383 : Cond.code ⟨"MountainWatch$Shakes", "countOfGreatestFamily", "(II)I"⟩ prog_5_method_17_code 6 (some .int) ∈ TB := TB_mem 383 (by decide +kernel) (by decide +kernel)
theorem tw_384 : Cond.methodLink "MountainWatch$Shakes" 71 ⟨"java/lang/Math", "max", "(II)I"⟩ ∈ TB := TB_mem 384 (by decide +kernel) (by decide +kernel)
theorem tw_385 : Cond.methodLink "MountainWatch" 246 ⟨"MountainWatch$Readings", "tiltMove", "(II)I"⟩ ∈ TB := TB_mem 385 (by decide +kernel) (by decide +kernel)
theorem tw_386 : Cond.instanceMethod ⟨"MountainWatch$Readings", "tiltMove", "(II)I"⟩ ∈ TB := TB_mem 386 (by decide +kernel) (by decide +kernel)
theorem tw_387 : Cond.selects "MountainWatch$Readings" ⟨"MountainWatch$Readings", "tiltMove", "(II)I"⟩ ⟨"MountainWatch$Readings", "tiltMove", "(II)I"⟩ ∈ TB := TB_mem 387 (by decide +kernel) (by decide +kernel)
theorem tw_388 : Cond.code ⟨"MountainWatch$Readings", "tiltMove", "(II)I"⟩ prog_4_method_3_code 3 (some .int) ∈ TB := TB_mem 388 (by decide +kernel) (by decide +kernel)
theorem tw_389 : Cond.methodLink "MountainWatch$Readings" 19 ⟨"java/lang/Math", "abs", "(I)I"⟩ ∈ TB := TB_mem 389 (by decide +kernel) (by decide +kernel)
theorem tw_390 : Cond.static ⟨"java/lang/Math", "abs", "(I)I"⟩ ∈ TB := TB_mem 390 (by decide +kernel) (by decide +kernel)
theorem tw_391 : Cond.code ⟨"java/lang/Math", "abs", "(I)I"⟩ prog_9_method_59_code 1 (some .int) ∈ TB := TB_mem 391 (by decide +kernel) (by decide +kernel)
theorem tw_392 : Cond.methodLink "MountainWatch" 249 ⟨"MountainWatch$Readings", "gasOfDays", "(II)I"⟩ ∈ TB := TB_mem 392 (by decide +kernel) (by decide +kernel)
theorem tw_393 : Cond.instanceMethod ⟨"MountainWatch$Readings", "gasOfDays", "(II)I"⟩ ∈ TB := TB_mem 393 (by decide +kernel) (by decide +kernel)
theorem tw_394 : Cond.selects "MountainWatch$Readings" ⟨"MountainWatch$Readings", "gasOfDays", "(II)I"⟩ ⟨"MountainWatch$Readings", "gasOfDays", "(II)I"⟩ ∈ TB := TB_mem 394 (by decide +kernel) (by decide +kernel)
theorem tw_395 : Cond.code ⟨"MountainWatch$Readings", "gasOfDays", "(II)I"⟩ prog_4_method_4_code 5 (some .int) ∈ TB := TB_mem 395 (by decide +kernel) (by decide +kernel)
theorem tw_396 : Cond.methodLink "MountainWatch" 252 ⟨"MountainWatch$Shakes", "countOfKind", "(III)I"⟩ ∈ TB := TB_mem 396 (by decide +kernel) (by decide +kernel)
theorem tw_397 : Cond.instanceMethod ⟨"MountainWatch$Shakes", "countOfKind", "(III)I"⟩ ∈ TB := TB_mem 397 (by decide +kernel) (by decide +kernel)
theorem tw_398 : Cond.selects "MountainWatch$Shakes" ⟨"MountainWatch$Shakes", "countOfKind", "(III)I"⟩ ⟨"MountainWatch$Shakes", "countOfKind", "(III)I"⟩ ∈ TB := TB_mem 398 (by decide +kernel) (by decide +kernel)
theorem tw_399 : Cond.code ⟨"MountainWatch$Shakes", "countOfKind", "(III)I"⟩ prog_5_method_16_code 6 (some .int) ∈ TB := TB_mem 399 (by decide +kernel) (by decide +kernel)
theorem tw_400 : Cond.methodLink "MountainWatchLaw" 72 ⟨"MountainWatch", "isTrue", "(II)I"⟩ ∈ TB := TB_mem 400 (by decide +kernel) (by decide +kernel)
theorem tw_401 : Cond.instanceMethod ⟨"MountainWatch", "isTrue", "(II)I"⟩ ∈ TB := TB_mem 401 (by decide +kernel) (by decide +kernel)
theorem tw_402 : Cond.selects "MountainWatch" ⟨"MountainWatch", "isTrue", "(II)I"⟩ ⟨"MountainWatch", "isTrue", "(II)I"⟩ ∈ TB := TB_mem 402 (by decide +kernel) (by decide +kernel)
theorem tw_403 : Cond.code ⟨"MountainWatch", "isTrue", "(II)I"⟩ prog_1_method_15_code 3 (some .int) ∈ TB := TB_mem 403 (by decide +kernel) (by decide +kernel)
theorem tw_404 : Cond.methodLink "MountainWatch" 135 ⟨"MountainWatch", "holdsTrue", "(II)Z"⟩ ∈ TB := TB_mem 404 (by decide +kernel) (by decide +kernel)
theorem tw_406 : Cond.instanceMethod ⟨"MountainWatch", "holdsTrue", "(II)Z"⟩ ∈ TB := TB_mem 406 (by decide +kernel) (by decide +kernel)
theorem tw_407 : Cond.code ⟨"MountainWatch", "holdsTrue", "(II)Z"⟩ prog_1_method_37_code 3 (some .boolean) ∈ TB := TB_mem 407 (by decide +kernel) (by decide +kernel)
theorem tw_408 : Cond.methodLink "MountainWatchLaw" 76 ⟨"MountainWatch", "rest", "(I)I"⟩ ∈ TB := TB_mem 408 (by decide +kernel) (by decide +kernel)
theorem tw_409 : Cond.instanceMethod ⟨"MountainWatch", "rest", "(I)I"⟩ ∈ TB := TB_mem 409 (by decide +kernel) (by decide +kernel)
theorem tw_410 : Cond.selects "MountainWatch" ⟨"MountainWatch", "rest", "(I)I"⟩ ⟨"MountainWatch", "rest", "(I)I"⟩ ∈ TB := TB_mem 410 (by decide +kernel) (by decide +kernel)
theorem tw_411 : Cond.code ⟨"MountainWatch", "rest", "(I)I"⟩ prog_1_method_16_code 3 (some .int) ∈ TB := TB_mem 411 (by decide +kernel) (by decide +kernel)
theorem tw_412 : Cond.methodLink "MountainWatchLaw" 80 ⟨"MountainWatch", "next", "()I"⟩ ∈ TB := TB_mem 412 (by decide +kernel) (by decide +kernel)
theorem tw_413 : Cond.instanceMethod ⟨"MountainWatch", "next", "()I"⟩ ∈ TB := TB_mem 413 (by decide +kernel) (by decide +kernel)
theorem tw_414 : Cond.selects "MountainWatch" ⟨"MountainWatch", "next", "()I"⟩ ⟨"MountainWatch", "next", "()I"⟩ ∈ TB := TB_mem 414 (by decide +kernel) (by decide +kernel)
theorem tw_415 : Cond.code ⟨"MountainWatch", "next", "()I"⟩ prog_1_method_17_code 1 (some .int) ∈ TB := TB_mem 415 (by decide +kernel) (by decide +kernel)
theorem tw_416 : Cond.methodLink "MountainWatch" 138 ⟨"MountainWatch", "endToday", "()V"⟩ ∈ TB := TB_mem 416 (by decide +kernel) (by decide +kernel)
theorem tw_418 : Cond.instanceMethod ⟨"MountainWatch", "endToday", "()V"⟩ ∈ TB := TB_mem 418 (by decide +kernel) (by decide +kernel)
theorem tw_419 : Cond.code ⟨"MountainWatch", "endToday", "()V"⟩ prog_1_method_41_code 2 none ∈ TB := TB_mem 419 (by decide +kernel) (by decide +kernel)
theorem tw_420 : Cond.methodLink "MountainWatch" 184 ⟨"MountainWatch", "wantedToday", "()I"⟩ ∈ TB := TB_mem 420 (by decide +kernel) (by decide +kernel)
theorem tw_422 : Cond.instanceMethod ⟨"MountainWatch", "wantedToday", "()I"⟩ ∈ TB := TB_mem 422 (by decide +kernel) (by decide +kernel)
theorem tw_423 : Cond.code ⟨"MountainWatch", "wantedToday", "()I"⟩ prog_1_method_39_code 3 (some .int) ∈ TB := TB_mem 423 (by decide +kernel) (by decide +kernel)
theorem tw_424 : Cond.methodLink "MountainWatch" 153 ⟨"MountainWatch", "heldToday", "()I"⟩ ∈ TB := TB_mem 424 (by decide +kernel) (by decide +kernel)
theorem tw_426 : Cond.instanceMethod ⟨"MountainWatch", "heldToday", "()I"⟩ ∈ TB := TB_mem 426 (by decide +kernel) (by decide +kernel)
theorem tw_427 : Cond.code ⟨"MountainWatch", "heldToday", "()I"⟩ prog_1_method_38_code 1 (some .int) ∈ TB := TB_mem 427 (by decide +kernel) (by decide +kernel)
theorem tw_428 : Cond.methodLink "MountainWatch" 255 ⟨"MountainWatch", "reasonToRaise", "(I)I"⟩ ∈ TB := TB_mem 428 (by decide +kernel) (by decide +kernel)
theorem tw_430 : Cond.instanceMethod ⟨"MountainWatch", "reasonToRaise", "(I)I"⟩ ∈ TB := TB_mem 430 (by decide +kernel) (by decide +kernel)
theorem tw_431 : Cond.code ⟨"MountainWatch", "reasonToRaise", "(I)I"⟩ prog_1_method_40_code 3 (some .int) ∈ TB := TB_mem 431 (by decide +kernel) (by decide +kernel)
theorem tw_432 : Cond.methodLink "MountainWatch" 159 ⟨"MountainWatch", "setLevel", "(II)I"⟩ ∈ TB := TB_mem 432 (by decide +kernel) (by decide +kernel)
theorem tw_434 : Cond.instanceMethod ⟨"MountainWatch", "setLevel", "(II)I"⟩ ∈ TB := TB_mem 434 (by decide +kernel) (by decide +kernel)
theorem tw_435 : Cond.code ⟨"MountainWatch", "setLevel", "(II)I"⟩ prog_1_method_42_code 3 (some .int) ∈ TB := TB_mem 435 (by decide +kernel) (by decide +kernel)
theorem tw_436 : Cond.methodLink "MountainWatch" 165 ⟨"MountainWatch$Messages", "add", "(ZIII)I"⟩ ∈ TB := TB_mem 436 (by decide +kernel) (by decide +kernel)
theorem tw_437 : Cond.instanceMethod ⟨"MountainWatch$Messages", "add", "(ZIII)I"⟩ ∈ TB := TB_mem 437 (by decide +kernel) (by decide +kernel)
theorem tw_438 : Cond.selects "MountainWatch$Messages" ⟨"MountainWatch$Messages", "add", "(ZIII)I"⟩ ⟨"MountainWatch$Messages", "add", "(ZIII)I"⟩ ∈ TB := TB_mem 438 (by decide +kernel) (by decide +kernel)
theorem tw_439 : Cond.code ⟨"MountainWatch$Messages", "add", "(ZIII)I"⟩ prog_3_method_4_code 7 (some .int) ∈ TB := TB_mem 439 (by decide +kernel) (by decide +kernel)
theorem tw_440 : Cond.methodLink "MountainWatch$Messages" 26 ⟨"MountainWatch$Messages", "takeNumber", "(Z)I"⟩ ∈ TB := TB_mem 440 (by decide +kernel) (by decide +kernel)
theorem tw_441 : Cond.instanceMethod ⟨"MountainWatch$Messages", "takeNumber", "(Z)I"⟩ ∈ TB := TB_mem 441 (by decide +kernel) (by decide +kernel)
theorem tw_442 : Cond.selects "MountainWatch$Messages" ⟨"MountainWatch$Messages", "takeNumber", "(Z)I"⟩ ⟨"MountainWatch$Messages", "takeNumber", "(Z)I"⟩ ∈ TB := TB_mem 442 (by decide +kernel) (by decide +kernel)
theorem tw_443 : Cond.code ⟨"MountainWatch$Messages", "takeNumber", "(Z)I"⟩ prog_3_method_5_code 2 (some .int) ∈ TB := TB_mem 443 (by decide +kernel) (by decide +kernel)
theorem tw_444 : Cond.methodLink "MountainWatch$Messages" 30 ⟨"MountainWatch$Messages", "place", "(ZI)I"⟩ ∈ TB := TB_mem 444 (by decide +kernel) (by decide +kernel)
theorem tw_445 : Cond.static ⟨"MountainWatch$Messages", "place", "(ZI)I"⟩ ∈ TB := TB_mem 445 (by decide +kernel) (by decide +kernel)
theorem tw_446 : Cond.code ⟨"MountainWatch$Messages", "place", "(ZI)I"⟩ prog_3_method_2_code 2 (some .int) ∈ TB := TB_mem 446 (by decide +kernel) (by decide +kernel)
theorem tw_447 : Cond.methodLink "MountainWatch$Messages" 34 ⟨"MountainWatch$Messages", "countKept", "(Z)V"⟩ ∈ TB := TB_mem 447 (by decide +kernel) (by decide +kernel)
theorem tw_448 : Cond.instanceMethod ⟨"MountainWatch$Messages", "countKept", "(Z)V"⟩ ∈ TB := TB_mem 448 (by decide +kernel) (by decide +kernel)
theorem tw_449 : Cond.selects "MountainWatch$Messages" ⟨"MountainWatch$Messages", "countKept", "(Z)V"⟩ ⟨"MountainWatch$Messages", "countKept", "(Z)V"⟩ ∈ TB := TB_mem 449 (by decide +kernel) (by decide +kernel)
theorem tw_450 : Cond.code ⟨"MountainWatch$Messages", "countKept", "(Z)V"⟩ prog_3_method_6_code 2 none ∈ TB := TB_mem 450 (by decide +kernel) (by decide +kernel)
theorem tw_451 : Cond.methodLink "MountainWatch" 141 ⟨"MountainWatch$Readings", "carryTiltTo", "(I)V"⟩ ∈ TB := TB_mem 451 (by decide +kernel) (by decide +kernel)
theorem tw_452 : Cond.instanceMethod ⟨"MountainWatch$Readings", "carryTiltTo", "(I)V"⟩ ∈ TB := TB_mem 452 (by decide +kernel) (by decide +kernel)
theorem tw_453 : Cond.selects "MountainWatch$Readings" ⟨"MountainWatch$Readings", "carryTiltTo", "(I)V"⟩ ⟨"MountainWatch$Readings", "carryTiltTo", "(I)V"⟩ ∈ TB := TB_mem 453 (by decide +kernel) (by decide +kernel)
theorem tw_454 : Cond.code ⟨"MountainWatch$Readings", "carryTiltTo", "(I)V"⟩ prog_4_method_2_code 2 none ∈ TB := TB_mem 454 (by decide +kernel) (by decide +kernel)
theorem tw_455 : Cond.methodLink "MountainWatchLaw" 85 ⟨"MountainWatch", "hold", "(II)I"⟩ ∈ TB := TB_mem 455 (by decide +kernel) (by decide +kernel)
theorem tw_456 : Cond.instanceMethod ⟨"MountainWatch", "hold", "(II)I"⟩ ∈ TB := TB_mem 456 (by decide +kernel) (by decide +kernel)
theorem tw_457 : Cond.selects "MountainWatch" ⟨"MountainWatch", "hold", "(II)I"⟩ ⟨"MountainWatch", "hold", "(II)I"⟩ ∈ TB := TB_mem 457 (by decide +kernel) (by decide +kernel)
theorem tw_458 : Cond.code ⟨"MountainWatch", "hold", "(II)I"⟩ prog_1_method_18_code 3 (some .int) ∈ TB := TB_mem 458 (by decide +kernel) (by decide +kernel)
theorem tw_459 : Cond.methodLink "MountainWatchLaw" 89 ⟨"MountainWatch", "release", "()I"⟩ ∈ TB := TB_mem 459 (by decide +kernel) (by decide +kernel)
theorem tw_460 : Cond.instanceMethod ⟨"MountainWatch", "release", "()I"⟩ ∈ TB := TB_mem 460 (by decide +kernel) (by decide +kernel)
theorem tw_461 : Cond.selects "MountainWatch" ⟨"MountainWatch", "release", "()I"⟩ ⟨"MountainWatch", "release", "()I"⟩ ∈ TB := TB_mem 461 (by decide +kernel) (by decide +kernel)
theorem tw_462 : Cond.code ⟨"MountainWatch", "release", "()I"⟩ prog_1_method_19_code 2 (some .int) ∈ TB := TB_mem 462 (by decide +kernel) (by decide +kernel)
theorem tw_463 : Cond.methodLink "MountainWatchLaw" 93 ⟨"MountainWatch", "word", "(I)I"⟩ ∈ TB := TB_mem 463 (by decide +kernel) (by decide +kernel)
theorem tw_464 : Cond.instanceMethod ⟨"MountainWatch", "word", "(I)I"⟩ ∈ TB := TB_mem 464 (by decide +kernel) (by decide +kernel)
theorem tw_465 : Cond.selects "MountainWatch" ⟨"MountainWatch", "word", "(I)I"⟩ ⟨"MountainWatch", "word", "(I)I"⟩ ∈ TB := TB_mem 465 (by decide +kernel) (by decide +kernel)
theorem tw_466 : Cond.code ⟨"MountainWatch", "word", "(I)I"⟩ prog_1_method_20_code 2 (some .int) ∈ TB := TB_mem 466 (by decide +kernel) (by decide +kernel)
theorem tw_467 : Cond.methodLink "MountainWatch" 156 ⟨"MountainWatch", "isLevel", "(I)Z"⟩ ∈ TB := TB_mem 467 (by decide +kernel) (by decide +kernel)
theorem tw_468 : Cond.static ⟨"MountainWatch", "isLevel", "(I)Z"⟩ ∈ TB := TB_mem 468 (by decide +kernel) (by decide +kernel)
theorem tw_469 : Cond.code ⟨"MountainWatch", "isLevel", "(I)Z"⟩ prog_1_method_32_code 1 (some .boolean) ∈ TB := TB_mem 469 (by decide +kernel) (by decide +kernel)
theorem tw_470 : Cond.methodLink "MountainWatchLaw" 97 ⟨"MountainWatch", "drill", "(I)I"⟩ ∈ TB := TB_mem 470 (by decide +kernel) (by decide +kernel)
theorem tw_471 : Cond.instanceMethod ⟨"MountainWatch", "drill", "(I)I"⟩ ∈ TB := TB_mem 471 (by decide +kernel) (by decide +kernel)
theorem tw_472 : Cond.selects "MountainWatch" ⟨"MountainWatch", "drill", "(I)I"⟩ ⟨"MountainWatch", "drill", "(I)I"⟩ ∈ TB := TB_mem 472 (by decide +kernel) (by decide +kernel)
theorem tw_473 : Cond.code ⟨"MountainWatch", "drill", "(I)I"⟩ prog_1_method_21_code 2 (some .int) ∈ TB := TB_mem 473 (by decide +kernel) (by decide +kernel)
theorem tw_474 : Cond.methodLink "MountainWatchLaw" 101 ⟨"MountainWatch", "message", "(ZII)I"⟩ ∈ TB := TB_mem 474 (by decide +kernel) (by decide +kernel)
theorem tw_475 : Cond.instanceMethod ⟨"MountainWatch", "message", "(ZII)I"⟩ ∈ TB := TB_mem 475 (by decide +kernel) (by decide +kernel)
theorem tw_476 : Cond.selects "MountainWatch" ⟨"MountainWatch", "message", "(ZII)I"⟩ ⟨"MountainWatch", "message", "(ZII)I"⟩ ∈ TB := TB_mem 476 (by decide +kernel) (by decide +kernel)
theorem tw_477 : Cond.code ⟨"MountainWatch", "message", "(ZII)I"⟩ prog_1_method_22_code 5 (some .int) ∈ TB := TB_mem 477 (by decide +kernel) (by decide +kernel)
theorem tw_478 : Cond.methodLink "MountainWatch" 168 ⟨"MountainWatch$Messages", "isKept", "(ZI)Z"⟩ ∈ TB := TB_mem 478 (by decide +kernel) (by decide +kernel)
theorem tw_479 : Cond.instanceMethod ⟨"MountainWatch$Messages", "isKept", "(ZI)Z"⟩ ∈ TB := TB_mem 479 (by decide +kernel) (by decide +kernel)
theorem tw_480 : Cond.selects "MountainWatch$Messages" ⟨"MountainWatch$Messages", "isKept", "(ZI)Z"⟩ ⟨"MountainWatch$Messages", "isKept", "(ZI)Z"⟩ ∈ TB := TB_mem 480 (by decide +kernel) (by decide +kernel)
theorem tw_481 : Cond.code ⟨"MountainWatch$Messages", "isKept", "(ZI)Z"⟩ prog_3_method_3_code 3 (some .boolean) ∈ TB := TB_mem 481 (by decide +kernel) (by decide +kernel)
theorem tw_482 : Cond.methodLink "MountainWatch" 172 ⟨"MountainWatch$Messages", "place", "(ZI)I"⟩ ∈ TB := TB_mem 482 (by decide +kernel) (by decide +kernel)
theorem tw_483 : Cond.methodLink "MountainWatchLaw" 106 ⟨"MountainWatch", "told", "(I)I"⟩ ∈ TB := TB_mem 483 (by decide +kernel) (by decide +kernel)
theorem tw_484 : Cond.instanceMethod ⟨"MountainWatch", "told", "(I)I"⟩ ∈ TB := TB_mem 484 (by decide +kernel) (by decide +kernel)
theorem tw_485 : Cond.selects "MountainWatch" ⟨"MountainWatch", "told", "(I)I"⟩ ⟨"MountainWatch", "told", "(I)I"⟩ ∈ TB := TB_mem 485 (by decide +kernel) (by decide +kernel)
theorem tw_486 : Cond.code ⟨"MountainWatch", "told", "(I)I"⟩ prog_1_method_23_code 2 (some .int) ∈ TB := TB_mem 486 (by decide +kernel) (by decide +kernel)
theorem tw_487 : Cond.methodLink "MountainWatchLaw" 110 ⟨"MountainWatch", "node", "(III)I"⟩ ∈ TB := TB_mem 487 (by decide +kernel) (by decide +kernel)
theorem tw_488 : Cond.instanceMethod ⟨"MountainWatch", "node", "(III)I"⟩ ∈ TB := TB_mem 488 (by decide +kernel) (by decide +kernel)
theorem tw_489 : Cond.selects "MountainWatch" ⟨"MountainWatch", "node", "(III)I"⟩ ⟨"MountainWatch", "node", "(III)I"⟩ ∈ TB := TB_mem 489 (by decide +kernel) (by decide +kernel)
theorem tw_490 : Cond.code ⟨"MountainWatch", "node", "(III)I"⟩ prog_1_method_24_code 4 (some .int) ∈ TB := TB_mem 490 (by decide +kernel) (by decide +kernel)
theorem tw_491 : Cond.methodLink "MountainWatch" 192 ⟨"MountainWatch$Tree", "has", "(I)Z"⟩ ∈ TB := TB_mem 491 (by decide +kernel) (by decide +kernel)
theorem tw_492 : Cond.instanceMethod ⟨"MountainWatch$Tree", "has", "(I)Z"⟩ ∈ TB := TB_mem 492 (by decide +kernel) (by decide +kernel)
theorem tw_493 : Cond.selects "MountainWatch$Tree" ⟨"MountainWatch$Tree", "has", "(I)Z"⟩ ⟨"MountainWatch$Tree", "has", "(I)Z"⟩ ∈ TB := TB_mem 493 (by decide +kernel) (by decide +kernel)
theorem tw_494 : Cond.code ⟨"MountainWatch$Tree", "has", "(I)Z"⟩ prog_6_method_2_code 2 (some .boolean) ∈ TB := TB_mem 494 (by decide +kernel) (by decide +kernel)
theorem tw_495 : Cond.methodLink "MountainWatch" 193 ⟨"MountainWatch", "areBounds", "(II)Z"⟩ ∈ TB := TB_mem 495 (by decide +kernel) (by decide +kernel)
theorem tw_496 : Cond.static ⟨"MountainWatch", "areBounds", "(II)Z"⟩ ∈ TB := TB_mem 496 (by decide +kernel) (by decide +kernel)
theorem tw_497 : Cond.code ⟨"MountainWatch", "areBounds", "(II)Z"⟩ prog_1_method_34_code 2 (some .boolean) ∈ TB := TB_mem 497 (by decide +kernel) (by decide +kernel)
theorem tw_498 : Cond.methodLink "MountainWatch" 196 ⟨"MountainWatch$Tree", "takesChild", "(I)Z"⟩ ∈ TB := TB_mem 498 (by decide +kernel) (by decide +kernel)
theorem tw_499 : Cond.instanceMethod ⟨"MountainWatch$Tree", "takesChild", "(I)Z"⟩ ∈ TB := TB_mem 499 (by decide +kernel) (by decide +kernel)
theorem tw_500 : Cond.selects "MountainWatch$Tree" ⟨"MountainWatch$Tree", "takesChild", "(I)Z"⟩ ⟨"MountainWatch$Tree", "takesChild", "(I)Z"⟩ ∈ TB := TB_mem 500 (by decide +kernel) (by decide +kernel)
theorem tw_501 : Cond.code ⟨"MountainWatch$Tree", "takesChild", "(I)Z"⟩ prog_6_method_3_code 2 (some .boolean) ∈ TB := TB_mem 501 (by decide +kernel) (by decide +kernel)
theorem tw_502 : Cond.methodLink "MountainWatch" 199 ⟨"MountainWatch$Tree", "add", "(III)I"⟩ ∈ TB := TB_mem 502 (by decide +kernel) (by decide +kernel)
theorem tw_503 : Cond.instanceMethod ⟨"MountainWatch$Tree", "add", "(III)I"⟩ ∈ TB := TB_mem 503 (by decide +kernel) (by decide +kernel)
theorem tw_504 : Cond.selects "MountainWatch$Tree" ⟨"MountainWatch$Tree", "add", "(III)I"⟩ ⟨"MountainWatch$Tree", "add", "(III)I"⟩ ∈ TB := TB_mem 504 (by decide +kernel) (by decide +kernel)
theorem tw_505 : Cond.code ⟨"MountainWatch$Tree", "add", "(III)I"⟩ prog_6_method_4_code 5 (some .int) ∈ TB := TB_mem 505 (by decide +kernel) (by decide +kernel)
theorem tw_506 : Cond.methodLink "MountainWatchLaw" 114 ⟨"MountainWatch", "share", "(III)I"⟩ ∈ TB := TB_mem 506 (by decide +kernel) (by decide +kernel)
theorem tw_507 : Cond.instanceMethod ⟨"MountainWatch", "share", "(III)I"⟩ ∈ TB := TB_mem 507 (by decide +kernel) (by decide +kernel)
theorem tw_508 : Cond.selects "MountainWatch" ⟨"MountainWatch", "share", "(III)I"⟩ ⟨"MountainWatch", "share", "(III)I"⟩ ∈ TB := TB_mem 508 (by decide +kernel) (by decide +kernel)
theorem tw_509 : Cond.code ⟨"MountainWatch", "share", "(III)I"⟩ prog_1_method_25_code 4 (some .int) ∈ TB := TB_mem 509 (by decide +kernel) (by decide +kernel)
theorem tw_510 : Cond.methodLink "MountainWatchLaw" 118 ⟨"MountainWatch", "fear", "(IZ)I"⟩ ∈ TB := TB_mem 510 (by decide +kernel) (by decide +kernel)
theorem tw_511 : Cond.instanceMethod ⟨"MountainWatch", "fear", "(IZ)I"⟩ ∈ TB := TB_mem 511 (by decide +kernel) (by decide +kernel)
theorem tw_512 : Cond.selects "MountainWatch" ⟨"MountainWatch", "fear", "(IZ)I"⟩ ⟨"MountainWatch", "fear", "(IZ)I"⟩ ∈ TB := TB_mem 512 (by decide +kernel) (by decide +kernel)
theorem tw_513 : Cond.code ⟨"MountainWatch", "fear", "(IZ)I"⟩ prog_1_method_26_code 4 (some .int) ∈ TB := TB_mem 513 (by decide +kernel) (by decide +kernel)
theorem tw_514 : Cond.methodLink "MountainWatchLaw" 123 ⟨"MountainWatch", "sound", "()I"⟩ ∈ TB := TB_mem 514 (by decide +kernel) (by decide +kernel)
theorem tw_515 : Cond.instanceMethod ⟨"MountainWatch", "sound", "()I"⟩ ∈ TB := TB_mem 515 (by decide +kernel) (by decide +kernel)
theorem tw_516 : Cond.selects "MountainWatch" ⟨"MountainWatch", "sound", "()I"⟩ ⟨"MountainWatch", "sound", "()I"⟩ ∈ TB := TB_mem 516 (by decide +kernel) (by decide +kernel)
theorem tw_517 : Cond.code ⟨"MountainWatch", "sound", "()I"⟩ prog_1_method_27_code 1 (some .int) ∈ TB := TB_mem 517 (by decide +kernel) (by decide +kernel)
theorem tw_518 : Cond.methodLink "MountainWatch" 212 ⟨"MountainWatch$Tree", "isSound", "()Z"⟩ ∈ TB := TB_mem 518 (by decide +kernel) (by decide +kernel)
theorem tw_519 : Cond.instanceMethod ⟨"MountainWatch$Tree", "isSound", "()Z"⟩ ∈ TB := TB_mem 519 (by decide +kernel) (by decide +kernel)
theorem tw_520 : Cond.selects "MountainWatch$Tree" ⟨"MountainWatch$Tree", "isSound", "()Z"⟩ ⟨"MountainWatch$Tree", "isSound", "()Z"⟩ ∈ TB := TB_mem 520 (by decide +kernel) (by decide +kernel)
theorem tw_521 : Cond.code ⟨"MountainWatch$Tree", "isSound", "()Z"⟩ prog_6_method_5_code 2 (some .boolean) ∈ TB := TB_mem 521 (by decide +kernel) (by decide +kernel)
theorem tw_522 : Cond.methodLink "MountainWatch$Tree" 41 ⟨"MountainWatch$Tree", "hasShares", "(I)Z"⟩ ∈ TB := TB_mem 522 (by decide +kernel) (by decide +kernel)
theorem tw_523 : Cond.instanceMethod ⟨"MountainWatch$Tree", "hasShares", "(I)Z"⟩ ∈ TB := TB_mem 523 (by decide +kernel) (by decide +kernel)
theorem tw_524 : Cond.selects "MountainWatch$Tree" ⟨"MountainWatch$Tree", "hasShares", "(I)Z"⟩ ⟨"MountainWatch$Tree", "hasShares", "(I)Z"⟩ ∈ TB := TB_mem 524 (by decide +kernel) (by decide +kernel)
theorem tw_525 : Cond.code ⟨"MountainWatch$Tree", "hasShares", "(I)Z"⟩ prog_6_method_6_code 5 (some .boolean) ∈ TB := TB_mem 525 (by decide +kernel) (by decide +kernel)
theorem tw_526 : Cond.methodLink "MountainWatchLaw" 127 ⟨"MountainWatch", "chance", "(II)I"⟩ ∈ TB := TB_mem 526 (by decide +kernel) (by decide +kernel)
theorem tw_527 : Cond.instanceMethod ⟨"MountainWatch", "chance", "(II)I"⟩ ∈ TB := TB_mem 527 (by decide +kernel) (by decide +kernel)
theorem tw_528 : Cond.selects "MountainWatch" ⟨"MountainWatch", "chance", "(II)I"⟩ ⟨"MountainWatch", "chance", "(II)I"⟩ ∈ TB := TB_mem 528 (by decide +kernel) (by decide +kernel)
theorem tw_529 : Cond.code ⟨"MountainWatch", "chance", "(II)I"⟩ prog_1_method_28_code 3 (some .int) ∈ TB := TB_mem 529 (by decide +kernel) (by decide +kernel)
theorem tw_530 : Cond.methodLink "MountainWatch" 216 ⟨"MountainWatch$Tree", "chanceOf", "(IZ)I"⟩ ∈ TB := TB_mem 530 (by decide +kernel) (by decide +kernel)
theorem tw_531 : Cond.instanceMethod ⟨"MountainWatch$Tree", "chanceOf", "(IZ)I"⟩ ∈ TB := TB_mem 531 (by decide +kernel) (by decide +kernel)
theorem tw_532 : Cond.selects "MountainWatch$Tree" ⟨"MountainWatch$Tree", "chanceOf", "(IZ)I"⟩ ⟨"MountainWatch$Tree", "chanceOf", "(IZ)I"⟩ ∈ TB := TB_mem 532 (by decide +kernel) (by decide +kernel)
theorem tw_533 : Cond.code ⟨"MountainWatch$Tree", "chanceOf", "(IZ)I"⟩ prog_6_method_7_code 4 (some .int) ∈ TB := TB_mem 533 (by decide +kernel) (by decide +kernel)
theorem tw_534 : Cond.methodLink "MountainWatch$Tree" 45 ⟨"MountainWatch$Tree", "chanceByShares", "(IZ)I"⟩ ∈ TB := TB_mem 534 (by decide +kernel) (by decide +kernel)
theorem tw_535 : Cond.instanceMethod ⟨"MountainWatch$Tree", "chanceByShares", "(IZ)I"⟩ ∈ TB := TB_mem 535 (by decide +kernel) (by decide +kernel)
theorem tw_536 : Cond.selects "MountainWatch$Tree" ⟨"MountainWatch$Tree", "chanceByShares", "(IZ)I"⟩ ⟨"MountainWatch$Tree", "chanceByShares", "(IZ)I"⟩ ∈ TB := TB_mem 536 (by decide +kernel) (by decide +kernel)
theorem tw_537 : Cond.code ⟨"MountainWatch$Tree", "chanceByShares", "(IZ)I"⟩ prog_6_method_8_code 9 (some .int) ∈ TB := TB_mem 537 (by decide +kernel) (by decide +kernel)
theorem tw_538 : Cond.methodLink "MountainWatch$Tree" 50 ⟨"MountainWatch$Tree", "bestUnserved", "(IZ)I"⟩ ∈ TB := TB_mem 538 (by decide +kernel) (by decide +kernel)
theorem tw_539 : Cond.instanceMethod ⟨"MountainWatch$Tree", "bestUnserved", "(IZ)I"⟩ ∈ TB := TB_mem 539 (by decide +kernel) (by decide +kernel)
theorem tw_540 : Cond.selects "MountainWatch$Tree" ⟨"MountainWatch$Tree", "bestUnserved", "(IZ)I"⟩ ⟨"MountainWatch$Tree", "bestUnserved", "(IZ)I"⟩ ∈ TB := TB_mem 540 (by decide +kernel) (by decide +kernel)
theorem tw_541 : Cond.code ⟨"MountainWatch$Tree", "bestUnserved", "(IZ)I"⟩ prog_6_method_9_code 5 (some .int) ∈ TB := TB_mem 541 (by decide +kernel) (by decide +kernel)
theorem tw_542 : Cond.methodLink "MountainWatch$Tree" 61 ⟨"MountainWatch$Tree", "isBetter", "(IIZ)Z"⟩ ∈ TB := TB_mem 542 (by decide +kernel) (by decide +kernel)
theorem tw_543 : Cond.static ⟨"MountainWatch$Tree", "isBetter", "(IIZ)Z"⟩ ∈ TB := TB_mem 543 (by decide +kernel) (by decide +kernel)
theorem tw_544 : Cond.code ⟨"MountainWatch$Tree", "isBetter", "(IIZ)Z"⟩ prog_6_method_10_code 3 (some .boolean) ∈ TB := TB_mem 544 (by decide +kernel) (by decide +kernel)
theorem tw_545 : Cond.methodLink "MountainWatch$Tree" 53 ⟨"java/lang/Math", "min", "(II)I"⟩ ∈ TB := TB_mem 545 (by decide +kernel) (by decide +kernel)
theorem tw_546 : Cond.constantLong "MountainWatch$Tree" 59 100 ∈ TB := TB_mem 546 (by decide +kernel) (by decide +kernel)
theorem tw_547 : Cond.constant "MountainWatch$Tree" 49 100000000 ∈ TB := TB_mem 547 (by decide +kernel) (by decide +kernel)
theorem tw_548 : Cond.methodLink "MountainWatchLaw" 131 ⟨"MountainWatch", "ofNode", "(II)I"⟩ ∈ TB := TB_mem 548 (by decide +kernel) (by decide +kernel)
theorem tw_549 : Cond.instanceMethod ⟨"MountainWatch", "ofNode", "(II)I"⟩ ∈ TB := TB_mem 549 (by decide +kernel) (by decide +kernel)
theorem tw_550 : Cond.selects "MountainWatch" ⟨"MountainWatch", "ofNode", "(II)I"⟩ ⟨"MountainWatch", "ofNode", "(II)I"⟩ ∈ TB := TB_mem 550 (by decide +kernel) (by decide +kernel)
theorem tw_551 : Cond.code ⟨"MountainWatch", "ofNode", "(II)I"⟩ prog_1_method_29_code 3 (some .int) ∈ TB := TB_mem 551 (by decide +kernel) (by decide +kernel)
theorem tw_558 : Cond.fieldLink "MountainWatchModel" 84 "MountainWatchModel" "today" "I" ∈ TB := TB_mem 558 (by decide +kernel) (by decide +kernel)
theorem tw_559 : Cond.fieldLink "MountainWatchModel" 73 "MountainWatchModel" "shakes" "I" ∈ TB := TB_mem 559 (by decide +kernel) (by decide +kernel)
theorem tw_560 : Cond.fieldLink "MountainWatchModel" 7 "MountainWatchModel" "dayOf" "[I" ∈ TB := TB_mem 560 (by decide +kernel) (by decide +kernel)
theorem tw_561 : Cond.fieldLink "MountainWatchModel" 13 "MountainWatchModel" "band" "[I" ∈ TB := TB_mem 561 (by decide +kernel) (by decide +kernel)
theorem tw_562 : Cond.fieldLink "MountainWatchModel" 16 "MountainWatchModel" "family" "[I" ∈ TB := TB_mem 562 (by decide +kernel) (by decide +kernel)
theorem tw_563 : Cond.fieldLink "MountainWatchModel" 87 "MountainWatchModel" "areMarked" "Z" ∈ TB := TB_mem 563 (by decide +kernel) (by decide +kernel)
theorem tw_564 : Cond.fieldLink "MountainWatchModel" 19 "MountainWatchModel" "likeness" "I" ∈ TB := TB_mem 564 (by decide +kernel) (by decide +kernel)
theorem tw_565 : Cond.fieldLink "MountainWatchModel" 23 "MountainWatchModel" "hasTilt" "[Z" ∈ TB := TB_mem 565 (by decide +kernel) (by decide +kernel)
theorem tw_566 : Cond.fieldLink "MountainWatchModel" 27 "MountainWatchModel" "tilt" "[I" ∈ TB := TB_mem 566 (by decide +kernel) (by decide +kernel)
theorem tw_567 : Cond.fieldLink "MountainWatchModel" 30 "MountainWatchModel" "gas" "[I" ∈ TB := TB_mem 567 (by decide +kernel) (by decide +kernel)
theorem tw_568 : Cond.fieldLink "MountainWatchModel" 120 "MountainWatchModel" "laws" "I" ∈ TB := TB_mem 568 (by decide +kernel) (by decide +kernel)
theorem tw_569 : Cond.fieldLink "MountainWatchModel" 33 "MountainWatchModel" "lawLevel" "[I" ∈ TB := TB_mem 569 (by decide +kernel) (by decide +kernel)
theorem tw_570 : Cond.fieldLink "MountainWatchModel" 36 "MountainWatchModel" "lawMeasure" "[I" ∈ TB := TB_mem 570 (by decide +kernel) (by decide +kernel)
theorem tw_571 : Cond.fieldLink "MountainWatchModel" 39 "MountainWatchModel" "lawNumber" "[I" ∈ TB := TB_mem 571 (by decide +kernel) (by decide +kernel)
theorem tw_572 : Cond.fieldLink "MountainWatchModel" 42 "MountainWatchModel" "lawSpan" "[I" ∈ TB := TB_mem 572 (by decide +kernel) (by decide +kernel)
theorem tw_573 : Cond.fieldLink "MountainWatchModel" 45 "MountainWatchModel" "rest" "I" ∈ TB := TB_mem 573 (by decide +kernel) (by decide +kernel)
theorem tw_574 : Cond.fieldLink "MountainWatchModel" 150 "MountainWatchModel" "level" "I" ∈ TB := TB_mem 574 (by decide +kernel) (by decide +kernel)
theorem tw_575 : Cond.fieldLink "MountainWatchModel" 153 "MountainWatchModel" "calm" "I" ∈ TB := TB_mem 575 (by decide +kernel) (by decide +kernel)
theorem tw_576 : Cond.fieldLink "MountainWatchModel" 140 "MountainWatchModel" "holdLevel" "I" ∈ TB := TB_mem 576 (by decide +kernel) (by decide +kernel)
theorem tw_577 : Cond.fieldLink "MountainWatchModel" 137 "MountainWatchModel" "holdEnd" "I" ∈ TB := TB_mem 577 (by decide +kernel) (by decide +kernel)
theorem tw_578 : Cond.fieldLink "MountainWatchModel" 147 "MountainWatchModel" "kept" "I" ∈ TB := TB_mem 578 (by decide +kernel) (by decide +kernel)
theorem tw_579 : Cond.fieldLink "MountainWatchModel" 48 "MountainWatchModel" "message" "[I" ∈ TB := TB_mem 579 (by decide +kernel) (by decide +kernel)
theorem tw_580 : Cond.fieldLink "MountainWatchModel" 156 "MountainWatchModel" "messages" "I" ∈ TB := TB_mem 580 (by decide +kernel) (by decide +kernel)
theorem tw_581 : Cond.fieldLink "MountainWatchModel" 172 "MountainWatchModel" "drills" "I" ∈ TB := TB_mem 581 (by decide +kernel) (by decide +kernel)
theorem tw_582 : Cond.fieldLink "MountainWatchModel" 169 "MountainWatchModel" "drillLevel" "I" ∈ TB := TB_mem 582 (by decide +kernel) (by decide +kernel)
theorem tw_583 : Cond.fieldLink "MountainWatchModel" 51 "MountainWatchModel" "nodes" "I" ∈ TB := TB_mem 583 (by decide +kernel) (by decide +kernel)
theorem tw_584 : Cond.fieldLink "MountainWatchModel" 54 "MountainWatchModel" "parent" "[I" ∈ TB := TB_mem 584 (by decide +kernel) (by decide +kernel)
theorem tw_585 : Cond.fieldLink "MountainWatchModel" 57 "MountainWatchModel" "low" "[I" ∈ TB := TB_mem 585 (by decide +kernel) (by decide +kernel)
theorem tw_586 : Cond.fieldLink "MountainWatchModel" 60 "MountainWatchModel" "high" "[I" ∈ TB := TB_mem 586 (by decide +kernel) (by decide +kernel)
theorem tw_587 : Cond.fieldLink "MountainWatchModel" 63 "MountainWatchModel" "isFeared" "[Z" ∈ TB := TB_mem 587 (by decide +kernel) (by decide +kernel)
theorem tw_588 : Cond.fieldLink "MountainWatchModel" 66 "MountainWatchModel" "chance" "[J" ∈ TB := TB_mem 588 (by decide +kernel) (by decide +kernel)
theorem tw_589 : Cond.fieldLink "MountainWatchModel" 70 "MountainWatchModel" "isGiven" "[Z" ∈ TB := TB_mem 589 (by decide +kernel) (by decide +kernel)
theorem tw_656 : Cond.methodLink "MountainWatchLaw" 19 ⟨"MountainWatchModel", "shake", "(J)I"⟩ ∈ TB := TB_mem 656 (by decide +kernel) (by decide +kernel)
theorem tw_657 : Cond.instanceMethod ⟨"MountainWatchModel", "shake", "(J)I"⟩ ∈ TB := TB_mem 657 (by decide +kernel) (by decide +kernel)
theorem tw_658 : Cond.selects "MountainWatchModel" ⟨"MountainWatchModel", "shake", "(J)I"⟩ ⟨"MountainWatchModel", "shake", "(J)I"⟩ ∈ TB := TB_mem 658 (by decide +kernel) (by decide +kernel)
theorem tw_659 : Cond.code ⟨"MountainWatchModel", "shake", "(J)I"⟩ prog_8_method_4_code 6 (some .int) ∈ TB := TB_mem 659 (by decide +kernel) (by decide +kernel)
theorem tw_660 : Cond.constantLong "MountainWatchModel" 80 1061520150601 ∈ TB := TB_mem 660 (by decide +kernel) (by decide +kernel)
theorem tw_661 : Cond.constantLong "MountainWatchModel" 82 101 ∈ TB := TB_mem 661 (by decide +kernel) (by decide +kernel)
theorem tw_662 : Cond.methodLink "MountainWatchLaw" 24 ⟨"MountainWatchModel", "about", "(II)I"⟩ ∈ TB := TB_mem 662 (by decide +kernel) (by decide +kernel)
theorem tw_663 : Cond.instanceMethod ⟨"MountainWatchModel", "about", "(II)I"⟩ ∈ TB := TB_mem 663 (by decide +kernel) (by decide +kernel)
theorem tw_664 : Cond.selects "MountainWatchModel" ⟨"MountainWatchModel", "about", "(II)I"⟩ ⟨"MountainWatchModel", "about", "(II)I"⟩ ∈ TB := TB_mem 664 (by decide +kernel) (by decide +kernel)
theorem tw_665 : Cond.code ⟨"MountainWatchModel", "about", "(II)I"⟩ prog_8_method_9_code 3 (some .int) ∈ TB := TB_mem 665 (by decide +kernel) (by decide +kernel)
theorem tw_666 : Cond.methodLink "MountainWatchModel" 101 ⟨"MountainWatchModel", "isShake", "(I)Z"⟩ ∈ TB := TB_mem 666 (by decide +kernel) (by decide +kernel)
theorem tw_668 : Cond.instanceMethod ⟨"MountainWatchModel", "isShake", "(I)Z"⟩ ∈ TB := TB_mem 668 (by decide +kernel) (by decide +kernel)
theorem tw_669 : Cond.code ⟨"MountainWatchModel", "isShake", "(I)Z"⟩ prog_8_method_3_code 2 (some .boolean) ∈ TB := TB_mem 669 (by decide +kernel) (by decide +kernel)
theorem tw_670 : Cond.methodLink "MountainWatchModel" 76 ⟨"MountainWatchModel", "in", "(III)Z"⟩ ∈ TB := TB_mem 670 (by decide +kernel) (by decide +kernel)
theorem tw_671 : Cond.static ⟨"MountainWatchModel", "in", "(III)Z"⟩ ∈ TB := TB_mem 671 (by decide +kernel) (by decide +kernel)
theorem tw_672 : Cond.code ⟨"MountainWatchModel", "in", "(III)Z"⟩ prog_8_method_2_code 3 (some .boolean) ∈ TB := TB_mem 672 (by decide +kernel) (by decide +kernel)
theorem tw_673 : Cond.methodLink "MountainWatchModel" 105 ⟨"MountainWatchModel", "mark", "()V"⟩ ∈ TB := TB_mem 673 (by decide +kernel) (by decide +kernel)
theorem tw_675 : Cond.instanceMethod ⟨"MountainWatchModel", "mark", "()V"⟩ ∈ TB := TB_mem 675 (by decide +kernel) (by decide +kernel)
theorem tw_676 : Cond.code ⟨"MountainWatchModel", "mark", "()V"⟩ prog_8_method_8_code 4 none ∈ TB := TB_mem 676 (by decide +kernel) (by decide +kernel)
theorem tw_677 : Cond.methodLink "MountainWatchModel" 97 ⟨"MountainWatchModel", "areAlike", "(II)Z"⟩ ∈ TB := TB_mem 677 (by decide +kernel) (by decide +kernel)
theorem tw_679 : Cond.instanceMethod ⟨"MountainWatchModel", "areAlike", "(II)Z"⟩ ∈ TB := TB_mem 679 (by decide +kernel) (by decide +kernel)
theorem tw_680 : Cond.code ⟨"MountainWatchModel", "areAlike", "(II)Z"⟩ prog_8_method_7_code 5 (some .boolean) ∈ TB := TB_mem 680 (by decide +kernel) (by decide +kernel)
theorem tw_681 : Cond.methodLink "MountainWatchModel" 91 ⟨"MountainWatchModel", "product", "(II)J"⟩ ∈ TB := TB_mem 681 (by decide +kernel) (by decide +kernel)
theorem tw_683 : Cond.instanceMethod ⟨"MountainWatchModel", "product", "(II)J"⟩ ∈ TB := TB_mem 683 (by decide +kernel) (by decide +kernel)
theorem tw_684 : Cond.code ⟨"MountainWatchModel", "product", "(II)J"⟩ prog_8_method_6_code 6 (some .long) ∈ TB := TB_mem 684 (by decide +kernel) (by decide +kernel)
theorem tw_685 : Cond.constantLong "MountainWatchModel" 95 100 ∈ TB := TB_mem 685 (by decide +kernel) (by decide +kernel)
theorem tw_686 : Cond.methodLink "MountainWatchModel" 108 ⟨"MountainWatchModel", "kindOf", "(I)I"⟩ ∈ TB := TB_mem 686 (by decide +kernel) (by decide +kernel)
theorem tw_688 : Cond.instanceMethod ⟨"MountainWatchModel", "kindOf", "(I)I"⟩ ∈ TB := TB_mem 688 (by decide +kernel) (by decide +kernel)
theorem tw_689 : Cond.code ⟨"MountainWatchModel", "kindOf", "(I)I"⟩ prog_8_method_5_code 4 (some .int) ∈ TB := TB_mem 689 (by decide +kernel) (by decide +kernel)
theorem tw_690 : Cond.methodLink "MountainWatchLaw" 28 ⟨"MountainWatchModel", "alike", "(II)I"⟩ ∈ TB := TB_mem 690 (by decide +kernel) (by decide +kernel)
theorem tw_691 : Cond.instanceMethod ⟨"MountainWatchModel", "alike", "(II)I"⟩ ∈ TB := TB_mem 691 (by decide +kernel) (by decide +kernel)
theorem tw_692 : Cond.selects "MountainWatchModel" ⟨"MountainWatchModel", "alike", "(II)I"⟩ ⟨"MountainWatchModel", "alike", "(II)I"⟩ ∈ TB := TB_mem 692 (by decide +kernel) (by decide +kernel)
theorem tw_693 : Cond.code ⟨"MountainWatchModel", "alike", "(II)I"⟩ prog_8_method_10_code 3 (some .int) ∈ TB := TB_mem 693 (by decide +kernel) (by decide +kernel)
theorem tw_694 : Cond.methodLink "MountainWatchLaw" 33 ⟨"MountainWatchModel", "likeness", "(I)I"⟩ ∈ TB := TB_mem 694 (by decide +kernel) (by decide +kernel)
theorem tw_695 : Cond.instanceMethod ⟨"MountainWatchModel", "likeness", "(I)I"⟩ ∈ TB := TB_mem 695 (by decide +kernel) (by decide +kernel)
theorem tw_696 : Cond.selects "MountainWatchModel" ⟨"MountainWatchModel", "likeness", "(I)I"⟩ ⟨"MountainWatchModel", "likeness", "(I)I"⟩ ∈ TB := TB_mem 696 (by decide +kernel) (by decide +kernel)
theorem tw_697 : Cond.code ⟨"MountainWatchModel", "likeness", "(I)I"⟩ prog_8_method_11_code 3 (some .int) ∈ TB := TB_mem 697 (by decide +kernel) (by decide +kernel)
theorem tw_698 : Cond.methodLink "MountainWatchLaw" 37 ⟨"MountainWatchModel", "family", "(I)I"⟩ ∈ TB := TB_mem 698 (by decide +kernel) (by decide +kernel)
theorem tw_699 : Cond.instanceMethod ⟨"MountainWatchModel", "family", "(I)I"⟩ ∈ TB := TB_mem 699 (by decide +kernel) (by decide +kernel)
theorem tw_700 : Cond.selects "MountainWatchModel" ⟨"MountainWatchModel", "family", "(I)I"⟩ ⟨"MountainWatchModel", "family", "(I)I"⟩ ∈ TB := TB_mem 700 (by decide +kernel) (by decide +kernel)
theorem tw_701 : Cond.code ⟨"MountainWatchModel", "family", "(I)I"⟩ prog_8_method_12_code 4 (some .int) ∈ TB := TB_mem 701 (by decide +kernel) (by decide +kernel)
theorem tw_702 : Cond.methodLink "MountainWatchLaw" 41 ⟨"MountainWatchModel", "kin", "(I)I"⟩ ∈ TB := TB_mem 702 (by decide +kernel) (by decide +kernel)
theorem tw_703 : Cond.instanceMethod ⟨"MountainWatchModel", "kin", "(I)I"⟩ ∈ TB := TB_mem 703 (by decide +kernel) (by decide +kernel)
theorem tw_704 : Cond.selects "MountainWatchModel" ⟨"MountainWatchModel", "kin", "(I)I"⟩ ⟨"MountainWatchModel", "kin", "(I)I"⟩ ∈ TB := TB_mem 704 (by decide +kernel) (by decide +kernel)
theorem tw_705 : Cond.code ⟨"MountainWatchModel", "kin", "(I)I"⟩ prog_8_method_13_code 4 (some .int) ∈ TB := TB_mem 705 (by decide +kernel) (by decide +kernel)
theorem tw_706 : Cond.methodLink "MountainWatchLaw" 45 ⟨"MountainWatchModel", "tilt", "(I)I"⟩ ∈ TB := TB_mem 706 (by decide +kernel) (by decide +kernel)
theorem tw_707 : Cond.instanceMethod ⟨"MountainWatchModel", "tilt", "(I)I"⟩ ∈ TB := TB_mem 707 (by decide +kernel) (by decide +kernel)
theorem tw_708 : Cond.selects "MountainWatchModel" ⟨"MountainWatchModel", "tilt", "(I)I"⟩ ⟨"MountainWatchModel", "tilt", "(I)I"⟩ ∈ TB := TB_mem 708 (by decide +kernel) (by decide +kernel)
theorem tw_709 : Cond.code ⟨"MountainWatchModel", "tilt", "(I)I"⟩ prog_8_method_14_code 2 (some .int) ∈ TB := TB_mem 709 (by decide +kernel) (by decide +kernel)
theorem tw_710 : Cond.methodLink "MountainWatchLaw" 49 ⟨"MountainWatchModel", "gas", "(I)I"⟩ ∈ TB := TB_mem 710 (by decide +kernel) (by decide +kernel)
theorem tw_711 : Cond.instanceMethod ⟨"MountainWatchModel", "gas", "(I)I"⟩ ∈ TB := TB_mem 711 (by decide +kernel) (by decide +kernel)
theorem tw_712 : Cond.selects "MountainWatchModel" ⟨"MountainWatchModel", "gas", "(I)I"⟩ ⟨"MountainWatchModel", "gas", "(I)I"⟩ ∈ TB := TB_mem 712 (by decide +kernel) (by decide +kernel)
theorem tw_713 : Cond.code ⟨"MountainWatchModel", "gas", "(I)I"⟩ prog_8_method_15_code 2 (some .int) ∈ TB := TB_mem 713 (by decide +kernel) (by decide +kernel)
theorem tw_714 : Cond.methodLink "MountainWatchLaw" 53 ⟨"MountainWatchModel", "tiltAt", "(I)I"⟩ ∈ TB := TB_mem 714 (by decide +kernel) (by decide +kernel)
theorem tw_715 : Cond.instanceMethod ⟨"MountainWatchModel", "tiltAt", "(I)I"⟩ ∈ TB := TB_mem 715 (by decide +kernel) (by decide +kernel)
theorem tw_716 : Cond.selects "MountainWatchModel" ⟨"MountainWatchModel", "tiltAt", "(I)I"⟩ ⟨"MountainWatchModel", "tiltAt", "(I)I"⟩ ∈ TB := TB_mem 716 (by decide +kernel) (by decide +kernel)
theorem tw_717 : Cond.code ⟨"MountainWatchModel", "tiltAt", "(I)I"⟩ prog_8_method_18_code 3 (some .int) ∈ TB := TB_mem 717 (by decide +kernel) (by decide +kernel)
theorem tw_718 : Cond.methodLink "MountainWatchModel" 112 ⟨"MountainWatchModel", "isDay", "(I)Z"⟩ ∈ TB := TB_mem 718 (by decide +kernel) (by decide +kernel)
theorem tw_720 : Cond.instanceMethod ⟨"MountainWatchModel", "isDay", "(I)Z"⟩ ∈ TB := TB_mem 720 (by decide +kernel) (by decide +kernel)
theorem tw_721 : Cond.code ⟨"MountainWatchModel", "isDay", "(I)Z"⟩ prog_8_method_16_code 2 (some .boolean) ∈ TB := TB_mem 721 (by decide +kernel) (by decide +kernel)
theorem tw_722 : Cond.constant "MountainWatchModel" 115 (-1000001) ∈ TB := TB_mem 722 (by decide +kernel) (by decide +kernel)
theorem tw_723 : Cond.methodLink "MountainWatchModel" 116 ⟨"MountainWatchModel", "tiltDay", "(I)I"⟩ ∈ TB := TB_mem 723 (by decide +kernel) (by decide +kernel)
theorem tw_725 : Cond.instanceMethod ⟨"MountainWatchModel", "tiltDay", "(I)I"⟩ ∈ TB := TB_mem 725 (by decide +kernel) (by decide +kernel)
theorem tw_726 : Cond.code ⟨"MountainWatchModel", "tiltDay", "(I)I"⟩ prog_8_method_17_code 3 (some .int) ∈ TB := TB_mem 726 (by decide +kernel) (by decide +kernel)
theorem tw_727 : Cond.constant "MountainWatchModel" 119 (-1000005) ∈ TB := TB_mem 727 (by decide +kernel) (by decide +kernel)
theorem tw_728 : Cond.methodLink "MountainWatchLaw" 57 ⟨"MountainWatchModel", "gasOf", "(I)I"⟩ ∈ TB := TB_mem 728 (by decide +kernel) (by decide +kernel)
theorem tw_729 : Cond.instanceMethod ⟨"MountainWatchModel", "gasOf", "(I)I"⟩ ∈ TB := TB_mem 729 (by decide +kernel) (by decide +kernel)
theorem tw_730 : Cond.selects "MountainWatchModel" ⟨"MountainWatchModel", "gasOf", "(I)I"⟩ ⟨"MountainWatchModel", "gasOf", "(I)I"⟩ ∈ TB := TB_mem 730 (by decide +kernel) (by decide +kernel)
theorem tw_731 : Cond.code ⟨"MountainWatchModel", "gasOf", "(I)I"⟩ prog_8_method_19_code 2 (some .int) ∈ TB := TB_mem 731 (by decide +kernel) (by decide +kernel)
theorem tw_732 : Cond.methodLink "MountainWatchLaw" 62 ⟨"MountainWatchModel", "law", "(IIII)I"⟩ ∈ TB := TB_mem 732 (by decide +kernel) (by decide +kernel)
theorem tw_733 : Cond.instanceMethod ⟨"MountainWatchModel", "law", "(IIII)I"⟩ ∈ TB := TB_mem 733 (by decide +kernel) (by decide +kernel)
theorem tw_734 : Cond.selects "MountainWatchModel" ⟨"MountainWatchModel", "law", "(IIII)I"⟩ ⟨"MountainWatchModel", "law", "(IIII)I"⟩ ∈ TB := TB_mem 734 (by decide +kernel) (by decide +kernel)
theorem tw_735 : Cond.code ⟨"MountainWatchModel", "law", "(IIII)I"⟩ prog_8_method_20_code 5 (some .int) ∈ TB := TB_mem 735 (by decide +kernel) (by decide +kernel)
theorem tw_736 : Cond.methodLink "MountainWatchLaw" 67 ⟨"MountainWatchModel", "change", "(III)I"⟩ ∈ TB := TB_mem 736 (by decide +kernel) (by decide +kernel)
theorem tw_737 : Cond.instanceMethod ⟨"MountainWatchModel", "change", "(III)I"⟩ ∈ TB := TB_mem 737 (by decide +kernel) (by decide +kernel)
theorem tw_738 : Cond.selects "MountainWatchModel" ⟨"MountainWatchModel", "change", "(III)I"⟩ ⟨"MountainWatchModel", "change", "(III)I"⟩ ∈ TB := TB_mem 738 (by decide +kernel) (by decide +kernel)
theorem tw_739 : Cond.code ⟨"MountainWatchModel", "change", "(III)I"⟩ prog_8_method_22_code 4 (some .int) ∈ TB := TB_mem 739 (by decide +kernel) (by decide +kernel)
theorem tw_740 : Cond.methodLink "MountainWatchModel" 123 ⟨"MountainWatchModel", "isLaw", "(I)Z"⟩ ∈ TB := TB_mem 740 (by decide +kernel) (by decide +kernel)
theorem tw_742 : Cond.instanceMethod ⟨"MountainWatchModel", "isLaw", "(I)Z"⟩ ∈ TB := TB_mem 742 (by decide +kernel) (by decide +kernel)
theorem tw_743 : Cond.code ⟨"MountainWatchModel", "isLaw", "(I)Z"⟩ prog_8_method_21_code 2 (some .boolean) ∈ TB := TB_mem 743 (by decide +kernel) (by decide +kernel)
theorem tw_744 : Cond.methodLink "MountainWatchLaw" 71 ⟨"MountainWatchModel", "measure", "(II)I"⟩ ∈ TB := TB_mem 744 (by decide +kernel) (by decide +kernel)
theorem tw_745 : Cond.instanceMethod ⟨"MountainWatchModel", "measure", "(II)I"⟩ ∈ TB := TB_mem 745 (by decide +kernel) (by decide +kernel)
theorem tw_746 : Cond.selects "MountainWatchModel" ⟨"MountainWatchModel", "measure", "(II)I"⟩ ⟨"MountainWatchModel", "measure", "(II)I"⟩ ∈ TB := TB_mem 746 (by decide +kernel) (by decide +kernel)
theorem tw_747 : Cond.code ⟨"MountainWatchModel", "measure", "(II)I"⟩ prog_8_method_26_code 3 (some .int) ∈ TB := TB_mem 747 (by decide +kernel) (by decide +kernel)
theorem tw_748 : Cond.methodLink "MountainWatchModel" 130 ⟨"MountainWatchModel", "measureOf", "(II)I"⟩ ∈ TB := TB_mem 748 (by decide +kernel) (by decide +kernel)
theorem tw_750 : Cond.instanceMethod ⟨"MountainWatchModel", "measureOf", "(II)I"⟩ ∈ TB := TB_mem 750 (by decide +kernel) (by decide +kernel)
theorem tw_751 : Cond.code ⟨"MountainWatchModel", "measureOf", "(II)I"⟩ prog_8_method_24_code 10 (some .int) ∈ TB := TB_mem 751 (by decide +kernel) (by decide +kernel)
theorem tw_752 : Cond.methodLink "MountainWatchModel" 126 ⟨"MountainWatchModel", "within", "(III)I"⟩ ∈ TB := TB_mem 752 (by decide +kernel) (by decide +kernel)
theorem tw_754 : Cond.instanceMethod ⟨"MountainWatchModel", "within", "(III)I"⟩ ∈ TB := TB_mem 754 (by decide +kernel) (by decide +kernel)
theorem tw_755 : Cond.code ⟨"MountainWatchModel", "within", "(III)I"⟩ prog_8_method_23_code 7 (some .int) ∈ TB := TB_mem 755 (by decide +kernel) (by decide +kernel)
theorem tw_756 : Cond.methodLink "MountainWatchLaw" 75 ⟨"MountainWatchModel", "isTrue", "(II)I"⟩ ∈ TB := TB_mem 756 (by decide +kernel) (by decide +kernel)
theorem tw_757 : Cond.instanceMethod ⟨"MountainWatchModel", "isTrue", "(II)I"⟩ ∈ TB := TB_mem 757 (by decide +kernel) (by decide +kernel)
theorem tw_758 : Cond.selects "MountainWatchModel" ⟨"MountainWatchModel", "isTrue", "(II)I"⟩ ⟨"MountainWatchModel", "isTrue", "(II)I"⟩ ∈ TB := TB_mem 758 (by decide +kernel) (by decide +kernel)
theorem tw_759 : Cond.code ⟨"MountainWatchModel", "isTrue", "(II)I"⟩ prog_8_method_27_code 3 (some .int) ∈ TB := TB_mem 759 (by decide +kernel) (by decide +kernel)
theorem tw_760 : Cond.methodLink "MountainWatchModel" 134 ⟨"MountainWatchModel", "holdsOn", "(II)Z"⟩ ∈ TB := TB_mem 760 (by decide +kernel) (by decide +kernel)
theorem tw_762 : Cond.instanceMethod ⟨"MountainWatchModel", "holdsOn", "(II)Z"⟩ ∈ TB := TB_mem 762 (by decide +kernel) (by decide +kernel)
theorem tw_763 : Cond.code ⟨"MountainWatchModel", "holdsOn", "(II)Z"⟩ prog_8_method_25_code 3 (some .boolean) ∈ TB := TB_mem 763 (by decide +kernel) (by decide +kernel)
theorem tw_764 : Cond.methodLink "MountainWatchLaw" 79 ⟨"MountainWatchModel", "rest", "(I)I"⟩ ∈ TB := TB_mem 764 (by decide +kernel) (by decide +kernel)
theorem tw_765 : Cond.instanceMethod ⟨"MountainWatchModel", "rest", "(I)I"⟩ ∈ TB := TB_mem 765 (by decide +kernel) (by decide +kernel)
theorem tw_766 : Cond.selects "MountainWatchModel" ⟨"MountainWatchModel", "rest", "(I)I"⟩ ⟨"MountainWatchModel", "rest", "(I)I"⟩ ∈ TB := TB_mem 766 (by decide +kernel) (by decide +kernel)
theorem tw_767 : Cond.code ⟨"MountainWatchModel", "rest", "(I)I"⟩ prog_8_method_28_code 3 (some .int) ∈ TB := TB_mem 767 (by decide +kernel) (by decide +kernel)
theorem tw_768 : Cond.methodLink "MountainWatchLaw" 84 ⟨"MountainWatchModel", "next", "()I"⟩ ∈ TB := TB_mem 768 (by decide +kernel) (by decide +kernel)
theorem tw_769 : Cond.instanceMethod ⟨"MountainWatchModel", "next", "()I"⟩ ∈ TB := TB_mem 769 (by decide +kernel) (by decide +kernel)
theorem tw_770 : Cond.selects "MountainWatchModel" ⟨"MountainWatchModel", "next", "()I"⟩ ⟨"MountainWatchModel", "next", "()I"⟩ ∈ TB := TB_mem 770 (by decide +kernel) (by decide +kernel)
theorem tw_771 : Cond.code ⟨"MountainWatchModel", "next", "()I"⟩ prog_8_method_33_code 4 (some .int) ∈ TB := TB_mem 771 (by decide +kernel) (by decide +kernel)
theorem tw_772 : Cond.methodLink "MountainWatchModel" 163 ⟨"MountainWatchModel", "wanted", "()I"⟩ ∈ TB := TB_mem 772 (by decide +kernel) (by decide +kernel)
theorem tw_774 : Cond.instanceMethod ⟨"MountainWatchModel", "wanted", "()I"⟩ ∈ TB := TB_mem 774 (by decide +kernel) (by decide +kernel)
theorem tw_775 : Cond.code ⟨"MountainWatchModel", "wanted", "()I"⟩ prog_8_method_30_code 3 (some .int) ∈ TB := TB_mem 775 (by decide +kernel) (by decide +kernel)
theorem tw_776 : Cond.methodLink "MountainWatchModel" 143 ⟨"MountainWatchModel", "holdNow", "()I"⟩ ∈ TB := TB_mem 776 (by decide +kernel) (by decide +kernel)
theorem tw_778 : Cond.instanceMethod ⟨"MountainWatchModel", "holdNow", "()I"⟩ ∈ TB := TB_mem 778 (by decide +kernel) (by decide +kernel)
theorem tw_779 : Cond.code ⟨"MountainWatchModel", "holdNow", "()I"⟩ prog_8_method_29_code 1 (some .int) ∈ TB := TB_mem 779 (by decide +kernel) (by decide +kernel)
theorem tw_780 : Cond.methodLink "MountainWatchModel" 166 ⟨"MountainWatchModel", "turns", "(II)I"⟩ ∈ TB := TB_mem 780 (by decide +kernel) (by decide +kernel)
theorem tw_782 : Cond.instanceMethod ⟨"MountainWatchModel", "turns", "(II)I"⟩ ∈ TB := TB_mem 782 (by decide +kernel) (by decide +kernel)
theorem tw_783 : Cond.code ⟨"MountainWatchModel", "turns", "(II)I"⟩ prog_8_method_32_code 3 (some .int) ∈ TB := TB_mem 783 (by decide +kernel) (by decide +kernel)
theorem tw_784 : Cond.methodLink "MountainWatchModel" 159 ⟨"MountainWatchModel", "tells", "(IIII)V"⟩ ∈ TB := TB_mem 784 (by decide +kernel) (by decide +kernel)
theorem tw_786 : Cond.instanceMethod ⟨"MountainWatchModel", "tells", "(IIII)V"⟩ ∈ TB := TB_mem 786 (by decide +kernel) (by decide +kernel)
theorem tw_787 : Cond.code ⟨"MountainWatchModel", "tells", "(IIII)V"⟩ prog_8_method_31_code 5 none ∈ TB := TB_mem 787 (by decide +kernel) (by decide +kernel)
theorem tw_788 : Cond.methodLink "MountainWatchLaw" 88 ⟨"MountainWatchModel", "hold", "(II)I"⟩ ∈ TB := TB_mem 788 (by decide +kernel) (by decide +kernel)
theorem tw_789 : Cond.instanceMethod ⟨"MountainWatchModel", "hold", "(II)I"⟩ ∈ TB := TB_mem 789 (by decide +kernel) (by decide +kernel)
theorem tw_790 : Cond.selects "MountainWatchModel" ⟨"MountainWatchModel", "hold", "(II)I"⟩ ⟨"MountainWatchModel", "hold", "(II)I"⟩ ∈ TB := TB_mem 790 (by decide +kernel) (by decide +kernel)
theorem tw_791 : Cond.code ⟨"MountainWatchModel", "hold", "(II)I"⟩ prog_8_method_34_code 3 (some .int) ∈ TB := TB_mem 791 (by decide +kernel) (by decide +kernel)
theorem tw_792 : Cond.methodLink "MountainWatchLaw" 92 ⟨"MountainWatchModel", "release", "()I"⟩ ∈ TB := TB_mem 792 (by decide +kernel) (by decide +kernel)
theorem tw_793 : Cond.instanceMethod ⟨"MountainWatchModel", "release", "()I"⟩ ∈ TB := TB_mem 793 (by decide +kernel) (by decide +kernel)
theorem tw_794 : Cond.selects "MountainWatchModel" ⟨"MountainWatchModel", "release", "()I"⟩ ⟨"MountainWatchModel", "release", "()I"⟩ ∈ TB := TB_mem 794 (by decide +kernel) (by decide +kernel)
theorem tw_795 : Cond.code ⟨"MountainWatchModel", "release", "()I"⟩ prog_8_method_35_code 2 (some .int) ∈ TB := TB_mem 795 (by decide +kernel) (by decide +kernel)
theorem tw_796 : Cond.methodLink "MountainWatchLaw" 96 ⟨"MountainWatchModel", "word", "(I)I"⟩ ∈ TB := TB_mem 796 (by decide +kernel) (by decide +kernel)
theorem tw_797 : Cond.instanceMethod ⟨"MountainWatchModel", "word", "(I)I"⟩ ∈ TB := TB_mem 797 (by decide +kernel) (by decide +kernel)
theorem tw_798 : Cond.selects "MountainWatchModel" ⟨"MountainWatchModel", "word", "(I)I"⟩ ⟨"MountainWatchModel", "word", "(I)I"⟩ ∈ TB := TB_mem 798 (by decide +kernel) (by decide +kernel)
theorem tw_799 : Cond.code ⟨"MountainWatchModel", "word", "(I)I"⟩ prog_8_method_36_code 2 (some .int) ∈ TB := TB_mem 799 (by decide +kernel) (by decide +kernel)
theorem tw_800 : Cond.methodLink "MountainWatchLaw" 100 ⟨"MountainWatchModel", "drill", "(I)I"⟩ ∈ TB := TB_mem 800 (by decide +kernel) (by decide +kernel)
theorem tw_801 : Cond.instanceMethod ⟨"MountainWatchModel", "drill", "(I)I"⟩ ∈ TB := TB_mem 801 (by decide +kernel) (by decide +kernel)
theorem tw_802 : Cond.selects "MountainWatchModel" ⟨"MountainWatchModel", "drill", "(I)I"⟩ ⟨"MountainWatchModel", "drill", "(I)I"⟩ ∈ TB := TB_mem 802 (by decide +kernel) (by decide +kernel)
theorem tw_803 : Cond.code ⟨"MountainWatchModel", "drill", "(I)I"⟩ prog_8_method_37_code 2 (some .int) ∈ TB := TB_mem 803 (by decide +kernel) (by decide +kernel)
theorem tw_804 : Cond.methodLink "MountainWatchLaw" 105 ⟨"MountainWatchModel", "message", "(ZII)I"⟩ ∈ TB := TB_mem 804 (by decide +kernel) (by decide +kernel)
theorem tw_805 : Cond.instanceMethod ⟨"MountainWatchModel", "message", "(ZII)I"⟩ ∈ TB := TB_mem 805 (by decide +kernel) (by decide +kernel)
theorem tw_806 : Cond.selects "MountainWatchModel" ⟨"MountainWatchModel", "message", "(ZII)I"⟩ ⟨"MountainWatchModel", "message", "(ZII)I"⟩ ∈ TB := TB_mem 806 (by decide +kernel) (by decide +kernel)
theorem tw_807 : Cond.code ⟨"MountainWatchModel", "message", "(ZII)I"⟩ prog_8_method_38_code 6 (some .int) ∈ TB := TB_mem 807 (by decide +kernel) (by decide +kernel)
theorem tw_808 : Cond.methodLink "MountainWatchLaw" 109 ⟨"MountainWatchModel", "told", "(I)I"⟩ ∈ TB := TB_mem 808 (by decide +kernel) (by decide +kernel)
theorem tw_809 : Cond.instanceMethod ⟨"MountainWatchModel", "told", "(I)I"⟩ ∈ TB := TB_mem 809 (by decide +kernel) (by decide +kernel)
theorem tw_810 : Cond.selects "MountainWatchModel" ⟨"MountainWatchModel", "told", "(I)I"⟩ ⟨"MountainWatchModel", "told", "(I)I"⟩ ∈ TB := TB_mem 810 (by decide +kernel) (by decide +kernel)
theorem tw_811 : Cond.code ⟨"MountainWatchModel", "told", "(I)I"⟩ prog_8_method_39_code 2 (some .int) ∈ TB := TB_mem 811 (by decide +kernel) (by decide +kernel)
theorem tw_812 : Cond.methodLink "MountainWatchLaw" 113 ⟨"MountainWatchModel", "node", "(III)I"⟩ ∈ TB := TB_mem 812 (by decide +kernel) (by decide +kernel)
theorem tw_813 : Cond.instanceMethod ⟨"MountainWatchModel", "node", "(III)I"⟩ ∈ TB := TB_mem 813 (by decide +kernel) (by decide +kernel)
theorem tw_814 : Cond.selects "MountainWatchModel" ⟨"MountainWatchModel", "node", "(III)I"⟩ ⟨"MountainWatchModel", "node", "(III)I"⟩ ∈ TB := TB_mem 814 (by decide +kernel) (by decide +kernel)
theorem tw_815 : Cond.code ⟨"MountainWatchModel", "node", "(III)I"⟩ prog_8_method_44_code 4 (some .int) ∈ TB := TB_mem 815 (by decide +kernel) (by decide +kernel)
theorem tw_816 : Cond.methodLink "MountainWatchModel" 175 ⟨"MountainWatchModel", "isNode", "(I)Z"⟩ ∈ TB := TB_mem 816 (by decide +kernel) (by decide +kernel)
theorem tw_818 : Cond.instanceMethod ⟨"MountainWatchModel", "isNode", "(I)Z"⟩ ∈ TB := TB_mem 818 (by decide +kernel) (by decide +kernel)
theorem tw_819 : Cond.code ⟨"MountainWatchModel", "isNode", "(I)Z"⟩ prog_8_method_40_code 2 (some .boolean) ∈ TB := TB_mem 819 (by decide +kernel) (by decide +kernel)
theorem tw_820 : Cond.methodLink "MountainWatchModel" 178 ⟨"MountainWatchModel", "isShare", "(II)Z"⟩ ∈ TB := TB_mem 820 (by decide +kernel) (by decide +kernel)
theorem tw_821 : Cond.static ⟨"MountainWatchModel", "isShare", "(II)Z"⟩ ∈ TB := TB_mem 821 (by decide +kernel) (by decide +kernel)
theorem tw_822 : Cond.code ⟨"MountainWatchModel", "isShare", "(II)Z"⟩ prog_8_method_43_code 2 (some .boolean) ∈ TB := TB_mem 822 (by decide +kernel) (by decide +kernel)
theorem tw_823 : Cond.methodLink "MountainWatchModel" 181 ⟨"MountainWatchModel", "depth", "(I)I"⟩ ∈ TB := TB_mem 823 (by decide +kernel) (by decide +kernel)
theorem tw_825 : Cond.instanceMethod ⟨"MountainWatchModel", "depth", "(I)I"⟩ ∈ TB := TB_mem 825 (by decide +kernel) (by decide +kernel)
theorem tw_826 : Cond.code ⟨"MountainWatchModel", "depth", "(I)I"⟩ prog_8_method_42_code 4 (some .int) ∈ TB := TB_mem 826 (by decide +kernel) (by decide +kernel)
theorem tw_827 : Cond.methodLink "MountainWatchModel" 184 ⟨"MountainWatchModel", "children", "(I)I"⟩ ∈ TB := TB_mem 827 (by decide +kernel) (by decide +kernel)
theorem tw_829 : Cond.instanceMethod ⟨"MountainWatchModel", "children", "(I)I"⟩ ∈ TB := TB_mem 829 (by decide +kernel) (by decide +kernel)
theorem tw_830 : Cond.code ⟨"MountainWatchModel", "children", "(I)I"⟩ prog_8_method_41_code 4 (some .int) ∈ TB := TB_mem 830 (by decide +kernel) (by decide +kernel)
theorem tw_831 : Cond.methodLink "MountainWatchLaw" 117 ⟨"MountainWatchModel", "share", "(III)I"⟩ ∈ TB := TB_mem 831 (by decide +kernel) (by decide +kernel)
theorem tw_832 : Cond.instanceMethod ⟨"MountainWatchModel", "share", "(III)I"⟩ ∈ TB := TB_mem 832 (by decide +kernel) (by decide +kernel)
theorem tw_833 : Cond.selects "MountainWatchModel" ⟨"MountainWatchModel", "share", "(III)I"⟩ ⟨"MountainWatchModel", "share", "(III)I"⟩ ∈ TB := TB_mem 833 (by decide +kernel) (by decide +kernel)
theorem tw_834 : Cond.code ⟨"MountainWatchModel", "share", "(III)I"⟩ prog_8_method_45_code 4 (some .int) ∈ TB := TB_mem 834 (by decide +kernel) (by decide +kernel)
theorem tw_835 : Cond.methodLink "MountainWatchLaw" 122 ⟨"MountainWatchModel", "fear", "(IZ)I"⟩ ∈ TB := TB_mem 835 (by decide +kernel) (by decide +kernel)
theorem tw_836 : Cond.instanceMethod ⟨"MountainWatchModel", "fear", "(IZ)I"⟩ ∈ TB := TB_mem 836 (by decide +kernel) (by decide +kernel)
theorem tw_837 : Cond.selects "MountainWatchModel" ⟨"MountainWatchModel", "fear", "(IZ)I"⟩ ⟨"MountainWatchModel", "fear", "(IZ)I"⟩ ∈ TB := TB_mem 837 (by decide +kernel) (by decide +kernel)
theorem tw_838 : Cond.code ⟨"MountainWatchModel", "fear", "(IZ)I"⟩ prog_8_method_46_code 4 (some .int) ∈ TB := TB_mem 838 (by decide +kernel) (by decide +kernel)
theorem tw_839 : Cond.methodLink "MountainWatchLaw" 126 ⟨"MountainWatchModel", "sound", "()I"⟩ ∈ TB := TB_mem 839 (by decide +kernel) (by decide +kernel)
theorem tw_840 : Cond.instanceMethod ⟨"MountainWatchModel", "sound", "()I"⟩ ∈ TB := TB_mem 840 (by decide +kernel) (by decide +kernel)
theorem tw_841 : Cond.selects "MountainWatchModel" ⟨"MountainWatchModel", "sound", "()I"⟩ ⟨"MountainWatchModel", "sound", "()I"⟩ ∈ TB := TB_mem 841 (by decide +kernel) (by decide +kernel)
theorem tw_842 : Cond.code ⟨"MountainWatchModel", "sound", "()I"⟩ prog_8_method_49_code 1 (some .int) ∈ TB := TB_mem 842 (by decide +kernel) (by decide +kernel)
theorem tw_843 : Cond.methodLink "MountainWatchModel" 191 ⟨"MountainWatchModel", "isSound", "()Z"⟩ ∈ TB := TB_mem 843 (by decide +kernel) (by decide +kernel)
theorem tw_845 : Cond.instanceMethod ⟨"MountainWatchModel", "isSound", "()Z"⟩ ∈ TB := TB_mem 845 (by decide +kernel) (by decide +kernel)
theorem tw_846 : Cond.code ⟨"MountainWatchModel", "isSound", "()Z"⟩ prog_8_method_48_code 3 (some .boolean) ∈ TB := TB_mem 846 (by decide +kernel) (by decide +kernel)
theorem tw_847 : Cond.methodLink "MountainWatchModel" 187 ⟨"MountainWatchModel", "bounds", "(I[I)I"⟩ ∈ TB := TB_mem 847 (by decide +kernel) (by decide +kernel)
theorem tw_849 : Cond.instanceMethod ⟨"MountainWatchModel", "bounds", "(I[I)I"⟩ ∈ TB := TB_mem 849 (by decide +kernel) (by decide +kernel)
theorem tw_850 : Cond.code ⟨"MountainWatchModel", "bounds", "(I[I)I"⟩ prog_8_method_47_code 5 (some .int) ∈ TB := TB_mem 850 (by decide +kernel) (by decide +kernel)
theorem tw_851 : Cond.methodLink "MountainWatchLaw" 130 ⟨"MountainWatchModel", "chance", "(II)I"⟩ ∈ TB := TB_mem 851 (by decide +kernel) (by decide +kernel)
theorem tw_852 : Cond.instanceMethod ⟨"MountainWatchModel", "chance", "(II)I"⟩ ∈ TB := TB_mem 852 (by decide +kernel) (by decide +kernel)
theorem tw_853 : Cond.selects "MountainWatchModel" ⟨"MountainWatchModel", "chance", "(II)I"⟩ ⟨"MountainWatchModel", "chance", "(II)I"⟩ ∈ TB := TB_mem 853 (by decide +kernel) (by decide +kernel)
theorem tw_854 : Cond.code ⟨"MountainWatchModel", "chance", "(II)I"⟩ prog_8_method_51_code 4 (some .int) ∈ TB := TB_mem 854 (by decide +kernel) (by decide +kernel)
theorem tw_855 : Cond.methodLink "MountainWatchModel" 195 ⟨"MountainWatchModel", "mixed", "(II)J"⟩ ∈ TB := TB_mem 855 (by decide +kernel) (by decide +kernel)
theorem tw_857 : Cond.instanceMethod ⟨"MountainWatchModel", "mixed", "(II)J"⟩ ∈ TB := TB_mem 857 (by decide +kernel) (by decide +kernel)
theorem tw_858 : Cond.code ⟨"MountainWatchModel", "mixed", "(II)J"⟩ prog_8_method_50_code 9 (some .long) ∈ TB := TB_mem 858 (by decide +kernel) (by decide +kernel)
theorem tw_859 : Cond.constantLong "MountainWatchModel" 198 100000000 ∈ TB := TB_mem 859 (by decide +kernel) (by decide +kernel)
theorem tw_860 : Cond.methodLink "MountainWatchLaw" 134 ⟨"MountainWatchModel", "ofNode", "(II)I"⟩ ∈ TB := TB_mem 860 (by decide +kernel) (by decide +kernel)
theorem tw_861 : Cond.instanceMethod ⟨"MountainWatchModel", "ofNode", "(II)I"⟩ ∈ TB := TB_mem 861 (by decide +kernel) (by decide +kernel)
theorem tw_862 : Cond.selects "MountainWatchModel" ⟨"MountainWatchModel", "ofNode", "(II)I"⟩ ⟨"MountainWatchModel", "ofNode", "(II)I"⟩ ∈ TB := TB_mem 862 (by decide +kernel) (by decide +kernel)
theorem tw_863 : Cond.code ⟨"MountainWatchModel", "ofNode", "(II)I"⟩ prog_8_method_52_code 3 (some .int) ∈ TB := TB_mem 863 (by decide +kernel) (by decide +kernel)
theorem tw_864 : Cond.constantLong "MountainWatchLaw" 13 4294967295 ∈ TB := TB_mem 864 (by decide +kernel) (by decide +kernel)
end
section
section PL
variable {D : va_G} {ad : Nat → Nat} {ca : Nat → ClassId} {sc : SC} {M : MI} {pc : Nat} {lv : List (Nat × Value)} {st : List Value} {h : Hp} {Q : Option Value → Hp → Prop}
theorem G_MW_shakes {idx : Nat} (hw : Cond.fieldLink M.1 idx "MountainWatch" "shakes" "LMountainWatch$Shakes;" ∈ TB) (hd : decode M.2.1 pc = .ok (.getfield idx, 3)) (kk : WP D ad ca sc M (pc + 3) lv (.ref (ad 1) :: st) h Q) : WP D ad ca sc M pc lv (.ref (ad 0) :: st) h Q :=
  P_getf (k := 0) (ci := 0) (j := 0) (fs := fs_MW ad (h 0)) (by decide) rfl rfl i_MW (by decide) rfl rfl hw hd kk
theorem G_MW_readings {idx : Nat} (hw : Cond.fieldLink M.1 idx "MountainWatch" "readings" "LMountainWatch$Readings;" ∈ TB) (hd : decode M.2.1 pc = .ok (.getfield idx, 3)) (kk : WP D ad ca sc M (pc + 3) lv (.ref (ad 7) :: st) h Q) : WP D ad ca sc M pc lv (.ref (ad 0) :: st) h Q :=
  P_getf (k := 0) (ci := 0) (j := 1) (fs := fs_MW ad (h 0)) (by decide) rfl rfl i_MW (by decide) rfl rfl hw hd kk
theorem G_MW_laws {idx : Nat} (hw : Cond.fieldLink M.1 idx "MountainWatch" "laws" "LMountainWatch$Laws;" ∈ TB) (hd : decode M.2.1 pc = .ok (.getfield idx, 3)) (kk : WP D ad ca sc M (pc + 3) lv (.ref (ad 10) :: st) h Q) : WP D ad ca sc M pc lv (.ref (ad 0) :: st) h Q :=
  P_getf (k := 0) (ci := 0) (j := 2) (fs := fs_MW ad (h 0)) (by decide) rfl rfl i_MW (by decide) rfl rfl hw hd kk
theorem G_MW_messages {idx : Nat} (hw : Cond.fieldLink M.1 idx "MountainWatch" "messages" "LMountainWatch$Messages;" ∈ TB) (hd : decode M.2.1 pc = .ok (.getfield idx, 3)) (kk : WP D ad ca sc M (pc + 3) lv (.ref (ad 15) :: st) h Q) : WP D ad ca sc M pc lv (.ref (ad 0) :: st) h Q :=
  P_getf (k := 0) (ci := 0) (j := 3) (fs := fs_MW ad (h 0)) (by decide) rfl rfl i_MW (by decide) rfl rfl hw hd kk
theorem G_MW_tree {idx : Nat} (hw : Cond.fieldLink M.1 idx "MountainWatch" "tree" "LMountainWatch$Tree;" ∈ TB) (hd : decode M.2.1 pc = .ok (.getfield idx, 3)) (kk : WP D ad ca sc M (pc + 3) lv (.ref (ad 19) :: st) h Q) : WP D ad ca sc M pc lv (.ref (ad 0) :: st) h Q :=
  P_getf (k := 0) (ci := 0) (j := 4) (fs := fs_MW ad (h 0)) (by decide) rfl rfl i_MW (by decide) rfl rfl hw hd kk
theorem G_MW_today {idx : Nat} (hw : Cond.fieldLink M.1 idx "MountainWatch" "today" "I" ∈ TB) (hd : decode M.2.1 pc = .ok (.getfield idx, 3)) (kk : InR (h 0 5) → WP D ad ca sc M (pc + 3) lv (vI (h 0 5) :: st) h Q) : WP D ad ca sc M pc lv (.ref (ad 0) :: st) h Q :=
  P_HR (fun hh => P_getf (k := 0) (ci := 0) (j := 5) (fs := fs_MW ad (h 0)) (by decide) rfl rfl i_MW (by decide) rfl rfl hw hd (kk ((hh 0 5).2 (by decide))))
theorem S_MW_today {x : Int} {idx : Nat} (hw : Cond.fieldLink M.1 idx "MountainWatch" "today" "I" ∈ TB) (hd : decode M.2.1 pc = .ok (.putfield idx, 3)) (hx : InR x) (kk : WP D ad ca sc M (pc + 3) lv st (up h 0 5 x) Q) : WP D ad ca sc M pc lv (vI x :: .ref (ad 0) :: st) h Q :=
  P_putf (k := 0) (ci := 0) (j := 5) (fs := fs_MW ad (h 0)) (ty := .int) (ty0 := t_MW) (by decide) rfl rfl rfl i_MW t_MW_ok n_MW (by decide) rfl rfl (by decide +kernel) rfl rfl (Nat.le_of_ble_eq_true rfl) (by decide) hx hw hd kk
theorem G_MW_level {idx : Nat} (hw : Cond.fieldLink M.1 idx "MountainWatch" "level" "I" ∈ TB) (hd : decode M.2.1 pc = .ok (.getfield idx, 3)) (kk : InR (h 0 6) → WP D ad ca sc M (pc + 3) lv (vI (h 0 6) :: st) h Q) : WP D ad ca sc M pc lv (.ref (ad 0) :: st) h Q :=
  P_HR (fun hh => P_getf (k := 0) (ci := 0) (j := 6) (fs := fs_MW ad (h 0)) (by decide) rfl rfl i_MW (by decide) rfl rfl hw hd (kk ((hh 0 6).2 (by decide))))
theorem S_MW_level {x : Int} {idx : Nat} (hw : Cond.fieldLink M.1 idx "MountainWatch" "level" "I" ∈ TB) (hd : decode M.2.1 pc = .ok (.putfield idx, 3)) (hx : InR x) (kk : WP D ad ca sc M (pc + 3) lv st (up h 0 6 x) Q) : WP D ad ca sc M pc lv (vI x :: .ref (ad 0) :: st) h Q :=
  P_putf (k := 0) (ci := 0) (j := 6) (fs := fs_MW ad (h 0)) (ty := .int) (ty0 := t_MW) (by decide) rfl rfl rfl i_MW t_MW_ok n_MW (by decide) rfl rfl (by decide +kernel) rfl rfl (Nat.le_of_ble_eq_true rfl) (by decide) hx hw hd kk
theorem G_MW_calm {idx : Nat} (hw : Cond.fieldLink M.1 idx "MountainWatch" "calm" "I" ∈ TB) (hd : decode M.2.1 pc = .ok (.getfield idx, 3)) (kk : InR (h 0 7) → WP D ad ca sc M (pc + 3) lv (vI (h 0 7) :: st) h Q) : WP D ad ca sc M pc lv (.ref (ad 0) :: st) h Q :=
  P_HR (fun hh => P_getf (k := 0) (ci := 0) (j := 7) (fs := fs_MW ad (h 0)) (by decide) rfl rfl i_MW (by decide) rfl rfl hw hd (kk ((hh 0 7).2 (by decide))))
theorem S_MW_calm {x : Int} {idx : Nat} (hw : Cond.fieldLink M.1 idx "MountainWatch" "calm" "I" ∈ TB) (hd : decode M.2.1 pc = .ok (.putfield idx, 3)) (hx : InR x) (kk : WP D ad ca sc M (pc + 3) lv st (up h 0 7 x) Q) : WP D ad ca sc M pc lv (vI x :: .ref (ad 0) :: st) h Q :=
  P_putf (k := 0) (ci := 0) (j := 7) (fs := fs_MW ad (h 0)) (ty := .int) (ty0 := t_MW) (by decide) rfl rfl rfl i_MW t_MW_ok n_MW (by decide) rfl rfl (by decide +kernel) rfl rfl (Nat.le_of_ble_eq_true rfl) (by decide) hx hw hd kk
theorem G_MW_restDays {idx : Nat} (hw : Cond.fieldLink M.1 idx "MountainWatch" "restDays" "I" ∈ TB) (hd : decode M.2.1 pc = .ok (.getfield idx, 3)) (kk : InR (h 0 8) → WP D ad ca sc M (pc + 3) lv (vI (h 0 8) :: st) h Q) : WP D ad ca sc M pc lv (.ref (ad 0) :: st) h Q :=
  P_HR (fun hh => P_getf (k := 0) (ci := 0) (j := 8) (fs := fs_MW ad (h 0)) (by decide) rfl rfl i_MW (by decide) rfl rfl hw hd (kk ((hh 0 8).2 (by decide))))
theorem S_MW_restDays {x : Int} {idx : Nat} (hw : Cond.fieldLink M.1 idx "MountainWatch" "restDays" "I" ∈ TB) (hd : decode M.2.1 pc = .ok (.putfield idx, 3)) (hx : InR x) (kk : WP D ad ca sc M (pc + 3) lv st (up h 0 8 x) Q) : WP D ad ca sc M pc lv (vI x :: .ref (ad 0) :: st) h Q :=
  P_putf (k := 0) (ci := 0) (j := 8) (fs := fs_MW ad (h 0)) (ty := .int) (ty0 := t_MW) (by decide) rfl rfl rfl i_MW t_MW_ok n_MW (by decide) rfl rfl (by decide +kernel) rfl rfl (Nat.le_of_ble_eq_true rfl) (by decide) hx hw hd kk
theorem G_MW_holdLevel {idx : Nat} (hw : Cond.fieldLink M.1 idx "MountainWatch" "holdLevel" "I" ∈ TB) (hd : decode M.2.1 pc = .ok (.getfield idx, 3)) (kk : InR (h 0 9) → WP D ad ca sc M (pc + 3) lv (vI (h 0 9) :: st) h Q) : WP D ad ca sc M pc lv (.ref (ad 0) :: st) h Q :=
  P_HR (fun hh => P_getf (k := 0) (ci := 0) (j := 9) (fs := fs_MW ad (h 0)) (by decide) rfl rfl i_MW (by decide) rfl rfl hw hd (kk ((hh 0 9).2 (by decide))))
theorem S_MW_holdLevel {x : Int} {idx : Nat} (hw : Cond.fieldLink M.1 idx "MountainWatch" "holdLevel" "I" ∈ TB) (hd : decode M.2.1 pc = .ok (.putfield idx, 3)) (hx : InR x) (kk : WP D ad ca sc M (pc + 3) lv st (up h 0 9 x) Q) : WP D ad ca sc M pc lv (vI x :: .ref (ad 0) :: st) h Q :=
  P_putf (k := 0) (ci := 0) (j := 9) (fs := fs_MW ad (h 0)) (ty := .int) (ty0 := t_MW) (by decide) rfl rfl rfl i_MW t_MW_ok n_MW (by decide) rfl rfl (by decide +kernel) rfl rfl (Nat.le_of_ble_eq_true rfl) (by decide) hx hw hd kk
theorem G_MW_holdEnd {idx : Nat} (hw : Cond.fieldLink M.1 idx "MountainWatch" "holdEnd" "I" ∈ TB) (hd : decode M.2.1 pc = .ok (.getfield idx, 3)) (kk : InR (h 0 10) → WP D ad ca sc M (pc + 3) lv (vI (h 0 10) :: st) h Q) : WP D ad ca sc M pc lv (.ref (ad 0) :: st) h Q :=
  P_HR (fun hh => P_getf (k := 0) (ci := 0) (j := 10) (fs := fs_MW ad (h 0)) (by decide) rfl rfl i_MW (by decide) rfl rfl hw hd (kk ((hh 0 10).2 (by decide))))
theorem S_MW_holdEnd {x : Int} {idx : Nat} (hw : Cond.fieldLink M.1 idx "MountainWatch" "holdEnd" "I" ∈ TB) (hd : decode M.2.1 pc = .ok (.putfield idx, 3)) (hx : InR x) (kk : WP D ad ca sc M (pc + 3) lv st (up h 0 10 x) Q) : WP D ad ca sc M pc lv (vI x :: .ref (ad 0) :: st) h Q :=
  P_putf (k := 0) (ci := 0) (j := 10) (fs := fs_MW ad (h 0)) (ty := .int) (ty0 := t_MW) (by decide) rfl rfl rfl i_MW t_MW_ok n_MW (by decide) rfl rfl (by decide +kernel) rfl rfl (Nat.le_of_ble_eq_true rfl) (by decide) hx hw hd kk
theorem G_MW_drillLevel {idx : Nat} (hw : Cond.fieldLink M.1 idx "MountainWatch" "drillLevel" "I" ∈ TB) (hd : decode M.2.1 pc = .ok (.getfield idx, 3)) (kk : InR (h 0 11) → WP D ad ca sc M (pc + 3) lv (vI (h 0 11) :: st) h Q) : WP D ad ca sc M pc lv (.ref (ad 0) :: st) h Q :=
  P_HR (fun hh => P_getf (k := 0) (ci := 0) (j := 11) (fs := fs_MW ad (h 0)) (by decide) rfl rfl i_MW (by decide) rfl rfl hw hd (kk ((hh 0 11).2 (by decide))))
theorem S_MW_drillLevel {x : Int} {idx : Nat} (hw : Cond.fieldLink M.1 idx "MountainWatch" "drillLevel" "I" ∈ TB) (hd : decode M.2.1 pc = .ok (.putfield idx, 3)) (hx : InR x) (kk : WP D ad ca sc M (pc + 3) lv st (up h 0 11 x) Q) : WP D ad ca sc M pc lv (vI x :: .ref (ad 0) :: st) h Q :=
  P_putf (k := 0) (ci := 0) (j := 11) (fs := fs_MW ad (h 0)) (ty := .int) (ty0 := t_MW) (by decide) rfl rfl rfl i_MW t_MW_ok n_MW (by decide) rfl rfl (by decide +kernel) rfl rfl (Nat.le_of_ble_eq_true rfl) (by decide) hx hw hd kk
theorem G_SH_bands {idx : Nat} (hw : Cond.fieldLink M.1 idx "MountainWatch$Shakes" "bands" "[I" ∈ TB) (hd : decode M.2.1 pc = .ok (.getfield idx, 3)) (kk : WP D ad ca sc M (pc + 3) lv (.ref (ad 2) :: st) h Q) : WP D ad ca sc M pc lv (.ref (ad 1) :: st) h Q :=
  P_getf (k := 1) (ci := 1) (j := 0) (fs := fs_SH ad (h 1)) (by decide) rfl rfl i_SH (by decide) rfl rfl hw hd kk
theorem G_SH_days {idx : Nat} (hw : Cond.fieldLink M.1 idx "MountainWatch$Shakes" "days" "[I" ∈ TB) (hd : decode M.2.1 pc = .ok (.getfield idx, 3)) (kk : WP D ad ca sc M (pc + 3) lv (.ref (ad 3) :: st) h Q) : WP D ad ca sc M pc lv (.ref (ad 1) :: st) h Q :=
  P_getf (k := 1) (ci := 1) (j := 1) (fs := fs_SH ad (h 1)) (by decide) rfl rfl i_SH (by decide) rfl rfl hw hd kk
theorem G_SH_kinds {idx : Nat} (hw : Cond.fieldLink M.1 idx "MountainWatch$Shakes" "kinds" "[I" ∈ TB) (hd : decode M.2.1 pc = .ok (.getfield idx, 3)) (kk : WP D ad ca sc M (pc + 3) lv (.ref (ad 4) :: st) h Q) : WP D ad ca sc M pc lv (.ref (ad 1) :: st) h Q :=
  P_getf (k := 1) (ci := 1) (j := 2) (fs := fs_SH ad (h 1)) (by decide) rfl rfl i_SH (by decide) rfl rfl hw hd kk
theorem G_SH_families {idx : Nat} (hw : Cond.fieldLink M.1 idx "MountainWatch$Shakes" "families" "[I" ∈ TB) (hd : decode M.2.1 pc = .ok (.getfield idx, 3)) (kk : WP D ad ca sc M (pc + 3) lv (.ref (ad 5) :: st) h Q) : WP D ad ca sc M pc lv (.ref (ad 1) :: st) h Q :=
  P_getf (k := 1) (ci := 1) (j := 3) (fs := fs_SH ad (h 1)) (by decide) rfl rfl i_SH (by decide) rfl rfl hw hd kk
theorem G_SH_tally {idx : Nat} (hw : Cond.fieldLink M.1 idx "MountainWatch$Shakes" "tally" "[I" ∈ TB) (hd : decode M.2.1 pc = .ok (.getfield idx, 3)) (kk : WP D ad ca sc M (pc + 3) lv (.ref (ad 6) :: st) h Q) : WP D ad ca sc M pc lv (.ref (ad 1) :: st) h Q :=
  P_getf (k := 1) (ci := 1) (j := 4) (fs := fs_SH ad (h 1)) (by decide) rfl rfl i_SH (by decide) rfl rfl hw hd kk
theorem G_SH_count {idx : Nat} (hw : Cond.fieldLink M.1 idx "MountainWatch$Shakes" "count" "I" ∈ TB) (hd : decode M.2.1 pc = .ok (.getfield idx, 3)) (kk : InR (h 1 5) → WP D ad ca sc M (pc + 3) lv (vI (h 1 5) :: st) h Q) : WP D ad ca sc M pc lv (.ref (ad 1) :: st) h Q :=
  P_HR (fun hh => P_getf (k := 1) (ci := 1) (j := 5) (fs := fs_SH ad (h 1)) (by decide) rfl rfl i_SH (by decide) rfl rfl hw hd (kk ((hh 1 5).2 (by decide))))
theorem S_SH_count {x : Int} {idx : Nat} (hw : Cond.fieldLink M.1 idx "MountainWatch$Shakes" "count" "I" ∈ TB) (hd : decode M.2.1 pc = .ok (.putfield idx, 3)) (hx : InR x) (kk : WP D ad ca sc M (pc + 3) lv st (up h 1 5 x) Q) : WP D ad ca sc M pc lv (vI x :: .ref (ad 1) :: st) h Q :=
  P_putf (k := 1) (ci := 1) (j := 5) (fs := fs_SH ad (h 1)) (ty := .int) (ty0 := t_SH) (by decide) rfl rfl rfl i_SH t_SH_ok n_SH (by decide) rfl rfl (by decide +kernel) rfl rfl (Nat.le_of_ble_eq_true rfl) (by decide) hx hw hd kk
theorem G_SH_asked {idx : Nat} (hw : Cond.fieldLink M.1 idx "MountainWatch$Shakes" "asked" "I" ∈ TB) (hd : decode M.2.1 pc = .ok (.getfield idx, 3)) (kk : InR (h 1 6) → WP D ad ca sc M (pc + 3) lv (vI (h 1 6) :: st) h Q) : WP D ad ca sc M pc lv (.ref (ad 1) :: st) h Q :=
  P_HR (fun hh => P_getf (k := 1) (ci := 1) (j := 6) (fs := fs_SH ad (h 1)) (by decide) rfl rfl i_SH (by decide) rfl rfl hw hd (kk ((hh 1 6).2 (by decide))))
theorem S_SH_asked {x : Int} {idx : Nat} (hw : Cond.fieldLink M.1 idx "MountainWatch$Shakes" "asked" "I" ∈ TB) (hd : decode M.2.1 pc = .ok (.putfield idx, 3)) (hx : InR x) (kk : WP D ad ca sc M (pc + 3) lv st (up h 1 6 x) Q) : WP D ad ca sc M pc lv (vI x :: .ref (ad 1) :: st) h Q :=
  P_putf (k := 1) (ci := 1) (j := 6) (fs := fs_SH ad (h 1)) (ty := .int) (ty0 := t_SH) (by decide) rfl rfl rfl i_SH t_SH_ok n_SH (by decide) rfl rfl (by decide +kernel) rfl rfl (Nat.le_of_ble_eq_true rfl) (by decide) hx hw hd kk
theorem G_RE_tilts {idx : Nat} (hw : Cond.fieldLink M.1 idx "MountainWatch$Readings" "tilts" "[I" ∈ TB) (hd : decode M.2.1 pc = .ok (.getfield idx, 3)) (kk : WP D ad ca sc M (pc + 3) lv (.ref (ad 8) :: st) h Q) : WP D ad ca sc M pc lv (.ref (ad 7) :: st) h Q :=
  P_getf (k := 7) (ci := 2) (j := 0) (fs := fs_RE ad (h 7)) (by decide) rfl rfl i_RE (by decide) rfl rfl hw hd kk
theorem G_RE_gases {idx : Nat} (hw : Cond.fieldLink M.1 idx "MountainWatch$Readings" "gases" "[I" ∈ TB) (hd : decode M.2.1 pc = .ok (.getfield idx, 3)) (kk : WP D ad ca sc M (pc + 3) lv (.ref (ad 9) :: st) h Q) : WP D ad ca sc M pc lv (.ref (ad 7) :: st) h Q :=
  P_getf (k := 7) (ci := 2) (j := 1) (fs := fs_RE ad (h 7)) (by decide) rfl rfl i_RE (by decide) rfl rfl hw hd kk
theorem G_LA_levels {idx : Nat} (hw : Cond.fieldLink M.1 idx "MountainWatch$Laws" "levels" "[I" ∈ TB) (hd : decode M.2.1 pc = .ok (.getfield idx, 3)) (kk : WP D ad ca sc M (pc + 3) lv (.ref (ad 11) :: st) h Q) : WP D ad ca sc M pc lv (.ref (ad 10) :: st) h Q :=
  P_getf (k := 10) (ci := 3) (j := 0) (fs := fs_LA ad (h 10)) (by decide) rfl rfl i_LA (by decide) rfl rfl hw hd kk
theorem G_LA_measures {idx : Nat} (hw : Cond.fieldLink M.1 idx "MountainWatch$Laws" "measures" "[I" ∈ TB) (hd : decode M.2.1 pc = .ok (.getfield idx, 3)) (kk : WP D ad ca sc M (pc + 3) lv (.ref (ad 12) :: st) h Q) : WP D ad ca sc M pc lv (.ref (ad 10) :: st) h Q :=
  P_getf (k := 10) (ci := 3) (j := 1) (fs := fs_LA ad (h 10)) (by decide) rfl rfl i_LA (by decide) rfl rfl hw hd kk
theorem G_LA_numbers {idx : Nat} (hw : Cond.fieldLink M.1 idx "MountainWatch$Laws" "numbers" "[I" ∈ TB) (hd : decode M.2.1 pc = .ok (.getfield idx, 3)) (kk : WP D ad ca sc M (pc + 3) lv (.ref (ad 13) :: st) h Q) : WP D ad ca sc M pc lv (.ref (ad 10) :: st) h Q :=
  P_getf (k := 10) (ci := 3) (j := 2) (fs := fs_LA ad (h 10)) (by decide) rfl rfl i_LA (by decide) rfl rfl hw hd kk
theorem G_LA_spans {idx : Nat} (hw : Cond.fieldLink M.1 idx "MountainWatch$Laws" "spans" "[I" ∈ TB) (hd : decode M.2.1 pc = .ok (.getfield idx, 3)) (kk : WP D ad ca sc M (pc + 3) lv (.ref (ad 14) :: st) h Q) : WP D ad ca sc M pc lv (.ref (ad 10) :: st) h Q :=
  P_getf (k := 10) (ci := 3) (j := 3) (fs := fs_LA ad (h 10)) (by decide) rfl rfl i_LA (by decide) rfl rfl hw hd kk
theorem G_LA_count {idx : Nat} (hw : Cond.fieldLink M.1 idx "MountainWatch$Laws" "count" "I" ∈ TB) (hd : decode M.2.1 pc = .ok (.getfield idx, 3)) (kk : InR (h 10 4) → WP D ad ca sc M (pc + 3) lv (vI (h 10 4) :: st) h Q) : WP D ad ca sc M pc lv (.ref (ad 10) :: st) h Q :=
  P_HR (fun hh => P_getf (k := 10) (ci := 3) (j := 4) (fs := fs_LA ad (h 10)) (by decide) rfl rfl i_LA (by decide) rfl rfl hw hd (kk ((hh 10 4).2 (by decide))))
theorem S_LA_count {x : Int} {idx : Nat} (hw : Cond.fieldLink M.1 idx "MountainWatch$Laws" "count" "I" ∈ TB) (hd : decode M.2.1 pc = .ok (.putfield idx, 3)) (hx : InR x) (kk : WP D ad ca sc M (pc + 3) lv st (up h 10 4 x) Q) : WP D ad ca sc M pc lv (vI x :: .ref (ad 10) :: st) h Q :=
  P_putf (k := 10) (ci := 3) (j := 4) (fs := fs_LA ad (h 10)) (ty := .int) (ty0 := t_LA) (by decide) rfl rfl rfl i_LA t_LA_ok n_LA (by decide) rfl rfl (by decide +kernel) rfl rfl (Nat.le_of_ble_eq_true rfl) (by decide) hx hw hd kk
theorem G_ME_days {idx : Nat} (hw : Cond.fieldLink M.1 idx "MountainWatch$Messages" "days" "[I" ∈ TB) (hd : decode M.2.1 pc = .ok (.getfield idx, 3)) (kk : WP D ad ca sc M (pc + 3) lv (.ref (ad 16) :: st) h Q) : WP D ad ca sc M pc lv (.ref (ad 15) :: st) h Q :=
  P_getf (k := 15) (ci := 4) (j := 0) (fs := fs_ME ad (h 15)) (by decide) rfl rfl i_ME (by decide) rfl rfl hw hd kk
theorem G_ME_levels {idx : Nat} (hw : Cond.fieldLink M.1 idx "MountainWatch$Messages" "levels" "[I" ∈ TB) (hd : decode M.2.1 pc = .ok (.getfield idx, 3)) (kk : WP D ad ca sc M (pc + 3) lv (.ref (ad 17) :: st) h Q) : WP D ad ca sc M pc lv (.ref (ad 15) :: st) h Q :=
  P_getf (k := 15) (ci := 4) (j := 1) (fs := fs_ME ad (h 15)) (by decide) rfl rfl i_ME (by decide) rfl rfl hw hd kk
theorem G_ME_reasons {idx : Nat} (hw : Cond.fieldLink M.1 idx "MountainWatch$Messages" "reasons" "[I" ∈ TB) (hd : decode M.2.1 pc = .ok (.getfield idx, 3)) (kk : WP D ad ca sc M (pc + 3) lv (.ref (ad 18) :: st) h Q) : WP D ad ca sc M pc lv (.ref (ad 15) :: st) h Q :=
  P_getf (k := 15) (ci := 4) (j := 2) (fs := fs_ME ad (h 15)) (by decide) rfl rfl i_ME (by decide) rfl rfl hw hd kk
theorem G_ME_count {idx : Nat} (hw : Cond.fieldLink M.1 idx "MountainWatch$Messages" "count" "I" ∈ TB) (hd : decode M.2.1 pc = .ok (.getfield idx, 3)) (kk : InR (h 15 3) → WP D ad ca sc M (pc + 3) lv (vI (h 15 3) :: st) h Q) : WP D ad ca sc M pc lv (.ref (ad 15) :: st) h Q :=
  P_HR (fun hh => P_getf (k := 15) (ci := 4) (j := 3) (fs := fs_ME ad (h 15)) (by decide) rfl rfl i_ME (by decide) rfl rfl hw hd (kk ((hh 15 3).2 (by decide))))
theorem S_ME_count {x : Int} {idx : Nat} (hw : Cond.fieldLink M.1 idx "MountainWatch$Messages" "count" "I" ∈ TB) (hd : decode M.2.1 pc = .ok (.putfield idx, 3)) (hx : InR x) (kk : WP D ad ca sc M (pc + 3) lv st (up h 15 3 x) Q) : WP D ad ca sc M pc lv (vI x :: .ref (ad 15) :: st) h Q :=
  P_putf (k := 15) (ci := 4) (j := 3) (fs := fs_ME ad (h 15)) (ty := .int) (ty0 := t_ME) (by decide) rfl rfl rfl i_ME t_ME_ok n_ME (by decide) rfl rfl (by decide +kernel) rfl rfl (Nat.le_of_ble_eq_true rfl) (by decide) hx hw hd kk
theorem G_ME_drillCount {idx : Nat} (hw : Cond.fieldLink M.1 idx "MountainWatch$Messages" "drillCount" "I" ∈ TB) (hd : decode M.2.1 pc = .ok (.getfield idx, 3)) (kk : InR (h 15 4) → WP D ad ca sc M (pc + 3) lv (vI (h 15 4) :: st) h Q) : WP D ad ca sc M pc lv (.ref (ad 15) :: st) h Q :=
  P_HR (fun hh => P_getf (k := 15) (ci := 4) (j := 4) (fs := fs_ME ad (h 15)) (by decide) rfl rfl i_ME (by decide) rfl rfl hw hd (kk ((hh 15 4).2 (by decide))))
theorem S_ME_drillCount {x : Int} {idx : Nat} (hw : Cond.fieldLink M.1 idx "MountainWatch$Messages" "drillCount" "I" ∈ TB) (hd : decode M.2.1 pc = .ok (.putfield idx, 3)) (hx : InR x) (kk : WP D ad ca sc M (pc + 3) lv st (up h 15 4 x) Q) : WP D ad ca sc M pc lv (vI x :: .ref (ad 15) :: st) h Q :=
  P_putf (k := 15) (ci := 4) (j := 4) (fs := fs_ME ad (h 15)) (ty := .int) (ty0 := t_ME) (by decide) rfl rfl rfl i_ME t_ME_ok n_ME (by decide) rfl rfl (by decide +kernel) rfl rfl (Nat.le_of_ble_eq_true rfl) (by decide) hx hw hd kk
theorem G_ME_kept {idx : Nat} (hw : Cond.fieldLink M.1 idx "MountainWatch$Messages" "kept" "I" ∈ TB) (hd : decode M.2.1 pc = .ok (.getfield idx, 3)) (kk : InR (h 15 5) → WP D ad ca sc M (pc + 3) lv (vI (h 15 5) :: st) h Q) : WP D ad ca sc M pc lv (.ref (ad 15) :: st) h Q :=
  P_HR (fun hh => P_getf (k := 15) (ci := 4) (j := 5) (fs := fs_ME ad (h 15)) (by decide) rfl rfl i_ME (by decide) rfl rfl hw hd (kk ((hh 15 5).2 (by decide))))
theorem S_ME_kept {x : Int} {idx : Nat} (hw : Cond.fieldLink M.1 idx "MountainWatch$Messages" "kept" "I" ∈ TB) (hd : decode M.2.1 pc = .ok (.putfield idx, 3)) (hx : InR x) (kk : WP D ad ca sc M (pc + 3) lv st (up h 15 5 x) Q) : WP D ad ca sc M pc lv (vI x :: .ref (ad 15) :: st) h Q :=
  P_putf (k := 15) (ci := 4) (j := 5) (fs := fs_ME ad (h 15)) (ty := .int) (ty0 := t_ME) (by decide) rfl rfl rfl i_ME t_ME_ok n_ME (by decide) rfl rfl (by decide +kernel) rfl rfl (Nat.le_of_ble_eq_true rfl) (by decide) hx hw hd kk
theorem G_ME_keptDrills {idx : Nat} (hw : Cond.fieldLink M.1 idx "MountainWatch$Messages" "keptDrills" "I" ∈ TB) (hd : decode M.2.1 pc = .ok (.getfield idx, 3)) (kk : InR (h 15 6) → WP D ad ca sc M (pc + 3) lv (vI (h 15 6) :: st) h Q) : WP D ad ca sc M pc lv (.ref (ad 15) :: st) h Q :=
  P_HR (fun hh => P_getf (k := 15) (ci := 4) (j := 6) (fs := fs_ME ad (h 15)) (by decide) rfl rfl i_ME (by decide) rfl rfl hw hd (kk ((hh 15 6).2 (by decide))))
theorem S_ME_keptDrills {x : Int} {idx : Nat} (hw : Cond.fieldLink M.1 idx "MountainWatch$Messages" "keptDrills" "I" ∈ TB) (hd : decode M.2.1 pc = .ok (.putfield idx, 3)) (hx : InR x) (kk : WP D ad ca sc M (pc + 3) lv st (up h 15 6 x) Q) : WP D ad ca sc M pc lv (vI x :: .ref (ad 15) :: st) h Q :=
  P_putf (k := 15) (ci := 4) (j := 6) (fs := fs_ME ad (h 15)) (ty := .int) (ty0 := t_ME) (by decide) rfl rfl rfl i_ME t_ME_ok n_ME (by decide) rfl rfl (by decide +kernel) rfl rfl (Nat.le_of_ble_eq_true rfl) (by decide) hx hw hd kk
theorem G_TR_parents {idx : Nat} (hw : Cond.fieldLink M.1 idx "MountainWatch$Tree" "parents" "[I" ∈ TB) (hd : decode M.2.1 pc = .ok (.getfield idx, 3)) (kk : WP D ad ca sc M (pc + 3) lv (.ref (ad 20) :: st) h Q) : WP D ad ca sc M pc lv (.ref (ad 19) :: st) h Q :=
  P_getf (k := 19) (ci := 5) (j := 0) (fs := fs_TR ad (h 19)) (by decide) rfl rfl i_TR (by decide) rfl rfl hw hd kk
theorem G_TR_lows {idx : Nat} (hw : Cond.fieldLink M.1 idx "MountainWatch$Tree" "lows" "[I" ∈ TB) (hd : decode M.2.1 pc = .ok (.getfield idx, 3)) (kk : WP D ad ca sc M (pc + 3) lv (.ref (ad 21) :: st) h Q) : WP D ad ca sc M pc lv (.ref (ad 19) :: st) h Q :=
  P_getf (k := 19) (ci := 5) (j := 1) (fs := fs_TR ad (h 19)) (by decide) rfl rfl i_TR (by decide) rfl rfl hw hd kk
theorem G_TR_highs {idx : Nat} (hw : Cond.fieldLink M.1 idx "MountainWatch$Tree" "highs" "[I" ∈ TB) (hd : decode M.2.1 pc = .ok (.getfield idx, 3)) (kk : WP D ad ca sc M (pc + 3) lv (.ref (ad 22) :: st) h Q) : WP D ad ca sc M pc lv (.ref (ad 19) :: st) h Q :=
  P_getf (k := 19) (ci := 5) (j := 2) (fs := fs_TR ad (h 19)) (by decide) rfl rfl i_TR (by decide) rfl rfl hw hd kk
theorem G_TR_depths {idx : Nat} (hw : Cond.fieldLink M.1 idx "MountainWatch$Tree" "depths" "[I" ∈ TB) (hd : decode M.2.1 pc = .ok (.getfield idx, 3)) (kk : WP D ad ca sc M (pc + 3) lv (.ref (ad 23) :: st) h Q) : WP D ad ca sc M pc lv (.ref (ad 19) :: st) h Q :=
  P_getf (k := 19) (ci := 5) (j := 3) (fs := fs_TR ad (h 19)) (by decide) rfl rfl i_TR (by decide) rfl rfl hw hd kk
theorem G_TR_childCounts {idx : Nat} (hw : Cond.fieldLink M.1 idx "MountainWatch$Tree" "childCounts" "[I" ∈ TB) (hd : decode M.2.1 pc = .ok (.getfield idx, 3)) (kk : WP D ad ca sc M (pc + 3) lv (.ref (ad 24) :: st) h Q) : WP D ad ca sc M pc lv (.ref (ad 19) :: st) h Q :=
  P_getf (k := 19) (ci := 5) (j := 4) (fs := fs_TR ad (h 19)) (by decide) rfl rfl i_TR (by decide) rfl rfl hw hd kk
theorem G_TR_feared {idx : Nat} (hw : Cond.fieldLink M.1 idx "MountainWatch$Tree" "feared" "[Z" ∈ TB) (hd : decode M.2.1 pc = .ok (.getfield idx, 3)) (kk : WP D ad ca sc M (pc + 3) lv (.ref (ad 25) :: st) h Q) : WP D ad ca sc M pc lv (.ref (ad 19) :: st) h Q :=
  P_getf (k := 19) (ci := 5) (j := 5) (fs := fs_TR ad (h 19)) (by decide) rfl rfl i_TR (by decide) rfl rfl hw hd kk
theorem G_TR_chances {idx : Nat} (hw : Cond.fieldLink M.1 idx "MountainWatch$Tree" "chances" "[I" ∈ TB) (hd : decode M.2.1 pc = .ok (.getfield idx, 3)) (kk : WP D ad ca sc M (pc + 3) lv (.ref (ad 26) :: st) h Q) : WP D ad ca sc M pc lv (.ref (ad 19) :: st) h Q :=
  P_getf (k := 19) (ci := 5) (j := 6) (fs := fs_TR ad (h 19)) (by decide) rfl rfl i_TR (by decide) rfl rfl hw hd kk
theorem G_TR_served {idx : Nat} (hw : Cond.fieldLink M.1 idx "MountainWatch$Tree" "served" "[Z" ∈ TB) (hd : decode M.2.1 pc = .ok (.getfield idx, 3)) (kk : WP D ad ca sc M (pc + 3) lv (.ref (ad 27) :: st) h Q) : WP D ad ca sc M pc lv (.ref (ad 19) :: st) h Q :=
  P_getf (k := 19) (ci := 5) (j := 7) (fs := fs_TR ad (h 19)) (by decide) rfl rfl i_TR (by decide) rfl rfl hw hd kk
theorem G_TR_count {idx : Nat} (hw : Cond.fieldLink M.1 idx "MountainWatch$Tree" "count" "I" ∈ TB) (hd : decode M.2.1 pc = .ok (.getfield idx, 3)) (kk : InR (h 19 8) → WP D ad ca sc M (pc + 3) lv (vI (h 19 8) :: st) h Q) : WP D ad ca sc M pc lv (.ref (ad 19) :: st) h Q :=
  P_HR (fun hh => P_getf (k := 19) (ci := 5) (j := 8) (fs := fs_TR ad (h 19)) (by decide) rfl rfl i_TR (by decide) rfl rfl hw hd (kk ((hh 19 8).2 (by decide))))
theorem S_TR_count {x : Int} {idx : Nat} (hw : Cond.fieldLink M.1 idx "MountainWatch$Tree" "count" "I" ∈ TB) (hd : decode M.2.1 pc = .ok (.putfield idx, 3)) (hx : InR x) (kk : WP D ad ca sc M (pc + 3) lv st (up h 19 8 x) Q) : WP D ad ca sc M pc lv (vI x :: .ref (ad 19) :: st) h Q :=
  P_putf (k := 19) (ci := 5) (j := 8) (fs := fs_TR ad (h 19)) (ty := .int) (ty0 := t_TR) (by decide) rfl rfl rfl i_TR t_TR_ok n_TR (by decide) rfl rfl (by decide +kernel) rfl rfl (Nat.le_of_ble_eq_true rfl) (by decide) hx hw hd kk
theorem G_MO_today {idx : Nat} (hw : Cond.fieldLink M.1 idx "MountainWatchModel" "today" "I" ∈ TB) (hd : decode M.2.1 pc = .ok (.getfield idx, 3)) (kk : InR (h 28 0) → WP D ad ca sc M (pc + 3) lv (vI (h 28 0) :: st) h Q) : WP D ad ca sc M pc lv (.ref (ad 28) :: st) h Q :=
  P_HR (fun hh => P_getf (k := 28) (ci := 6) (j := 0) (fs := fs_MO ad (h 28)) (by decide) rfl rfl i_MO (by decide) rfl rfl hw hd (kk ((hh 28 0).2 (by decide))))
theorem S_MO_today {x : Int} {idx : Nat} (hw : Cond.fieldLink M.1 idx "MountainWatchModel" "today" "I" ∈ TB) (hd : decode M.2.1 pc = .ok (.putfield idx, 3)) (hx : InR x) (kk : WP D ad ca sc M (pc + 3) lv st (up h 28 0 x) Q) : WP D ad ca sc M pc lv (vI x :: .ref (ad 28) :: st) h Q :=
  P_putf (k := 28) (ci := 6) (j := 0) (fs := fs_MO ad (h 28)) (ty := .int) (ty0 := t_MO) (by decide) rfl rfl rfl i_MO t_MO_ok n_MO (by decide) rfl rfl (by decide +kernel) rfl rfl (Nat.le_of_ble_eq_true rfl) (by decide) hx hw hd kk
theorem G_MO_shakes {idx : Nat} (hw : Cond.fieldLink M.1 idx "MountainWatchModel" "shakes" "I" ∈ TB) (hd : decode M.2.1 pc = .ok (.getfield idx, 3)) (kk : InR (h 28 1) → WP D ad ca sc M (pc + 3) lv (vI (h 28 1) :: st) h Q) : WP D ad ca sc M pc lv (.ref (ad 28) :: st) h Q :=
  P_HR (fun hh => P_getf (k := 28) (ci := 6) (j := 1) (fs := fs_MO ad (h 28)) (by decide) rfl rfl i_MO (by decide) rfl rfl hw hd (kk ((hh 28 1).2 (by decide))))
theorem S_MO_shakes {x : Int} {idx : Nat} (hw : Cond.fieldLink M.1 idx "MountainWatchModel" "shakes" "I" ∈ TB) (hd : decode M.2.1 pc = .ok (.putfield idx, 3)) (hx : InR x) (kk : WP D ad ca sc M (pc + 3) lv st (up h 28 1 x) Q) : WP D ad ca sc M pc lv (vI x :: .ref (ad 28) :: st) h Q :=
  P_putf (k := 28) (ci := 6) (j := 1) (fs := fs_MO ad (h 28)) (ty := .int) (ty0 := t_MO) (by decide) rfl rfl rfl i_MO t_MO_ok n_MO (by decide) rfl rfl (by decide +kernel) rfl rfl (Nat.le_of_ble_eq_true rfl) (by decide) hx hw hd kk
theorem G_MO_dayOf {idx : Nat} (hw : Cond.fieldLink M.1 idx "MountainWatchModel" "dayOf" "[I" ∈ TB) (hd : decode M.2.1 pc = .ok (.getfield idx, 3)) (kk : WP D ad ca sc M (pc + 3) lv (.ref (ad 29) :: st) h Q) : WP D ad ca sc M pc lv (.ref (ad 28) :: st) h Q :=
  P_getf (k := 28) (ci := 6) (j := 2) (fs := fs_MO ad (h 28)) (by decide) rfl rfl i_MO (by decide) rfl rfl hw hd kk
theorem G_MO_band {idx : Nat} (hw : Cond.fieldLink M.1 idx "MountainWatchModel" "band" "[I" ∈ TB) (hd : decode M.2.1 pc = .ok (.getfield idx, 3)) (kk : WP D ad ca sc M (pc + 3) lv (.ref (ad 30) :: st) h Q) : WP D ad ca sc M pc lv (.ref (ad 28) :: st) h Q :=
  P_getf (k := 28) (ci := 6) (j := 3) (fs := fs_MO ad (h 28)) (by decide) rfl rfl i_MO (by decide) rfl rfl hw hd kk
theorem G_MO_family {idx : Nat} (hw : Cond.fieldLink M.1 idx "MountainWatchModel" "family" "[I" ∈ TB) (hd : decode M.2.1 pc = .ok (.getfield idx, 3)) (kk : WP D ad ca sc M (pc + 3) lv (.ref (ad 31) :: st) h Q) : WP D ad ca sc M pc lv (.ref (ad 28) :: st) h Q :=
  P_getf (k := 28) (ci := 6) (j := 4) (fs := fs_MO ad (h 28)) (by decide) rfl rfl i_MO (by decide) rfl rfl hw hd kk
theorem G_MO_areMarked {idx : Nat} (hw : Cond.fieldLink M.1 idx "MountainWatchModel" "areMarked" "Z" ∈ TB) (hd : decode M.2.1 pc = .ok (.getfield idx, 3)) (kk : InR (h 28 5) → WP D ad ca sc M (pc + 3) lv (vI (h 28 5) :: st) h Q) : WP D ad ca sc M pc lv (.ref (ad 28) :: st) h Q :=
  P_HR (fun hh => P_getf (k := 28) (ci := 6) (j := 5) (fs := fs_MO ad (h 28)) (by decide) rfl rfl i_MO (by decide) rfl rfl hw hd (kk ((hh 28 5).2 (by decide))))
theorem S_MO_areMarked {x : Int} {idx : Nat} (hw : Cond.fieldLink M.1 idx "MountainWatchModel" "areMarked" "Z" ∈ TB) (hd : decode M.2.1 pc = .ok (.putfield idx, 3)) (hx : x = 0 ∨ x = 1) (kk : WP D ad ca sc M (pc + 3) lv st (up h 28 5 x) Q) : WP D ad ca sc M pc lv (vI x :: .ref (ad 28) :: st) h Q :=
  P_putf (k := 28) (ci := 6) (j := 5) (fs := fs_MO ad (h 28)) (ty := .boolean) (ty0 := t_MO) (by decide) rfl rfl rfl i_MO t_MO_ok n_MO (by decide) rfl rfl (by decide +kernel) (by rcases hx with rfl | rfl <;> decide) (by rcases hx with rfl | rfl <;> decide) (Nat.le_of_ble_eq_true rfl) (by decide) (by rcases hx with rfl | rfl <;> decide) hw hd kk
theorem G_MO_likeness {idx : Nat} (hw : Cond.fieldLink M.1 idx "MountainWatchModel" "likeness" "I" ∈ TB) (hd : decode M.2.1 pc = .ok (.getfield idx, 3)) (kk : InR (h 28 6) → WP D ad ca sc M (pc + 3) lv (vI (h 28 6) :: st) h Q) : WP D ad ca sc M pc lv (.ref (ad 28) :: st) h Q :=
  P_HR (fun hh => P_getf (k := 28) (ci := 6) (j := 6) (fs := fs_MO ad (h 28)) (by decide) rfl rfl i_MO (by decide) rfl rfl hw hd (kk ((hh 28 6).2 (by decide))))
theorem S_MO_likeness {x : Int} {idx : Nat} (hw : Cond.fieldLink M.1 idx "MountainWatchModel" "likeness" "I" ∈ TB) (hd : decode M.2.1 pc = .ok (.putfield idx, 3)) (hx : InR x) (kk : WP D ad ca sc M (pc + 3) lv st (up h 28 6 x) Q) : WP D ad ca sc M pc lv (vI x :: .ref (ad 28) :: st) h Q :=
  P_putf (k := 28) (ci := 6) (j := 6) (fs := fs_MO ad (h 28)) (ty := .int) (ty0 := t_MO) (by decide) rfl rfl rfl i_MO t_MO_ok n_MO (by decide) rfl rfl (by decide +kernel) rfl rfl (Nat.le_of_ble_eq_true rfl) (by decide) hx hw hd kk
theorem G_MO_hasTilt {idx : Nat} (hw : Cond.fieldLink M.1 idx "MountainWatchModel" "hasTilt" "[Z" ∈ TB) (hd : decode M.2.1 pc = .ok (.getfield idx, 3)) (kk : WP D ad ca sc M (pc + 3) lv (.ref (ad 32) :: st) h Q) : WP D ad ca sc M pc lv (.ref (ad 28) :: st) h Q :=
  P_getf (k := 28) (ci := 6) (j := 7) (fs := fs_MO ad (h 28)) (by decide) rfl rfl i_MO (by decide) rfl rfl hw hd kk
theorem G_MO_tilt {idx : Nat} (hw : Cond.fieldLink M.1 idx "MountainWatchModel" "tilt" "[I" ∈ TB) (hd : decode M.2.1 pc = .ok (.getfield idx, 3)) (kk : WP D ad ca sc M (pc + 3) lv (.ref (ad 33) :: st) h Q) : WP D ad ca sc M pc lv (.ref (ad 28) :: st) h Q :=
  P_getf (k := 28) (ci := 6) (j := 8) (fs := fs_MO ad (h 28)) (by decide) rfl rfl i_MO (by decide) rfl rfl hw hd kk
theorem G_MO_gas {idx : Nat} (hw : Cond.fieldLink M.1 idx "MountainWatchModel" "gas" "[I" ∈ TB) (hd : decode M.2.1 pc = .ok (.getfield idx, 3)) (kk : WP D ad ca sc M (pc + 3) lv (.ref (ad 34) :: st) h Q) : WP D ad ca sc M pc lv (.ref (ad 28) :: st) h Q :=
  P_getf (k := 28) (ci := 6) (j := 9) (fs := fs_MO ad (h 28)) (by decide) rfl rfl i_MO (by decide) rfl rfl hw hd kk
theorem G_MO_laws {idx : Nat} (hw : Cond.fieldLink M.1 idx "MountainWatchModel" "laws" "I" ∈ TB) (hd : decode M.2.1 pc = .ok (.getfield idx, 3)) (kk : InR (h 28 10) → WP D ad ca sc M (pc + 3) lv (vI (h 28 10) :: st) h Q) : WP D ad ca sc M pc lv (.ref (ad 28) :: st) h Q :=
  P_HR (fun hh => P_getf (k := 28) (ci := 6) (j := 10) (fs := fs_MO ad (h 28)) (by decide) rfl rfl i_MO (by decide) rfl rfl hw hd (kk ((hh 28 10).2 (by decide))))
theorem S_MO_laws {x : Int} {idx : Nat} (hw : Cond.fieldLink M.1 idx "MountainWatchModel" "laws" "I" ∈ TB) (hd : decode M.2.1 pc = .ok (.putfield idx, 3)) (hx : InR x) (kk : WP D ad ca sc M (pc + 3) lv st (up h 28 10 x) Q) : WP D ad ca sc M pc lv (vI x :: .ref (ad 28) :: st) h Q :=
  P_putf (k := 28) (ci := 6) (j := 10) (fs := fs_MO ad (h 28)) (ty := .int) (ty0 := t_MO) (by decide) rfl rfl rfl i_MO t_MO_ok n_MO (by decide) rfl rfl (by decide +kernel) rfl rfl (Nat.le_of_ble_eq_true rfl) (by decide) hx hw hd kk
theorem G_MO_lawLevel {idx : Nat} (hw : Cond.fieldLink M.1 idx "MountainWatchModel" "lawLevel" "[I" ∈ TB) (hd : decode M.2.1 pc = .ok (.getfield idx, 3)) (kk : WP D ad ca sc M (pc + 3) lv (.ref (ad 35) :: st) h Q) : WP D ad ca sc M pc lv (.ref (ad 28) :: st) h Q :=
  P_getf (k := 28) (ci := 6) (j := 11) (fs := fs_MO ad (h 28)) (by decide) rfl rfl i_MO (by decide) rfl rfl hw hd kk
theorem G_MO_lawMeasure {idx : Nat} (hw : Cond.fieldLink M.1 idx "MountainWatchModel" "lawMeasure" "[I" ∈ TB) (hd : decode M.2.1 pc = .ok (.getfield idx, 3)) (kk : WP D ad ca sc M (pc + 3) lv (.ref (ad 36) :: st) h Q) : WP D ad ca sc M pc lv (.ref (ad 28) :: st) h Q :=
  P_getf (k := 28) (ci := 6) (j := 12) (fs := fs_MO ad (h 28)) (by decide) rfl rfl i_MO (by decide) rfl rfl hw hd kk
theorem G_MO_lawNumber {idx : Nat} (hw : Cond.fieldLink M.1 idx "MountainWatchModel" "lawNumber" "[I" ∈ TB) (hd : decode M.2.1 pc = .ok (.getfield idx, 3)) (kk : WP D ad ca sc M (pc + 3) lv (.ref (ad 37) :: st) h Q) : WP D ad ca sc M pc lv (.ref (ad 28) :: st) h Q :=
  P_getf (k := 28) (ci := 6) (j := 13) (fs := fs_MO ad (h 28)) (by decide) rfl rfl i_MO (by decide) rfl rfl hw hd kk
theorem G_MO_lawSpan {idx : Nat} (hw : Cond.fieldLink M.1 idx "MountainWatchModel" "lawSpan" "[I" ∈ TB) (hd : decode M.2.1 pc = .ok (.getfield idx, 3)) (kk : WP D ad ca sc M (pc + 3) lv (.ref (ad 38) :: st) h Q) : WP D ad ca sc M pc lv (.ref (ad 28) :: st) h Q :=
  P_getf (k := 28) (ci := 6) (j := 14) (fs := fs_MO ad (h 28)) (by decide) rfl rfl i_MO (by decide) rfl rfl hw hd kk
theorem G_MO_rest {idx : Nat} (hw : Cond.fieldLink M.1 idx "MountainWatchModel" "rest" "I" ∈ TB) (hd : decode M.2.1 pc = .ok (.getfield idx, 3)) (kk : InR (h 28 15) → WP D ad ca sc M (pc + 3) lv (vI (h 28 15) :: st) h Q) : WP D ad ca sc M pc lv (.ref (ad 28) :: st) h Q :=
  P_HR (fun hh => P_getf (k := 28) (ci := 6) (j := 15) (fs := fs_MO ad (h 28)) (by decide) rfl rfl i_MO (by decide) rfl rfl hw hd (kk ((hh 28 15).2 (by decide))))
theorem S_MO_rest {x : Int} {idx : Nat} (hw : Cond.fieldLink M.1 idx "MountainWatchModel" "rest" "I" ∈ TB) (hd : decode M.2.1 pc = .ok (.putfield idx, 3)) (hx : InR x) (kk : WP D ad ca sc M (pc + 3) lv st (up h 28 15 x) Q) : WP D ad ca sc M pc lv (vI x :: .ref (ad 28) :: st) h Q :=
  P_putf (k := 28) (ci := 6) (j := 15) (fs := fs_MO ad (h 28)) (ty := .int) (ty0 := t_MO) (by decide) rfl rfl rfl i_MO t_MO_ok n_MO (by decide) rfl rfl (by decide +kernel) rfl rfl (Nat.le_of_ble_eq_true rfl) (by decide) hx hw hd kk
theorem G_MO_level {idx : Nat} (hw : Cond.fieldLink M.1 idx "MountainWatchModel" "level" "I" ∈ TB) (hd : decode M.2.1 pc = .ok (.getfield idx, 3)) (kk : InR (h 28 16) → WP D ad ca sc M (pc + 3) lv (vI (h 28 16) :: st) h Q) : WP D ad ca sc M pc lv (.ref (ad 28) :: st) h Q :=
  P_HR (fun hh => P_getf (k := 28) (ci := 6) (j := 16) (fs := fs_MO ad (h 28)) (by decide) rfl rfl i_MO (by decide) rfl rfl hw hd (kk ((hh 28 16).2 (by decide))))
theorem S_MO_level {x : Int} {idx : Nat} (hw : Cond.fieldLink M.1 idx "MountainWatchModel" "level" "I" ∈ TB) (hd : decode M.2.1 pc = .ok (.putfield idx, 3)) (hx : InR x) (kk : WP D ad ca sc M (pc + 3) lv st (up h 28 16 x) Q) : WP D ad ca sc M pc lv (vI x :: .ref (ad 28) :: st) h Q :=
  P_putf (k := 28) (ci := 6) (j := 16) (fs := fs_MO ad (h 28)) (ty := .int) (ty0 := t_MO) (by decide) rfl rfl rfl i_MO t_MO_ok n_MO (by decide) rfl rfl (by decide +kernel) rfl rfl (Nat.le_of_ble_eq_true rfl) (by decide) hx hw hd kk
theorem G_MO_calm {idx : Nat} (hw : Cond.fieldLink M.1 idx "MountainWatchModel" "calm" "I" ∈ TB) (hd : decode M.2.1 pc = .ok (.getfield idx, 3)) (kk : InR (h 28 17) → WP D ad ca sc M (pc + 3) lv (vI (h 28 17) :: st) h Q) : WP D ad ca sc M pc lv (.ref (ad 28) :: st) h Q :=
  P_HR (fun hh => P_getf (k := 28) (ci := 6) (j := 17) (fs := fs_MO ad (h 28)) (by decide) rfl rfl i_MO (by decide) rfl rfl hw hd (kk ((hh 28 17).2 (by decide))))
theorem S_MO_calm {x : Int} {idx : Nat} (hw : Cond.fieldLink M.1 idx "MountainWatchModel" "calm" "I" ∈ TB) (hd : decode M.2.1 pc = .ok (.putfield idx, 3)) (hx : InR x) (kk : WP D ad ca sc M (pc + 3) lv st (up h 28 17 x) Q) : WP D ad ca sc M pc lv (vI x :: .ref (ad 28) :: st) h Q :=
  P_putf (k := 28) (ci := 6) (j := 17) (fs := fs_MO ad (h 28)) (ty := .int) (ty0 := t_MO) (by decide) rfl rfl rfl i_MO t_MO_ok n_MO (by decide) rfl rfl (by decide +kernel) rfl rfl (Nat.le_of_ble_eq_true rfl) (by decide) hx hw hd kk
theorem G_MO_holdLevel {idx : Nat} (hw : Cond.fieldLink M.1 idx "MountainWatchModel" "holdLevel" "I" ∈ TB) (hd : decode M.2.1 pc = .ok (.getfield idx, 3)) (kk : InR (h 28 18) → WP D ad ca sc M (pc + 3) lv (vI (h 28 18) :: st) h Q) : WP D ad ca sc M pc lv (.ref (ad 28) :: st) h Q :=
  P_HR (fun hh => P_getf (k := 28) (ci := 6) (j := 18) (fs := fs_MO ad (h 28)) (by decide) rfl rfl i_MO (by decide) rfl rfl hw hd (kk ((hh 28 18).2 (by decide))))
theorem S_MO_holdLevel {x : Int} {idx : Nat} (hw : Cond.fieldLink M.1 idx "MountainWatchModel" "holdLevel" "I" ∈ TB) (hd : decode M.2.1 pc = .ok (.putfield idx, 3)) (hx : InR x) (kk : WP D ad ca sc M (pc + 3) lv st (up h 28 18 x) Q) : WP D ad ca sc M pc lv (vI x :: .ref (ad 28) :: st) h Q :=
  P_putf (k := 28) (ci := 6) (j := 18) (fs := fs_MO ad (h 28)) (ty := .int) (ty0 := t_MO) (by decide) rfl rfl rfl i_MO t_MO_ok n_MO (by decide) rfl rfl (by decide +kernel) rfl rfl (Nat.le_of_ble_eq_true rfl) (by decide) hx hw hd kk
theorem G_MO_holdEnd {idx : Nat} (hw : Cond.fieldLink M.1 idx "MountainWatchModel" "holdEnd" "I" ∈ TB) (hd : decode M.2.1 pc = .ok (.getfield idx, 3)) (kk : InR (h 28 19) → WP D ad ca sc M (pc + 3) lv (vI (h 28 19) :: st) h Q) : WP D ad ca sc M pc lv (.ref (ad 28) :: st) h Q :=
  P_HR (fun hh => P_getf (k := 28) (ci := 6) (j := 19) (fs := fs_MO ad (h 28)) (by decide) rfl rfl i_MO (by decide) rfl rfl hw hd (kk ((hh 28 19).2 (by decide))))
theorem S_MO_holdEnd {x : Int} {idx : Nat} (hw : Cond.fieldLink M.1 idx "MountainWatchModel" "holdEnd" "I" ∈ TB) (hd : decode M.2.1 pc = .ok (.putfield idx, 3)) (hx : InR x) (kk : WP D ad ca sc M (pc + 3) lv st (up h 28 19 x) Q) : WP D ad ca sc M pc lv (vI x :: .ref (ad 28) :: st) h Q :=
  P_putf (k := 28) (ci := 6) (j := 19) (fs := fs_MO ad (h 28)) (ty := .int) (ty0 := t_MO) (by decide) rfl rfl rfl i_MO t_MO_ok n_MO (by decide) rfl rfl (by decide +kernel) rfl rfl (Nat.le_of_ble_eq_true rfl) (by decide) hx hw hd kk
theorem G_MO_kept {idx : Nat} (hw : Cond.fieldLink M.1 idx "MountainWatchModel" "kept" "I" ∈ TB) (hd : decode M.2.1 pc = .ok (.getfield idx, 3)) (kk : InR (h 28 20) → WP D ad ca sc M (pc + 3) lv (vI (h 28 20) :: st) h Q) : WP D ad ca sc M pc lv (.ref (ad 28) :: st) h Q :=
  P_HR (fun hh => P_getf (k := 28) (ci := 6) (j := 20) (fs := fs_MO ad (h 28)) (by decide) rfl rfl i_MO (by decide) rfl rfl hw hd (kk ((hh 28 20).2 (by decide))))
theorem S_MO_kept {x : Int} {idx : Nat} (hw : Cond.fieldLink M.1 idx "MountainWatchModel" "kept" "I" ∈ TB) (hd : decode M.2.1 pc = .ok (.putfield idx, 3)) (hx : InR x) (kk : WP D ad ca sc M (pc + 3) lv st (up h 28 20 x) Q) : WP D ad ca sc M pc lv (vI x :: .ref (ad 28) :: st) h Q :=
  P_putf (k := 28) (ci := 6) (j := 20) (fs := fs_MO ad (h 28)) (ty := .int) (ty0 := t_MO) (by decide) rfl rfl rfl i_MO t_MO_ok n_MO (by decide) rfl rfl (by decide +kernel) rfl rfl (Nat.le_of_ble_eq_true rfl) (by decide) hx hw hd kk
theorem G_MO_message {idx : Nat} (hw : Cond.fieldLink M.1 idx "MountainWatchModel" "message" "[I" ∈ TB) (hd : decode M.2.1 pc = .ok (.getfield idx, 3)) (kk : WP D ad ca sc M (pc + 3) lv (.ref (ad 39) :: st) h Q) : WP D ad ca sc M pc lv (.ref (ad 28) :: st) h Q :=
  P_getf (k := 28) (ci := 6) (j := 21) (fs := fs_MO ad (h 28)) (by decide) rfl rfl i_MO (by decide) rfl rfl hw hd kk
theorem G_MO_messages {idx : Nat} (hw : Cond.fieldLink M.1 idx "MountainWatchModel" "messages" "I" ∈ TB) (hd : decode M.2.1 pc = .ok (.getfield idx, 3)) (kk : InR (h 28 22) → WP D ad ca sc M (pc + 3) lv (vI (h 28 22) :: st) h Q) : WP D ad ca sc M pc lv (.ref (ad 28) :: st) h Q :=
  P_HR (fun hh => P_getf (k := 28) (ci := 6) (j := 22) (fs := fs_MO ad (h 28)) (by decide) rfl rfl i_MO (by decide) rfl rfl hw hd (kk ((hh 28 22).2 (by decide))))
theorem S_MO_messages {x : Int} {idx : Nat} (hw : Cond.fieldLink M.1 idx "MountainWatchModel" "messages" "I" ∈ TB) (hd : decode M.2.1 pc = .ok (.putfield idx, 3)) (hx : InR x) (kk : WP D ad ca sc M (pc + 3) lv st (up h 28 22 x) Q) : WP D ad ca sc M pc lv (vI x :: .ref (ad 28) :: st) h Q :=
  P_putf (k := 28) (ci := 6) (j := 22) (fs := fs_MO ad (h 28)) (ty := .int) (ty0 := t_MO) (by decide) rfl rfl rfl i_MO t_MO_ok n_MO (by decide) rfl rfl (by decide +kernel) rfl rfl (Nat.le_of_ble_eq_true rfl) (by decide) hx hw hd kk
theorem G_MO_drills {idx : Nat} (hw : Cond.fieldLink M.1 idx "MountainWatchModel" "drills" "I" ∈ TB) (hd : decode M.2.1 pc = .ok (.getfield idx, 3)) (kk : InR (h 28 23) → WP D ad ca sc M (pc + 3) lv (vI (h 28 23) :: st) h Q) : WP D ad ca sc M pc lv (.ref (ad 28) :: st) h Q :=
  P_HR (fun hh => P_getf (k := 28) (ci := 6) (j := 23) (fs := fs_MO ad (h 28)) (by decide) rfl rfl i_MO (by decide) rfl rfl hw hd (kk ((hh 28 23).2 (by decide))))
theorem S_MO_drills {x : Int} {idx : Nat} (hw : Cond.fieldLink M.1 idx "MountainWatchModel" "drills" "I" ∈ TB) (hd : decode M.2.1 pc = .ok (.putfield idx, 3)) (hx : InR x) (kk : WP D ad ca sc M (pc + 3) lv st (up h 28 23 x) Q) : WP D ad ca sc M pc lv (vI x :: .ref (ad 28) :: st) h Q :=
  P_putf (k := 28) (ci := 6) (j := 23) (fs := fs_MO ad (h 28)) (ty := .int) (ty0 := t_MO) (by decide) rfl rfl rfl i_MO t_MO_ok n_MO (by decide) rfl rfl (by decide +kernel) rfl rfl (Nat.le_of_ble_eq_true rfl) (by decide) hx hw hd kk
theorem G_MO_drillLevel {idx : Nat} (hw : Cond.fieldLink M.1 idx "MountainWatchModel" "drillLevel" "I" ∈ TB) (hd : decode M.2.1 pc = .ok (.getfield idx, 3)) (kk : InR (h 28 24) → WP D ad ca sc M (pc + 3) lv (vI (h 28 24) :: st) h Q) : WP D ad ca sc M pc lv (.ref (ad 28) :: st) h Q :=
  P_HR (fun hh => P_getf (k := 28) (ci := 6) (j := 24) (fs := fs_MO ad (h 28)) (by decide) rfl rfl i_MO (by decide) rfl rfl hw hd (kk ((hh 28 24).2 (by decide))))
theorem S_MO_drillLevel {x : Int} {idx : Nat} (hw : Cond.fieldLink M.1 idx "MountainWatchModel" "drillLevel" "I" ∈ TB) (hd : decode M.2.1 pc = .ok (.putfield idx, 3)) (hx : InR x) (kk : WP D ad ca sc M (pc + 3) lv st (up h 28 24 x) Q) : WP D ad ca sc M pc lv (vI x :: .ref (ad 28) :: st) h Q :=
  P_putf (k := 28) (ci := 6) (j := 24) (fs := fs_MO ad (h 28)) (ty := .int) (ty0 := t_MO) (by decide) rfl rfl rfl i_MO t_MO_ok n_MO (by decide) rfl rfl (by decide +kernel) rfl rfl (Nat.le_of_ble_eq_true rfl) (by decide) hx hw hd kk
theorem G_MO_nodes {idx : Nat} (hw : Cond.fieldLink M.1 idx "MountainWatchModel" "nodes" "I" ∈ TB) (hd : decode M.2.1 pc = .ok (.getfield idx, 3)) (kk : InR (h 28 25) → WP D ad ca sc M (pc + 3) lv (vI (h 28 25) :: st) h Q) : WP D ad ca sc M pc lv (.ref (ad 28) :: st) h Q :=
  P_HR (fun hh => P_getf (k := 28) (ci := 6) (j := 25) (fs := fs_MO ad (h 28)) (by decide) rfl rfl i_MO (by decide) rfl rfl hw hd (kk ((hh 28 25).2 (by decide))))
theorem S_MO_nodes {x : Int} {idx : Nat} (hw : Cond.fieldLink M.1 idx "MountainWatchModel" "nodes" "I" ∈ TB) (hd : decode M.2.1 pc = .ok (.putfield idx, 3)) (hx : InR x) (kk : WP D ad ca sc M (pc + 3) lv st (up h 28 25 x) Q) : WP D ad ca sc M pc lv (vI x :: .ref (ad 28) :: st) h Q :=
  P_putf (k := 28) (ci := 6) (j := 25) (fs := fs_MO ad (h 28)) (ty := .int) (ty0 := t_MO) (by decide) rfl rfl rfl i_MO t_MO_ok n_MO (by decide) rfl rfl (by decide +kernel) rfl rfl (Nat.le_of_ble_eq_true rfl) (by decide) hx hw hd kk
theorem G_MO_parent {idx : Nat} (hw : Cond.fieldLink M.1 idx "MountainWatchModel" "parent" "[I" ∈ TB) (hd : decode M.2.1 pc = .ok (.getfield idx, 3)) (kk : WP D ad ca sc M (pc + 3) lv (.ref (ad 40) :: st) h Q) : WP D ad ca sc M pc lv (.ref (ad 28) :: st) h Q :=
  P_getf (k := 28) (ci := 6) (j := 26) (fs := fs_MO ad (h 28)) (by decide) rfl rfl i_MO (by decide) rfl rfl hw hd kk
theorem G_MO_low {idx : Nat} (hw : Cond.fieldLink M.1 idx "MountainWatchModel" "low" "[I" ∈ TB) (hd : decode M.2.1 pc = .ok (.getfield idx, 3)) (kk : WP D ad ca sc M (pc + 3) lv (.ref (ad 41) :: st) h Q) : WP D ad ca sc M pc lv (.ref (ad 28) :: st) h Q :=
  P_getf (k := 28) (ci := 6) (j := 27) (fs := fs_MO ad (h 28)) (by decide) rfl rfl i_MO (by decide) rfl rfl hw hd kk
theorem G_MO_high {idx : Nat} (hw : Cond.fieldLink M.1 idx "MountainWatchModel" "high" "[I" ∈ TB) (hd : decode M.2.1 pc = .ok (.getfield idx, 3)) (kk : WP D ad ca sc M (pc + 3) lv (.ref (ad 42) :: st) h Q) : WP D ad ca sc M pc lv (.ref (ad 28) :: st) h Q :=
  P_getf (k := 28) (ci := 6) (j := 28) (fs := fs_MO ad (h 28)) (by decide) rfl rfl i_MO (by decide) rfl rfl hw hd kk
theorem G_MO_isFeared {idx : Nat} (hw : Cond.fieldLink M.1 idx "MountainWatchModel" "isFeared" "[Z" ∈ TB) (hd : decode M.2.1 pc = .ok (.getfield idx, 3)) (kk : WP D ad ca sc M (pc + 3) lv (.ref (ad 43) :: st) h Q) : WP D ad ca sc M pc lv (.ref (ad 28) :: st) h Q :=
  P_getf (k := 28) (ci := 6) (j := 29) (fs := fs_MO ad (h 28)) (by decide) rfl rfl i_MO (by decide) rfl rfl hw hd kk
theorem G_MO_chance {idx : Nat} (hw : Cond.fieldLink M.1 idx "MountainWatchModel" "chance" "[J" ∈ TB) (hd : decode M.2.1 pc = .ok (.getfield idx, 3)) (kk : WP D ad ca sc M (pc + 3) lv (.ref (ad 44) :: st) h Q) : WP D ad ca sc M pc lv (.ref (ad 28) :: st) h Q :=
  P_getf (k := 28) (ci := 6) (j := 30) (fs := fs_MO ad (h 28)) (by decide) rfl rfl i_MO (by decide) rfl rfl hw hd kk
theorem G_MO_isGiven {idx : Nat} (hw : Cond.fieldLink M.1 idx "MountainWatchModel" "isGiven" "[Z" ∈ TB) (hd : decode M.2.1 pc = .ok (.getfield idx, 3)) (kk : WP D ad ca sc M (pc + 3) lv (.ref (ad 45) :: st) h Q) : WP D ad ca sc M pc lv (.ref (ad 28) :: st) h Q :=
  P_getf (k := 28) (ci := 6) (j := 31) (fs := fs_MO ad (h 28)) (by decide) rfl rfl i_MO (by decide) rfl rfl hw hd kk
theorem L_2 {i : Int} (hd : decode M.2.1 pc = .ok (.iaload, 1)) (hi : 0 ≤ i ∧ i < 480) (kk : InR (h 2 i) → WP D ad ca sc M (pc + 1) lv (vI (h 2 i) :: st) h Q) : WP D ad ca sc M pc lv (vI i :: .ref (ad 2) :: st) h Q :=
  P_iald (k := 2) (n := 480) (by decide) rfl (by decide) (by decide) hd hi kk
theorem T_2 {i x : Int} (hd : decode M.2.1 pc = .ok (.iastore, 1)) (hi : 0 ≤ i ∧ i < 480) (hx : InR x) (kk : WP D ad ca sc M (pc + 1) lv st (up h 2 i x) Q) : WP D ad ca sc M pc lv (vI x :: vI i :: .ref (ad 2) :: st) h Q :=
  P_iast (k := 2) (n := 480) (by decide) (fun _ => rfl) (by decide) (by decide) hd hi hx kk
theorem L_3 {i : Int} (hd : decode M.2.1 pc = .ok (.iaload, 1)) (hi : 0 ≤ i ∧ i < 80) (kk : InR (h 3 i) → WP D ad ca sc M (pc + 1) lv (vI (h 3 i) :: st) h Q) : WP D ad ca sc M pc lv (vI i :: .ref (ad 3) :: st) h Q :=
  P_iald (k := 3) (n := 80) (by decide) rfl (by decide) (by decide) hd hi kk
theorem T_3 {i x : Int} (hd : decode M.2.1 pc = .ok (.iastore, 1)) (hi : 0 ≤ i ∧ i < 80) (hx : InR x) (kk : WP D ad ca sc M (pc + 1) lv st (up h 3 i x) Q) : WP D ad ca sc M pc lv (vI x :: vI i :: .ref (ad 3) :: st) h Q :=
  P_iast (k := 3) (n := 80) (by decide) (fun _ => rfl) (by decide) (by decide) hd hi hx kk
theorem L_4 {i : Int} (hd : decode M.2.1 pc = .ok (.iaload, 1)) (hi : 0 ≤ i ∧ i < 80) (kk : InR (h 4 i) → WP D ad ca sc M (pc + 1) lv (vI (h 4 i) :: st) h Q) : WP D ad ca sc M pc lv (vI i :: .ref (ad 4) :: st) h Q :=
  P_iald (k := 4) (n := 80) (by decide) rfl (by decide) (by decide) hd hi kk
theorem T_4 {i x : Int} (hd : decode M.2.1 pc = .ok (.iastore, 1)) (hi : 0 ≤ i ∧ i < 80) (hx : InR x) (kk : WP D ad ca sc M (pc + 1) lv st (up h 4 i x) Q) : WP D ad ca sc M pc lv (vI x :: vI i :: .ref (ad 4) :: st) h Q :=
  P_iast (k := 4) (n := 80) (by decide) (fun _ => rfl) (by decide) (by decide) hd hi hx kk
theorem L_5 {i : Int} (hd : decode M.2.1 pc = .ok (.iaload, 1)) (hi : 0 ≤ i ∧ i < 80) (kk : InR (h 5 i) → WP D ad ca sc M (pc + 1) lv (vI (h 5 i) :: st) h Q) : WP D ad ca sc M pc lv (vI i :: .ref (ad 5) :: st) h Q :=
  P_iald (k := 5) (n := 80) (by decide) rfl (by decide) (by decide) hd hi kk
theorem T_5 {i x : Int} (hd : decode M.2.1 pc = .ok (.iastore, 1)) (hi : 0 ≤ i ∧ i < 80) (hx : InR x) (kk : WP D ad ca sc M (pc + 1) lv st (up h 5 i x) Q) : WP D ad ca sc M pc lv (vI x :: vI i :: .ref (ad 5) :: st) h Q :=
  P_iast (k := 5) (n := 80) (by decide) (fun _ => rfl) (by decide) (by decide) hd hi hx kk
theorem L_6 {i : Int} (hd : decode M.2.1 pc = .ok (.iaload, 1)) (hi : 0 ≤ i ∧ i < 80) (kk : InR (h 6 i) → WP D ad ca sc M (pc + 1) lv (vI (h 6 i) :: st) h Q) : WP D ad ca sc M pc lv (vI i :: .ref (ad 6) :: st) h Q :=
  P_iald (k := 6) (n := 80) (by decide) rfl (by decide) (by decide) hd hi kk
theorem T_6 {i x : Int} (hd : decode M.2.1 pc = .ok (.iastore, 1)) (hi : 0 ≤ i ∧ i < 80) (hx : InR x) (kk : WP D ad ca sc M (pc + 1) lv st (up h 6 i x) Q) : WP D ad ca sc M pc lv (vI x :: vI i :: .ref (ad 6) :: st) h Q :=
  P_iast (k := 6) (n := 80) (by decide) (fun _ => rfl) (by decide) (by decide) hd hi hx kk
theorem L_8 {i : Int} (hd : decode M.2.1 pc = .ok (.iaload, 1)) (hi : 0 ≤ i ∧ i < 1000) (kk : InR (h 8 i) → WP D ad ca sc M (pc + 1) lv (vI (h 8 i) :: st) h Q) : WP D ad ca sc M pc lv (vI i :: .ref (ad 8) :: st) h Q :=
  P_iald (k := 8) (n := 1000) (by decide) rfl (by decide) (by decide) hd hi kk
theorem T_8 {i x : Int} (hd : decode M.2.1 pc = .ok (.iastore, 1)) (hi : 0 ≤ i ∧ i < 1000) (hx : InR x) (kk : WP D ad ca sc M (pc + 1) lv st (up h 8 i x) Q) : WP D ad ca sc M pc lv (vI x :: vI i :: .ref (ad 8) :: st) h Q :=
  P_iast (k := 8) (n := 1000) (by decide) (fun _ => rfl) (by decide) (by decide) hd hi hx kk
theorem L_9 {i : Int} (hd : decode M.2.1 pc = .ok (.iaload, 1)) (hi : 0 ≤ i ∧ i < 1000) (kk : InR (h 9 i) → WP D ad ca sc M (pc + 1) lv (vI (h 9 i) :: st) h Q) : WP D ad ca sc M pc lv (vI i :: .ref (ad 9) :: st) h Q :=
  P_iald (k := 9) (n := 1000) (by decide) rfl (by decide) (by decide) hd hi kk
theorem T_9 {i x : Int} (hd : decode M.2.1 pc = .ok (.iastore, 1)) (hi : 0 ≤ i ∧ i < 1000) (hx : InR x) (kk : WP D ad ca sc M (pc + 1) lv st (up h 9 i x) Q) : WP D ad ca sc M pc lv (vI x :: vI i :: .ref (ad 9) :: st) h Q :=
  P_iast (k := 9) (n := 1000) (by decide) (fun _ => rfl) (by decide) (by decide) hd hi hx kk
theorem L_11 {i : Int} (hd : decode M.2.1 pc = .ok (.iaload, 1)) (hi : 0 ≤ i ∧ i < 8) (kk : InR (h 11 i) → WP D ad ca sc M (pc + 1) lv (vI (h 11 i) :: st) h Q) : WP D ad ca sc M pc lv (vI i :: .ref (ad 11) :: st) h Q :=
  P_iald (k := 11) (n := 8) (by decide) rfl (by decide) (by decide) hd hi kk
theorem T_11 {i x : Int} (hd : decode M.2.1 pc = .ok (.iastore, 1)) (hi : 0 ≤ i ∧ i < 8) (hx : InR x) (kk : WP D ad ca sc M (pc + 1) lv st (up h 11 i x) Q) : WP D ad ca sc M pc lv (vI x :: vI i :: .ref (ad 11) :: st) h Q :=
  P_iast (k := 11) (n := 8) (by decide) (fun _ => rfl) (by decide) (by decide) hd hi hx kk
theorem L_12 {i : Int} (hd : decode M.2.1 pc = .ok (.iaload, 1)) (hi : 0 ≤ i ∧ i < 8) (kk : InR (h 12 i) → WP D ad ca sc M (pc + 1) lv (vI (h 12 i) :: st) h Q) : WP D ad ca sc M pc lv (vI i :: .ref (ad 12) :: st) h Q :=
  P_iald (k := 12) (n := 8) (by decide) rfl (by decide) (by decide) hd hi kk
theorem T_12 {i x : Int} (hd : decode M.2.1 pc = .ok (.iastore, 1)) (hi : 0 ≤ i ∧ i < 8) (hx : InR x) (kk : WP D ad ca sc M (pc + 1) lv st (up h 12 i x) Q) : WP D ad ca sc M pc lv (vI x :: vI i :: .ref (ad 12) :: st) h Q :=
  P_iast (k := 12) (n := 8) (by decide) (fun _ => rfl) (by decide) (by decide) hd hi hx kk
theorem L_13 {i : Int} (hd : decode M.2.1 pc = .ok (.iaload, 1)) (hi : 0 ≤ i ∧ i < 8) (kk : InR (h 13 i) → WP D ad ca sc M (pc + 1) lv (vI (h 13 i) :: st) h Q) : WP D ad ca sc M pc lv (vI i :: .ref (ad 13) :: st) h Q :=
  P_iald (k := 13) (n := 8) (by decide) rfl (by decide) (by decide) hd hi kk
theorem T_13 {i x : Int} (hd : decode M.2.1 pc = .ok (.iastore, 1)) (hi : 0 ≤ i ∧ i < 8) (hx : InR x) (kk : WP D ad ca sc M (pc + 1) lv st (up h 13 i x) Q) : WP D ad ca sc M pc lv (vI x :: vI i :: .ref (ad 13) :: st) h Q :=
  P_iast (k := 13) (n := 8) (by decide) (fun _ => rfl) (by decide) (by decide) hd hi hx kk
theorem L_14 {i : Int} (hd : decode M.2.1 pc = .ok (.iaload, 1)) (hi : 0 ≤ i ∧ i < 8) (kk : InR (h 14 i) → WP D ad ca sc M (pc + 1) lv (vI (h 14 i) :: st) h Q) : WP D ad ca sc M pc lv (vI i :: .ref (ad 14) :: st) h Q :=
  P_iald (k := 14) (n := 8) (by decide) rfl (by decide) (by decide) hd hi kk
theorem T_14 {i x : Int} (hd : decode M.2.1 pc = .ok (.iastore, 1)) (hi : 0 ≤ i ∧ i < 8) (hx : InR x) (kk : WP D ad ca sc M (pc + 1) lv st (up h 14 i x) Q) : WP D ad ca sc M pc lv (vI x :: vI i :: .ref (ad 14) :: st) h Q :=
  P_iast (k := 14) (n := 8) (by decide) (fun _ => rfl) (by decide) (by decide) hd hi hx kk
theorem L_16 {i : Int} (hd : decode M.2.1 pc = .ok (.iaload, 1)) (hi : 0 ≤ i ∧ i < 200) (kk : InR (h 16 i) → WP D ad ca sc M (pc + 1) lv (vI (h 16 i) :: st) h Q) : WP D ad ca sc M pc lv (vI i :: .ref (ad 16) :: st) h Q :=
  P_iald (k := 16) (n := 200) (by decide) rfl (by decide) (by decide) hd hi kk
theorem T_16 {i x : Int} (hd : decode M.2.1 pc = .ok (.iastore, 1)) (hi : 0 ≤ i ∧ i < 200) (hx : InR x) (kk : WP D ad ca sc M (pc + 1) lv st (up h 16 i x) Q) : WP D ad ca sc M pc lv (vI x :: vI i :: .ref (ad 16) :: st) h Q :=
  P_iast (k := 16) (n := 200) (by decide) (fun _ => rfl) (by decide) (by decide) hd hi hx kk
theorem L_17 {i : Int} (hd : decode M.2.1 pc = .ok (.iaload, 1)) (hi : 0 ≤ i ∧ i < 200) (kk : InR (h 17 i) → WP D ad ca sc M (pc + 1) lv (vI (h 17 i) :: st) h Q) : WP D ad ca sc M pc lv (vI i :: .ref (ad 17) :: st) h Q :=
  P_iald (k := 17) (n := 200) (by decide) rfl (by decide) (by decide) hd hi kk
theorem T_17 {i x : Int} (hd : decode M.2.1 pc = .ok (.iastore, 1)) (hi : 0 ≤ i ∧ i < 200) (hx : InR x) (kk : WP D ad ca sc M (pc + 1) lv st (up h 17 i x) Q) : WP D ad ca sc M pc lv (vI x :: vI i :: .ref (ad 17) :: st) h Q :=
  P_iast (k := 17) (n := 200) (by decide) (fun _ => rfl) (by decide) (by decide) hd hi hx kk
theorem L_18 {i : Int} (hd : decode M.2.1 pc = .ok (.iaload, 1)) (hi : 0 ≤ i ∧ i < 200) (kk : InR (h 18 i) → WP D ad ca sc M (pc + 1) lv (vI (h 18 i) :: st) h Q) : WP D ad ca sc M pc lv (vI i :: .ref (ad 18) :: st) h Q :=
  P_iald (k := 18) (n := 200) (by decide) rfl (by decide) (by decide) hd hi kk
theorem T_18 {i x : Int} (hd : decode M.2.1 pc = .ok (.iastore, 1)) (hi : 0 ≤ i ∧ i < 200) (hx : InR x) (kk : WP D ad ca sc M (pc + 1) lv st (up h 18 i x) Q) : WP D ad ca sc M pc lv (vI x :: vI i :: .ref (ad 18) :: st) h Q :=
  P_iast (k := 18) (n := 200) (by decide) (fun _ => rfl) (by decide) (by decide) hd hi hx kk
theorem L_20 {i : Int} (hd : decode M.2.1 pc = .ok (.iaload, 1)) (hi : 0 ≤ i ∧ i < 24) (kk : InR (h 20 i) → WP D ad ca sc M (pc + 1) lv (vI (h 20 i) :: st) h Q) : WP D ad ca sc M pc lv (vI i :: .ref (ad 20) :: st) h Q :=
  P_iald (k := 20) (n := 24) (by decide) rfl (by decide) (by decide) hd hi kk
theorem T_20 {i x : Int} (hd : decode M.2.1 pc = .ok (.iastore, 1)) (hi : 0 ≤ i ∧ i < 24) (hx : InR x) (kk : WP D ad ca sc M (pc + 1) lv st (up h 20 i x) Q) : WP D ad ca sc M pc lv (vI x :: vI i :: .ref (ad 20) :: st) h Q :=
  P_iast (k := 20) (n := 24) (by decide) (fun _ => rfl) (by decide) (by decide) hd hi hx kk
theorem L_21 {i : Int} (hd : decode M.2.1 pc = .ok (.iaload, 1)) (hi : 0 ≤ i ∧ i < 24) (kk : InR (h 21 i) → WP D ad ca sc M (pc + 1) lv (vI (h 21 i) :: st) h Q) : WP D ad ca sc M pc lv (vI i :: .ref (ad 21) :: st) h Q :=
  P_iald (k := 21) (n := 24) (by decide) rfl (by decide) (by decide) hd hi kk
theorem T_21 {i x : Int} (hd : decode M.2.1 pc = .ok (.iastore, 1)) (hi : 0 ≤ i ∧ i < 24) (hx : InR x) (kk : WP D ad ca sc M (pc + 1) lv st (up h 21 i x) Q) : WP D ad ca sc M pc lv (vI x :: vI i :: .ref (ad 21) :: st) h Q :=
  P_iast (k := 21) (n := 24) (by decide) (fun _ => rfl) (by decide) (by decide) hd hi hx kk
theorem L_22 {i : Int} (hd : decode M.2.1 pc = .ok (.iaload, 1)) (hi : 0 ≤ i ∧ i < 24) (kk : InR (h 22 i) → WP D ad ca sc M (pc + 1) lv (vI (h 22 i) :: st) h Q) : WP D ad ca sc M pc lv (vI i :: .ref (ad 22) :: st) h Q :=
  P_iald (k := 22) (n := 24) (by decide) rfl (by decide) (by decide) hd hi kk
theorem T_22 {i x : Int} (hd : decode M.2.1 pc = .ok (.iastore, 1)) (hi : 0 ≤ i ∧ i < 24) (hx : InR x) (kk : WP D ad ca sc M (pc + 1) lv st (up h 22 i x) Q) : WP D ad ca sc M pc lv (vI x :: vI i :: .ref (ad 22) :: st) h Q :=
  P_iast (k := 22) (n := 24) (by decide) (fun _ => rfl) (by decide) (by decide) hd hi hx kk
theorem L_23 {i : Int} (hd : decode M.2.1 pc = .ok (.iaload, 1)) (hi : 0 ≤ i ∧ i < 24) (kk : InR (h 23 i) → WP D ad ca sc M (pc + 1) lv (vI (h 23 i) :: st) h Q) : WP D ad ca sc M pc lv (vI i :: .ref (ad 23) :: st) h Q :=
  P_iald (k := 23) (n := 24) (by decide) rfl (by decide) (by decide) hd hi kk
theorem T_23 {i x : Int} (hd : decode M.2.1 pc = .ok (.iastore, 1)) (hi : 0 ≤ i ∧ i < 24) (hx : InR x) (kk : WP D ad ca sc M (pc + 1) lv st (up h 23 i x) Q) : WP D ad ca sc M pc lv (vI x :: vI i :: .ref (ad 23) :: st) h Q :=
  P_iast (k := 23) (n := 24) (by decide) (fun _ => rfl) (by decide) (by decide) hd hi hx kk
theorem L_24 {i : Int} (hd : decode M.2.1 pc = .ok (.iaload, 1)) (hi : 0 ≤ i ∧ i < 24) (kk : InR (h 24 i) → WP D ad ca sc M (pc + 1) lv (vI (h 24 i) :: st) h Q) : WP D ad ca sc M pc lv (vI i :: .ref (ad 24) :: st) h Q :=
  P_iald (k := 24) (n := 24) (by decide) rfl (by decide) (by decide) hd hi kk
theorem T_24 {i x : Int} (hd : decode M.2.1 pc = .ok (.iastore, 1)) (hi : 0 ≤ i ∧ i < 24) (hx : InR x) (kk : WP D ad ca sc M (pc + 1) lv st (up h 24 i x) Q) : WP D ad ca sc M pc lv (vI x :: vI i :: .ref (ad 24) :: st) h Q :=
  P_iast (k := 24) (n := 24) (by decide) (fun _ => rfl) (by decide) (by decide) hd hi hx kk
theorem L_25 {i : Int} (hd : decode M.2.1 pc = .ok (.baload, 1)) (hi : 0 ≤ i ∧ i < 24) (kk : InR (h 25 i) → WP D ad ca sc M (pc + 1) lv (vI (h 25 i) :: st) h Q) : WP D ad ca sc M pc lv (vI i :: .ref (ad 25) :: st) h Q :=
  P_zald (k := 25) (n := 24) (by decide) rfl (by decide) (by decide) hd hi kk
theorem T_25 {i x : Int} (hd : decode M.2.1 pc = .ok (.bastore, 1)) (hi : 0 ≤ i ∧ i < 24) (hx : x = 0 ∨ x = 1) (kk : WP D ad ca sc M (pc + 1) lv st (up h 25 i x) Q) : WP D ad ca sc M pc lv (vI x :: vI i :: .ref (ad 25) :: st) h Q :=
  P_zast (k := 25) (n := 24) (by decide) (fun _ => rfl) (by decide) (by decide) hd hi hx kk
theorem L_26 {i : Int} (hd : decode M.2.1 pc = .ok (.iaload, 1)) (hi : 0 ≤ i ∧ i < 24) (kk : InR (h 26 i) → WP D ad ca sc M (pc + 1) lv (vI (h 26 i) :: st) h Q) : WP D ad ca sc M pc lv (vI i :: .ref (ad 26) :: st) h Q :=
  P_iald (k := 26) (n := 24) (by decide) rfl (by decide) (by decide) hd hi kk
theorem T_26 {i x : Int} (hd : decode M.2.1 pc = .ok (.iastore, 1)) (hi : 0 ≤ i ∧ i < 24) (hx : InR x) (kk : WP D ad ca sc M (pc + 1) lv st (up h 26 i x) Q) : WP D ad ca sc M pc lv (vI x :: vI i :: .ref (ad 26) :: st) h Q :=
  P_iast (k := 26) (n := 24) (by decide) (fun _ => rfl) (by decide) (by decide) hd hi hx kk
theorem L_27 {i : Int} (hd : decode M.2.1 pc = .ok (.baload, 1)) (hi : 0 ≤ i ∧ i < 24) (kk : InR (h 27 i) → WP D ad ca sc M (pc + 1) lv (vI (h 27 i) :: st) h Q) : WP D ad ca sc M pc lv (vI i :: .ref (ad 27) :: st) h Q :=
  P_zald (k := 27) (n := 24) (by decide) rfl (by decide) (by decide) hd hi kk
theorem T_27 {i x : Int} (hd : decode M.2.1 pc = .ok (.bastore, 1)) (hi : 0 ≤ i ∧ i < 24) (hx : x = 0 ∨ x = 1) (kk : WP D ad ca sc M (pc + 1) lv st (up h 27 i x) Q) : WP D ad ca sc M pc lv (vI x :: vI i :: .ref (ad 27) :: st) h Q :=
  P_zast (k := 27) (n := 24) (by decide) (fun _ => rfl) (by decide) (by decide) hd hi hx kk
theorem L_29 {i : Int} (hd : decode M.2.1 pc = .ok (.iaload, 1)) (hi : 0 ≤ i ∧ i < 80) (kk : InR (h 29 i) → WP D ad ca sc M (pc + 1) lv (vI (h 29 i) :: st) h Q) : WP D ad ca sc M pc lv (vI i :: .ref (ad 29) :: st) h Q :=
  P_iald (k := 29) (n := 80) (by decide) rfl (by decide) (by decide) hd hi kk
theorem T_29 {i x : Int} (hd : decode M.2.1 pc = .ok (.iastore, 1)) (hi : 0 ≤ i ∧ i < 80) (hx : InR x) (kk : WP D ad ca sc M (pc + 1) lv st (up h 29 i x) Q) : WP D ad ca sc M pc lv (vI x :: vI i :: .ref (ad 29) :: st) h Q :=
  P_iast (k := 29) (n := 80) (by decide) (fun _ => rfl) (by decide) (by decide) hd hi hx kk
theorem L_30 {i : Int} (hd : decode M.2.1 pc = .ok (.iaload, 1)) (hi : 0 ≤ i ∧ i < 480) (kk : InR (h 30 i) → WP D ad ca sc M (pc + 1) lv (vI (h 30 i) :: st) h Q) : WP D ad ca sc M pc lv (vI i :: .ref (ad 30) :: st) h Q :=
  P_iald (k := 30) (n := 480) (by decide) rfl (by decide) (by decide) hd hi kk
theorem T_30 {i x : Int} (hd : decode M.2.1 pc = .ok (.iastore, 1)) (hi : 0 ≤ i ∧ i < 480) (hx : InR x) (kk : WP D ad ca sc M (pc + 1) lv st (up h 30 i x) Q) : WP D ad ca sc M pc lv (vI x :: vI i :: .ref (ad 30) :: st) h Q :=
  P_iast (k := 30) (n := 480) (by decide) (fun _ => rfl) (by decide) (by decide) hd hi hx kk
theorem L_31 {i : Int} (hd : decode M.2.1 pc = .ok (.iaload, 1)) (hi : 0 ≤ i ∧ i < 80) (kk : InR (h 31 i) → WP D ad ca sc M (pc + 1) lv (vI (h 31 i) :: st) h Q) : WP D ad ca sc M pc lv (vI i :: .ref (ad 31) :: st) h Q :=
  P_iald (k := 31) (n := 80) (by decide) rfl (by decide) (by decide) hd hi kk
theorem T_31 {i x : Int} (hd : decode M.2.1 pc = .ok (.iastore, 1)) (hi : 0 ≤ i ∧ i < 80) (hx : InR x) (kk : WP D ad ca sc M (pc + 1) lv st (up h 31 i x) Q) : WP D ad ca sc M pc lv (vI x :: vI i :: .ref (ad 31) :: st) h Q :=
  P_iast (k := 31) (n := 80) (by decide) (fun _ => rfl) (by decide) (by decide) hd hi hx kk
theorem L_32 {i : Int} (hd : decode M.2.1 pc = .ok (.baload, 1)) (hi : 0 ≤ i ∧ i < 1000) (kk : InR (h 32 i) → WP D ad ca sc M (pc + 1) lv (vI (h 32 i) :: st) h Q) : WP D ad ca sc M pc lv (vI i :: .ref (ad 32) :: st) h Q :=
  P_zald (k := 32) (n := 1000) (by decide) rfl (by decide) (by decide) hd hi kk
theorem T_32 {i x : Int} (hd : decode M.2.1 pc = .ok (.bastore, 1)) (hi : 0 ≤ i ∧ i < 1000) (hx : x = 0 ∨ x = 1) (kk : WP D ad ca sc M (pc + 1) lv st (up h 32 i x) Q) : WP D ad ca sc M pc lv (vI x :: vI i :: .ref (ad 32) :: st) h Q :=
  P_zast (k := 32) (n := 1000) (by decide) (fun _ => rfl) (by decide) (by decide) hd hi hx kk
theorem L_33 {i : Int} (hd : decode M.2.1 pc = .ok (.iaload, 1)) (hi : 0 ≤ i ∧ i < 1000) (kk : InR (h 33 i) → WP D ad ca sc M (pc + 1) lv (vI (h 33 i) :: st) h Q) : WP D ad ca sc M pc lv (vI i :: .ref (ad 33) :: st) h Q :=
  P_iald (k := 33) (n := 1000) (by decide) rfl (by decide) (by decide) hd hi kk
theorem T_33 {i x : Int} (hd : decode M.2.1 pc = .ok (.iastore, 1)) (hi : 0 ≤ i ∧ i < 1000) (hx : InR x) (kk : WP D ad ca sc M (pc + 1) lv st (up h 33 i x) Q) : WP D ad ca sc M pc lv (vI x :: vI i :: .ref (ad 33) :: st) h Q :=
  P_iast (k := 33) (n := 1000) (by decide) (fun _ => rfl) (by decide) (by decide) hd hi hx kk
theorem L_34 {i : Int} (hd : decode M.2.1 pc = .ok (.iaload, 1)) (hi : 0 ≤ i ∧ i < 1000) (kk : InR (h 34 i) → WP D ad ca sc M (pc + 1) lv (vI (h 34 i) :: st) h Q) : WP D ad ca sc M pc lv (vI i :: .ref (ad 34) :: st) h Q :=
  P_iald (k := 34) (n := 1000) (by decide) rfl (by decide) (by decide) hd hi kk
theorem T_34 {i x : Int} (hd : decode M.2.1 pc = .ok (.iastore, 1)) (hi : 0 ≤ i ∧ i < 1000) (hx : InR x) (kk : WP D ad ca sc M (pc + 1) lv st (up h 34 i x) Q) : WP D ad ca sc M pc lv (vI x :: vI i :: .ref (ad 34) :: st) h Q :=
  P_iast (k := 34) (n := 1000) (by decide) (fun _ => rfl) (by decide) (by decide) hd hi hx kk
theorem L_35 {i : Int} (hd : decode M.2.1 pc = .ok (.iaload, 1)) (hi : 0 ≤ i ∧ i < 8) (kk : InR (h 35 i) → WP D ad ca sc M (pc + 1) lv (vI (h 35 i) :: st) h Q) : WP D ad ca sc M pc lv (vI i :: .ref (ad 35) :: st) h Q :=
  P_iald (k := 35) (n := 8) (by decide) rfl (by decide) (by decide) hd hi kk
theorem T_35 {i x : Int} (hd : decode M.2.1 pc = .ok (.iastore, 1)) (hi : 0 ≤ i ∧ i < 8) (hx : InR x) (kk : WP D ad ca sc M (pc + 1) lv st (up h 35 i x) Q) : WP D ad ca sc M pc lv (vI x :: vI i :: .ref (ad 35) :: st) h Q :=
  P_iast (k := 35) (n := 8) (by decide) (fun _ => rfl) (by decide) (by decide) hd hi hx kk
theorem L_36 {i : Int} (hd : decode M.2.1 pc = .ok (.iaload, 1)) (hi : 0 ≤ i ∧ i < 8) (kk : InR (h 36 i) → WP D ad ca sc M (pc + 1) lv (vI (h 36 i) :: st) h Q) : WP D ad ca sc M pc lv (vI i :: .ref (ad 36) :: st) h Q :=
  P_iald (k := 36) (n := 8) (by decide) rfl (by decide) (by decide) hd hi kk
theorem T_36 {i x : Int} (hd : decode M.2.1 pc = .ok (.iastore, 1)) (hi : 0 ≤ i ∧ i < 8) (hx : InR x) (kk : WP D ad ca sc M (pc + 1) lv st (up h 36 i x) Q) : WP D ad ca sc M pc lv (vI x :: vI i :: .ref (ad 36) :: st) h Q :=
  P_iast (k := 36) (n := 8) (by decide) (fun _ => rfl) (by decide) (by decide) hd hi hx kk
theorem L_37 {i : Int} (hd : decode M.2.1 pc = .ok (.iaload, 1)) (hi : 0 ≤ i ∧ i < 8) (kk : InR (h 37 i) → WP D ad ca sc M (pc + 1) lv (vI (h 37 i) :: st) h Q) : WP D ad ca sc M pc lv (vI i :: .ref (ad 37) :: st) h Q :=
  P_iald (k := 37) (n := 8) (by decide) rfl (by decide) (by decide) hd hi kk
theorem T_37 {i x : Int} (hd : decode M.2.1 pc = .ok (.iastore, 1)) (hi : 0 ≤ i ∧ i < 8) (hx : InR x) (kk : WP D ad ca sc M (pc + 1) lv st (up h 37 i x) Q) : WP D ad ca sc M pc lv (vI x :: vI i :: .ref (ad 37) :: st) h Q :=
  P_iast (k := 37) (n := 8) (by decide) (fun _ => rfl) (by decide) (by decide) hd hi hx kk
theorem L_38 {i : Int} (hd : decode M.2.1 pc = .ok (.iaload, 1)) (hi : 0 ≤ i ∧ i < 8) (kk : InR (h 38 i) → WP D ad ca sc M (pc + 1) lv (vI (h 38 i) :: st) h Q) : WP D ad ca sc M pc lv (vI i :: .ref (ad 38) :: st) h Q :=
  P_iald (k := 38) (n := 8) (by decide) rfl (by decide) (by decide) hd hi kk
theorem T_38 {i x : Int} (hd : decode M.2.1 pc = .ok (.iastore, 1)) (hi : 0 ≤ i ∧ i < 8) (hx : InR x) (kk : WP D ad ca sc M (pc + 1) lv st (up h 38 i x) Q) : WP D ad ca sc M pc lv (vI x :: vI i :: .ref (ad 38) :: st) h Q :=
  P_iast (k := 38) (n := 8) (by decide) (fun _ => rfl) (by decide) (by decide) hd hi hx kk
theorem L_39 {i : Int} (hd : decode M.2.1 pc = .ok (.iaload, 1)) (hi : 0 ≤ i ∧ i < 1000) (kk : InR (h 39 i) → WP D ad ca sc M (pc + 1) lv (vI (h 39 i) :: st) h Q) : WP D ad ca sc M pc lv (vI i :: .ref (ad 39) :: st) h Q :=
  P_iald (k := 39) (n := 1000) (by decide) rfl (by decide) (by decide) hd hi kk
theorem T_39 {i x : Int} (hd : decode M.2.1 pc = .ok (.iastore, 1)) (hi : 0 ≤ i ∧ i < 1000) (hx : InR x) (kk : WP D ad ca sc M (pc + 1) lv st (up h 39 i x) Q) : WP D ad ca sc M pc lv (vI x :: vI i :: .ref (ad 39) :: st) h Q :=
  P_iast (k := 39) (n := 1000) (by decide) (fun _ => rfl) (by decide) (by decide) hd hi hx kk
theorem L_40 {i : Int} (hd : decode M.2.1 pc = .ok (.iaload, 1)) (hi : 0 ≤ i ∧ i < 24) (kk : InR (h 40 i) → WP D ad ca sc M (pc + 1) lv (vI (h 40 i) :: st) h Q) : WP D ad ca sc M pc lv (vI i :: .ref (ad 40) :: st) h Q :=
  P_iald (k := 40) (n := 24) (by decide) rfl (by decide) (by decide) hd hi kk
theorem T_40 {i x : Int} (hd : decode M.2.1 pc = .ok (.iastore, 1)) (hi : 0 ≤ i ∧ i < 24) (hx : InR x) (kk : WP D ad ca sc M (pc + 1) lv st (up h 40 i x) Q) : WP D ad ca sc M pc lv (vI x :: vI i :: .ref (ad 40) :: st) h Q :=
  P_iast (k := 40) (n := 24) (by decide) (fun _ => rfl) (by decide) (by decide) hd hi hx kk
theorem L_41 {i : Int} (hd : decode M.2.1 pc = .ok (.iaload, 1)) (hi : 0 ≤ i ∧ i < 24) (kk : InR (h 41 i) → WP D ad ca sc M (pc + 1) lv (vI (h 41 i) :: st) h Q) : WP D ad ca sc M pc lv (vI i :: .ref (ad 41) :: st) h Q :=
  P_iald (k := 41) (n := 24) (by decide) rfl (by decide) (by decide) hd hi kk
theorem T_41 {i x : Int} (hd : decode M.2.1 pc = .ok (.iastore, 1)) (hi : 0 ≤ i ∧ i < 24) (hx : InR x) (kk : WP D ad ca sc M (pc + 1) lv st (up h 41 i x) Q) : WP D ad ca sc M pc lv (vI x :: vI i :: .ref (ad 41) :: st) h Q :=
  P_iast (k := 41) (n := 24) (by decide) (fun _ => rfl) (by decide) (by decide) hd hi hx kk
theorem L_42 {i : Int} (hd : decode M.2.1 pc = .ok (.iaload, 1)) (hi : 0 ≤ i ∧ i < 24) (kk : InR (h 42 i) → WP D ad ca sc M (pc + 1) lv (vI (h 42 i) :: st) h Q) : WP D ad ca sc M pc lv (vI i :: .ref (ad 42) :: st) h Q :=
  P_iald (k := 42) (n := 24) (by decide) rfl (by decide) (by decide) hd hi kk
theorem T_42 {i x : Int} (hd : decode M.2.1 pc = .ok (.iastore, 1)) (hi : 0 ≤ i ∧ i < 24) (hx : InR x) (kk : WP D ad ca sc M (pc + 1) lv st (up h 42 i x) Q) : WP D ad ca sc M pc lv (vI x :: vI i :: .ref (ad 42) :: st) h Q :=
  P_iast (k := 42) (n := 24) (by decide) (fun _ => rfl) (by decide) (by decide) hd hi hx kk
theorem L_43 {i : Int} (hd : decode M.2.1 pc = .ok (.baload, 1)) (hi : 0 ≤ i ∧ i < 24) (kk : InR (h 43 i) → WP D ad ca sc M (pc + 1) lv (vI (h 43 i) :: st) h Q) : WP D ad ca sc M pc lv (vI i :: .ref (ad 43) :: st) h Q :=
  P_zald (k := 43) (n := 24) (by decide) rfl (by decide) (by decide) hd hi kk
theorem T_43 {i x : Int} (hd : decode M.2.1 pc = .ok (.bastore, 1)) (hi : 0 ≤ i ∧ i < 24) (hx : x = 0 ∨ x = 1) (kk : WP D ad ca sc M (pc + 1) lv st (up h 43 i x) Q) : WP D ad ca sc M pc lv (vI x :: vI i :: .ref (ad 43) :: st) h Q :=
  P_zast (k := 43) (n := 24) (by decide) (fun _ => rfl) (by decide) (by decide) hd hi hx kk
theorem L_44 {i : Int} (hd : decode M.2.1 pc = .ok (.laload, 1)) (hi : 0 ≤ i ∧ i < 24) (kk : InL (h 44 i) → WP D ad ca sc M (pc + 1) lv (vL (h 44 i) :: st) h Q) : WP D ad ca sc M pc lv (vI i :: .ref (ad 44) :: st) h Q :=
  P_lald (k := 44) (n := 24) (by decide) rfl (by decide) hd hi kk
theorem T_44 {i x : Int} (hd : decode M.2.1 pc = .ok (.lastore, 1)) (hi : 0 ≤ i ∧ i < 24) (hx : InL x) (kk : WP D ad ca sc M (pc + 1) lv st (up h 44 i x) Q) : WP D ad ca sc M pc lv (vL x :: vI i :: .ref (ad 44) :: st) h Q :=
  P_last (k := 44) (n := 24) (by decide) (fun _ => rfl) (by decide) (by decide) hd hi hx kk
theorem L_45 {i : Int} (hd : decode M.2.1 pc = .ok (.baload, 1)) (hi : 0 ≤ i ∧ i < 24) (kk : InR (h 45 i) → WP D ad ca sc M (pc + 1) lv (vI (h 45 i) :: st) h Q) : WP D ad ca sc M pc lv (vI i :: .ref (ad 45) :: st) h Q :=
  P_zald (k := 45) (n := 24) (by decide) rfl (by decide) (by decide) hd hi kk
theorem T_45 {i x : Int} (hd : decode M.2.1 pc = .ok (.bastore, 1)) (hi : 0 ≤ i ∧ i < 24) (hx : x = 0 ∨ x = 1) (kk : WP D ad ca sc M (pc + 1) lv st (up h 45 i x) Q) : WP D ad ca sc M pc lv (vI x :: vI i :: .ref (ad 45) :: st) h Q :=
  P_zast (k := 45) (n := 24) (by decide) (fun _ => rfl) (by decide) (by decide) hd hi hx kk
theorem V_MW_shake {idx : Nat} {a1 : Int} {K : Int → Hp → Prop} (hw : Cond.methodLink M.1 idx y_MW_shake ∈ TB) (hd : decode M.2.1 pc = .ok (.invokevirtual idx, 3)) (hroom : M_MW_shake.2.2.2.1 + 1 ≤ M.2.2.2.1 ∧ 8 + (M_MW_shake.2.2.1 + 11) + M_MW_shake.2.2.2.2.1 ≤ M.2.2.2.2.1) (hrest : (st.map fun v => v.category).sum ≤ 8) (kk : WP D ad ca none M_MW_shake 0 [(0, .ref (ad 0)), (1, vL a1)] [] h (RI K)) (hk : ∀ r h', InR r → K r h' → WP D ad ca sc M (pc + 3) lv (vI r :: st) h' Q) : WP D ad ca sc M pc lv (vL a1 :: .ref (ad 0) :: st) h Q :=
  P_invV (Mc := M_MW_shake) (y := y_MW_shake) (k := 0) (ci := 0) (fs := fs_MW ad (h 0)) (As := [vL a1]) (rest := st) (n := 1) (by decide) rfl rfl (good_V hw tw_236 tw_237 tw_30 tw_238) ⟨by decide +kernel, rfl⟩ (by decide +kernel) hroom rfl rfl hrest (Nat.le_of_ble_eq_true rfl) hd (WP.mono (fun v h' q => P_contI v h' hk q) kk)
theorem V_MW_about {idx : Nat} {a1 a2 : Int} {K : Int → Hp → Prop} (hw : Cond.methodLink M.1 idx y_MW_about ∈ TB) (hd : decode M.2.1 pc = .ok (.invokevirtual idx, 3)) (hroom : M_MW_about.2.2.2.1 + 1 ≤ M.2.2.2.1 ∧ 8 + (M_MW_about.2.2.1 + 11) + M_MW_about.2.2.2.2.1 ≤ M.2.2.2.2.1) (hrest : (st.map fun v => v.category).sum ≤ 8) (kk : WP D ad ca none M_MW_about 0 [(0, .ref (ad 0)), (1, vI a1), (2, vI a2)] [] h (RI K)) (hk : ∀ r h', InR r → K r h' → WP D ad ca sc M (pc + 3) lv (vI r :: st) h' Q) : WP D ad ca sc M pc lv (vI a2 :: vI a1 :: .ref (ad 0) :: st) h Q :=
  P_invV (Mc := M_MW_about) (y := y_MW_about) (k := 0) (ci := 0) (fs := fs_MW ad (h 0)) (As := [vI a1, vI a2]) (rest := st) (n := 2) (by decide) rfl rfl (good_V hw tw_274 tw_275 tw_30 tw_276) ⟨by decide +kernel, rfl⟩ (by decide +kernel) hroom rfl rfl hrest (Nat.le_of_ble_eq_true rfl) hd (WP.mono (fun v h' q => P_contI v h' hk q) kk)
theorem V_MW_alike {idx : Nat} {a1 a2 : Int} {K : Int → Hp → Prop} (hw : Cond.methodLink M.1 idx y_MW_alike ∈ TB) (hd : decode M.2.1 pc = .ok (.invokevirtual idx, 3)) (hroom : M_MW_alike.2.2.2.1 + 1 ≤ M.2.2.2.1 ∧ 8 + (M_MW_alike.2.2.1 + 11) + M_MW_alike.2.2.2.2.1 ≤ M.2.2.2.2.1) (hrest : (st.map fun v => v.category).sum ≤ 8) (kk : WP D ad ca none M_MW_alike 0 [(0, .ref (ad 0)), (1, vI a1), (2, vI a2)] [] h (RI K)) (hk : ∀ r h', InR r → K r h' → WP D ad ca sc M (pc + 3) lv (vI r :: st) h' Q) : WP D ad ca sc M pc lv (vI a2 :: vI a1 :: .ref (ad 0) :: st) h Q :=
  P_invV (Mc := M_MW_alike) (y := y_MW_alike) (k := 0) (ci := 0) (fs := fs_MW ad (h 0)) (As := [vI a1, vI a2]) (rest := st) (n := 2) (by decide) rfl rfl (good_V hw tw_286 tw_287 tw_30 tw_288) ⟨by decide +kernel, rfl⟩ (by decide +kernel) hroom rfl rfl hrest (Nat.le_of_ble_eq_true rfl) hd (WP.mono (fun v h' q => P_contI v h' hk q) kk)
theorem V_MW_likeness {idx : Nat} {a1 : Int} {K : Int → Hp → Prop} (hw : Cond.methodLink M.1 idx y_MW_likeness ∈ TB) (hd : decode M.2.1 pc = .ok (.invokevirtual idx, 3)) (hroom : M_MW_likeness.2.2.2.1 + 1 ≤ M.2.2.2.1 ∧ 8 + (M_MW_likeness.2.2.1 + 11) + M_MW_likeness.2.2.2.2.1 ≤ M.2.2.2.2.1) (hrest : (st.map fun v => v.category).sum ≤ 8) (kk : WP D ad ca none M_MW_likeness 0 [(0, .ref (ad 0)), (1, vI a1)] [] h (RI K)) (hk : ∀ r h', InR r → K r h' → WP D ad ca sc M (pc + 3) lv (vI r :: st) h' Q) : WP D ad ca sc M pc lv (vI a1 :: .ref (ad 0) :: st) h Q :=
  P_invV (Mc := M_MW_likeness) (y := y_MW_likeness) (k := 0) (ci := 0) (fs := fs_MW ad (h 0)) (As := [vI a1]) (rest := st) (n := 1) (by decide) rfl rfl (good_V hw tw_294 tw_295 tw_30 tw_296) ⟨by decide +kernel, rfl⟩ (by decide +kernel) hroom rfl rfl hrest (Nat.le_of_ble_eq_true rfl) hd (WP.mono (fun v h' q => P_contI v h' hk q) kk)
theorem V_MW_family {idx : Nat} {a1 : Int} {K : Int → Hp → Prop} (hw : Cond.methodLink M.1 idx y_MW_family ∈ TB) (hd : decode M.2.1 pc = .ok (.invokevirtual idx, 3)) (hroom : M_MW_family.2.2.2.1 + 1 ≤ M.2.2.2.1 ∧ 8 + (M_MW_family.2.2.1 + 11) + M_MW_family.2.2.2.2.1 ≤ M.2.2.2.2.1) (hrest : (st.map fun v => v.category).sum ≤ 8) (kk : WP D ad ca none M_MW_family 0 [(0, .ref (ad 0)), (1, vI a1)] [] h (RI K)) (hk : ∀ r h', InR r → K r h' → WP D ad ca sc M (pc + 3) lv (vI r :: st) h' Q) : WP D ad ca sc M pc lv (vI a1 :: .ref (ad 0) :: st) h Q :=
  P_invV (Mc := M_MW_family) (y := y_MW_family) (k := 0) (ci := 0) (fs := fs_MW ad (h 0)) (As := [vI a1]) (rest := st) (n := 1) (by decide) rfl rfl (good_V hw tw_302 tw_303 tw_30 tw_304) ⟨by decide +kernel, rfl⟩ (by decide +kernel) hroom rfl rfl hrest (Nat.le_of_ble_eq_true rfl) hd (WP.mono (fun v h' q => P_contI v h' hk q) kk)
theorem V_MW_kin {idx : Nat} {a1 : Int} {K : Int → Hp → Prop} (hw : Cond.methodLink M.1 idx y_MW_kin ∈ TB) (hd : decode M.2.1 pc = .ok (.invokevirtual idx, 3)) (hroom : M_MW_kin.2.2.2.1 + 1 ≤ M.2.2.2.1 ∧ 8 + (M_MW_kin.2.2.1 + 11) + M_MW_kin.2.2.2.2.1 ≤ M.2.2.2.2.1) (hrest : (st.map fun v => v.category).sum ≤ 8) (kk : WP D ad ca none M_MW_kin 0 [(0, .ref (ad 0)), (1, vI a1)] [] h (RI K)) (hk : ∀ r h', InR r → K r h' → WP D ad ca sc M (pc + 3) lv (vI r :: st) h' Q) : WP D ad ca sc M pc lv (vI a1 :: .ref (ad 0) :: st) h Q :=
  P_invV (Mc := M_MW_kin) (y := y_MW_kin) (k := 0) (ci := 0) (fs := fs_MW ad (h 0)) (As := [vI a1]) (rest := st) (n := 1) (by decide) rfl rfl (good_V hw tw_314 tw_315 tw_30 tw_316) ⟨by decide +kernel, rfl⟩ (by decide +kernel) hroom rfl rfl hrest (Nat.le_of_ble_eq_true rfl) hd (WP.mono (fun v h' q => P_contI v h' hk q) kk)
theorem V_MW_tilt {idx : Nat} {a1 : Int} {K : Int → Hp → Prop} (hw : Cond.methodLink M.1 idx y_MW_tilt ∈ TB) (hd : decode M.2.1 pc = .ok (.invokevirtual idx, 3)) (hroom : M_MW_tilt.2.2.2.1 + 1 ≤ M.2.2.2.1 ∧ 8 + (M_MW_tilt.2.2.1 + 11) + M_MW_tilt.2.2.2.2.1 ≤ M.2.2.2.2.1) (hrest : (st.map fun v => v.category).sum ≤ 8) (kk : WP D ad ca none M_MW_tilt 0 [(0, .ref (ad 0)), (1, vI a1)] [] h (RI K)) (hk : ∀ r h', InR r → K r h' → WP D ad ca sc M (pc + 3) lv (vI r :: st) h' Q) : WP D ad ca sc M pc lv (vI a1 :: .ref (ad 0) :: st) h Q :=
  P_invV (Mc := M_MW_tilt) (y := y_MW_tilt) (k := 0) (ci := 0) (fs := fs_MW ad (h 0)) (As := [vI a1]) (rest := st) (n := 1) (by decide) rfl rfl (good_V hw tw_322 tw_323 tw_30 tw_324) ⟨by decide +kernel, rfl⟩ (by decide +kernel) hroom rfl rfl hrest (Nat.le_of_ble_eq_true rfl) hd (WP.mono (fun v h' q => P_contI v h' hk q) kk)
theorem V_MW_gas {idx : Nat} {a1 : Int} {K : Int → Hp → Prop} (hw : Cond.methodLink M.1 idx y_MW_gas ∈ TB) (hd : decode M.2.1 pc = .ok (.invokevirtual idx, 3)) (hroom : M_MW_gas.2.2.2.1 + 1 ≤ M.2.2.2.1 ∧ 8 + (M_MW_gas.2.2.1 + 11) + M_MW_gas.2.2.2.2.1 ≤ M.2.2.2.2.1) (hrest : (st.map fun v => v.category).sum ≤ 8) (kk : WP D ad ca none M_MW_gas 0 [(0, .ref (ad 0)), (1, vI a1)] [] h (RI K)) (hk : ∀ r h', InR r → K r h' → WP D ad ca sc M (pc + 3) lv (vI r :: st) h' Q) : WP D ad ca sc M pc lv (vI a1 :: .ref (ad 0) :: st) h Q :=
  P_invV (Mc := M_MW_gas) (y := y_MW_gas) (k := 0) (ci := 0) (fs := fs_MW ad (h 0)) (As := [vI a1]) (rest := st) (n := 1) (by decide) rfl rfl (good_V hw tw_326 tw_327 tw_30 tw_328) ⟨by decide +kernel, rfl⟩ (by decide +kernel) hroom rfl rfl hrest (Nat.le_of_ble_eq_true rfl) hd (WP.mono (fun v h' q => P_contI v h' hk q) kk)
theorem V_MW_tiltAt {idx : Nat} {a1 : Int} {K : Int → Hp → Prop} (hw : Cond.methodLink M.1 idx y_MW_tiltAt ∈ TB) (hd : decode M.2.1 pc = .ok (.invokevirtual idx, 3)) (hroom : M_MW_tiltAt.2.2.2.1 + 1 ≤ M.2.2.2.1 ∧ 8 + (M_MW_tiltAt.2.2.1 + 11) + M_MW_tiltAt.2.2.2.2.1 ≤ M.2.2.2.2.1) (hrest : (st.map fun v => v.category).sum ≤ 8) (kk : WP D ad ca none M_MW_tiltAt 0 [(0, .ref (ad 0)), (1, vI a1)] [] h (RI K)) (hk : ∀ r h', InR r → K r h' → WP D ad ca sc M (pc + 3) lv (vI r :: st) h' Q) : WP D ad ca sc M pc lv (vI a1 :: .ref (ad 0) :: st) h Q :=
  P_invV (Mc := M_MW_tiltAt) (y := y_MW_tiltAt) (k := 0) (ci := 0) (fs := fs_MW ad (h 0)) (As := [vI a1]) (rest := st) (n := 1) (by decide) rfl rfl (good_V hw tw_330 tw_331 tw_30 tw_332) ⟨by decide +kernel, rfl⟩ (by decide +kernel) hroom rfl rfl hrest (Nat.le_of_ble_eq_true rfl) hd (WP.mono (fun v h' q => P_contI v h' hk q) kk)
theorem V_MW_gasOf {idx : Nat} {a1 : Int} {K : Int → Hp → Prop} (hw : Cond.methodLink M.1 idx y_MW_gasOf ∈ TB) (hd : decode M.2.1 pc = .ok (.invokevirtual idx, 3)) (hroom : M_MW_gasOf.2.2.2.1 + 1 ≤ M.2.2.2.1 ∧ 8 + (M_MW_gasOf.2.2.1 + 11) + M_MW_gasOf.2.2.2.2.1 ≤ M.2.2.2.2.1) (hrest : (st.map fun v => v.category).sum ≤ 8) (kk : WP D ad ca none M_MW_gasOf 0 [(0, .ref (ad 0)), (1, vI a1)] [] h (RI K)) (hk : ∀ r h', InR r → K r h' → WP D ad ca sc M (pc + 3) lv (vI r :: st) h' Q) : WP D ad ca sc M pc lv (vI a1 :: .ref (ad 0) :: st) h Q :=
  P_invV (Mc := M_MW_gasOf) (y := y_MW_gasOf) (k := 0) (ci := 0) (fs := fs_MW ad (h 0)) (As := [vI a1]) (rest := st) (n := 1) (by decide) rfl rfl (good_V hw tw_339 tw_340 tw_30 tw_341) ⟨by decide +kernel, rfl⟩ (by decide +kernel) hroom rfl rfl hrest (Nat.le_of_ble_eq_true rfl) hd (WP.mono (fun v h' q => P_contI v h' hk q) kk)
theorem V_MW_law {idx : Nat} {a1 a2 a3 a4 : Int} {K : Int → Hp → Prop} (hw : Cond.methodLink M.1 idx y_MW_law ∈ TB) (hd : decode M.2.1 pc = .ok (.invokevirtual idx, 3)) (hroom : M_MW_law.2.2.2.1 + 1 ≤ M.2.2.2.1 ∧ 8 + (M_MW_law.2.2.1 + 11) + M_MW_law.2.2.2.2.1 ≤ M.2.2.2.2.1) (hrest : (st.map fun v => v.category).sum ≤ 8) (kk : WP D ad ca none M_MW_law 0 [(0, .ref (ad 0)), (1, vI a1), (2, vI a2), (3, vI a3), (4, vI a4)] [] h (RI K)) (hk : ∀ r h', InR r → K r h' → WP D ad ca sc M (pc + 3) lv (vI r :: st) h' Q) : WP D ad ca sc M pc lv (vI a4 :: vI a3 :: vI a2 :: vI a1 :: .ref (ad 0) :: st) h Q :=
  P_invV (Mc := M_MW_law) (y := y_MW_law) (k := 0) (ci := 0) (fs := fs_MW ad (h 0)) (As := [vI a1, vI a2, vI a3, vI a4]) (rest := st) (n := 4) (by decide) rfl rfl (good_V hw tw_343 tw_344 tw_30 tw_345) ⟨by decide +kernel, rfl⟩ (by decide +kernel) hroom rfl rfl hrest (Nat.le_of_ble_eq_true rfl) hd (WP.mono (fun v h' q => P_contI v h' hk q) kk)
theorem V_MW_change {idx : Nat} {a1 a2 a3 : Int} {K : Int → Hp → Prop} (hw : Cond.methodLink M.1 idx y_MW_change ∈ TB) (hd : decode M.2.1 pc = .ok (.invokevirtual idx, 3)) (hroom : M_MW_change.2.2.2.1 + 1 ≤ M.2.2.2.1 ∧ 8 + (M_MW_change.2.2.1 + 11) + M_MW_change.2.2.2.2.1 ≤ M.2.2.2.2.1) (hrest : (st.map fun v => v.category).sum ≤ 8) (kk : WP D ad ca none M_MW_change 0 [(0, .ref (ad 0)), (1, vI a1), (2, vI a2), (3, vI a3)] [] h (RI K)) (hk : ∀ r h', InR r → K r h' → WP D ad ca sc M (pc + 3) lv (vI r :: st) h' Q) : WP D ad ca sc M pc lv (vI a3 :: vI a2 :: vI a1 :: .ref (ad 0) :: st) h Q :=
  P_invV (Mc := M_MW_change) (y := y_MW_change) (k := 0) (ci := 0) (fs := fs_MW ad (h 0)) (As := [vI a1, vI a2, vI a3]) (rest := st) (n := 3) (by decide) rfl rfl (good_V hw tw_354 tw_355 tw_30 tw_356) ⟨by decide +kernel, rfl⟩ (by decide +kernel) hroom rfl rfl hrest (Nat.le_of_ble_eq_true rfl) hd (WP.mono (fun v h' q => P_contI v h' hk q) kk)
theorem V_MW_measure {idx : Nat} {a1 a2 : Int} {K : Int → Hp → Prop} (hw : Cond.methodLink M.1 idx y_MW_measure ∈ TB) (hd : decode M.2.1 pc = .ok (.invokevirtual idx, 3)) (hroom : M_MW_measure.2.2.2.1 + 1 ≤ M.2.2.2.1 ∧ 8 + (M_MW_measure.2.2.1 + 11) + M_MW_measure.2.2.2.2.1 ≤ M.2.2.2.2.1) (hrest : (st.map fun v => v.category).sum ≤ 8) (kk : WP D ad ca none M_MW_measure 0 [(0, .ref (ad 0)), (1, vI a1), (2, vI a2)] [] h (RI K)) (hk : ∀ r h', InR r → K r h' → WP D ad ca sc M (pc + 3) lv (vI r :: st) h' Q) : WP D ad ca sc M pc lv (vI a2 :: vI a1 :: .ref (ad 0) :: st) h Q :=
  P_invV (Mc := M_MW_measure) (y := y_MW_measure) (k := 0) (ci := 0) (fs := fs_MW ad (h 0)) (As := [vI a1, vI a2]) (rest := st) (n := 2) (by decide) rfl rfl (good_V hw tw_362 tw_363 tw_30 tw_364) ⟨by decide +kernel, rfl⟩ (by decide +kernel) hroom rfl rfl hrest (Nat.le_of_ble_eq_true rfl) hd (WP.mono (fun v h' q => P_contI v h' hk q) kk)
theorem V_MW_isTrue {idx : Nat} {a1 a2 : Int} {K : Int → Hp → Prop} (hw : Cond.methodLink M.1 idx y_MW_isTrue ∈ TB) (hd : decode M.2.1 pc = .ok (.invokevirtual idx, 3)) (hroom : M_MW_isTrue.2.2.2.1 + 1 ≤ M.2.2.2.1 ∧ 8 + (M_MW_isTrue.2.2.1 + 11) + M_MW_isTrue.2.2.2.2.1 ≤ M.2.2.2.2.1) (hrest : (st.map fun v => v.category).sum ≤ 8) (kk : WP D ad ca none M_MW_isTrue 0 [(0, .ref (ad 0)), (1, vI a1), (2, vI a2)] [] h (RI K)) (hk : ∀ r h', InR r → K r h' → WP D ad ca sc M (pc + 3) lv (vI r :: st) h' Q) : WP D ad ca sc M pc lv (vI a2 :: vI a1 :: .ref (ad 0) :: st) h Q :=
  P_invV (Mc := M_MW_isTrue) (y := y_MW_isTrue) (k := 0) (ci := 0) (fs := fs_MW ad (h 0)) (As := [vI a1, vI a2]) (rest := st) (n := 2) (by decide) rfl rfl (good_V hw tw_401 tw_402 tw_30 tw_403) ⟨by decide +kernel, rfl⟩ (by decide +kernel) hroom rfl rfl hrest (Nat.le_of_ble_eq_true rfl) hd (WP.mono (fun v h' q => P_contI v h' hk q) kk)
theorem V_MW_rest {idx : Nat} {a1 : Int} {K : Int → Hp → Prop} (hw : Cond.methodLink M.1 idx y_MW_rest ∈ TB) (hd : decode M.2.1 pc = .ok (.invokevirtual idx, 3)) (hroom : M_MW_rest.2.2.2.1 + 1 ≤ M.2.2.2.1 ∧ 8 + (M_MW_rest.2.2.1 + 11) + M_MW_rest.2.2.2.2.1 ≤ M.2.2.2.2.1) (hrest : (st.map fun v => v.category).sum ≤ 8) (kk : WP D ad ca none M_MW_rest 0 [(0, .ref (ad 0)), (1, vI a1)] [] h (RI K)) (hk : ∀ r h', InR r → K r h' → WP D ad ca sc M (pc + 3) lv (vI r :: st) h' Q) : WP D ad ca sc M pc lv (vI a1 :: .ref (ad 0) :: st) h Q :=
  P_invV (Mc := M_MW_rest) (y := y_MW_rest) (k := 0) (ci := 0) (fs := fs_MW ad (h 0)) (As := [vI a1]) (rest := st) (n := 1) (by decide) rfl rfl (good_V hw tw_409 tw_410 tw_30 tw_411) ⟨by decide +kernel, rfl⟩ (by decide +kernel) hroom rfl rfl hrest (Nat.le_of_ble_eq_true rfl) hd (WP.mono (fun v h' q => P_contI v h' hk q) kk)
theorem V_MW_next {idx : Nat} {K : Int → Hp → Prop} (hw : Cond.methodLink M.1 idx y_MW_next ∈ TB) (hd : decode M.2.1 pc = .ok (.invokevirtual idx, 3)) (hroom : M_MW_next.2.2.2.1 + 1 ≤ M.2.2.2.1 ∧ 8 + (M_MW_next.2.2.1 + 11) + M_MW_next.2.2.2.2.1 ≤ M.2.2.2.2.1) (hrest : (st.map fun v => v.category).sum ≤ 8) (kk : WP D ad ca none M_MW_next 0 [(0, .ref (ad 0))] [] h (RI K)) (hk : ∀ r h', InR r → K r h' → WP D ad ca sc M (pc + 3) lv (vI r :: st) h' Q) : WP D ad ca sc M pc lv (.ref (ad 0) :: st) h Q :=
  P_invV (Mc := M_MW_next) (y := y_MW_next) (k := 0) (ci := 0) (fs := fs_MW ad (h 0)) (As := []) (rest := st) (n := 0) (by decide) rfl rfl (good_V hw tw_413 tw_414 tw_30 tw_415) ⟨by decide +kernel, rfl⟩ (by decide +kernel) hroom rfl rfl hrest (Nat.le_of_ble_eq_true rfl) hd (WP.mono (fun v h' q => P_contI v h' hk q) kk)
theorem V_MW_hold {idx : Nat} {a1 a2 : Int} {K : Int → Hp → Prop} (hw : Cond.methodLink M.1 idx y_MW_hold ∈ TB) (hd : decode M.2.1 pc = .ok (.invokevirtual idx, 3)) (hroom : M_MW_hold.2.2.2.1 + 1 ≤ M.2.2.2.1 ∧ 8 + (M_MW_hold.2.2.1 + 11) + M_MW_hold.2.2.2.2.1 ≤ M.2.2.2.2.1) (hrest : (st.map fun v => v.category).sum ≤ 8) (kk : WP D ad ca none M_MW_hold 0 [(0, .ref (ad 0)), (1, vI a1), (2, vI a2)] [] h (RI K)) (hk : ∀ r h', InR r → K r h' → WP D ad ca sc M (pc + 3) lv (vI r :: st) h' Q) : WP D ad ca sc M pc lv (vI a2 :: vI a1 :: .ref (ad 0) :: st) h Q :=
  P_invV (Mc := M_MW_hold) (y := y_MW_hold) (k := 0) (ci := 0) (fs := fs_MW ad (h 0)) (As := [vI a1, vI a2]) (rest := st) (n := 2) (by decide) rfl rfl (good_V hw tw_456 tw_457 tw_30 tw_458) ⟨by decide +kernel, rfl⟩ (by decide +kernel) hroom rfl rfl hrest (Nat.le_of_ble_eq_true rfl) hd (WP.mono (fun v h' q => P_contI v h' hk q) kk)
theorem V_MW_release {idx : Nat} {K : Int → Hp → Prop} (hw : Cond.methodLink M.1 idx y_MW_release ∈ TB) (hd : decode M.2.1 pc = .ok (.invokevirtual idx, 3)) (hroom : M_MW_release.2.2.2.1 + 1 ≤ M.2.2.2.1 ∧ 8 + (M_MW_release.2.2.1 + 11) + M_MW_release.2.2.2.2.1 ≤ M.2.2.2.2.1) (hrest : (st.map fun v => v.category).sum ≤ 8) (kk : WP D ad ca none M_MW_release 0 [(0, .ref (ad 0))] [] h (RI K)) (hk : ∀ r h', InR r → K r h' → WP D ad ca sc M (pc + 3) lv (vI r :: st) h' Q) : WP D ad ca sc M pc lv (.ref (ad 0) :: st) h Q :=
  P_invV (Mc := M_MW_release) (y := y_MW_release) (k := 0) (ci := 0) (fs := fs_MW ad (h 0)) (As := []) (rest := st) (n := 0) (by decide) rfl rfl (good_V hw tw_460 tw_461 tw_30 tw_462) ⟨by decide +kernel, rfl⟩ (by decide +kernel) hroom rfl rfl hrest (Nat.le_of_ble_eq_true rfl) hd (WP.mono (fun v h' q => P_contI v h' hk q) kk)
theorem V_MW_word {idx : Nat} {a1 : Int} {K : Int → Hp → Prop} (hw : Cond.methodLink M.1 idx y_MW_word ∈ TB) (hd : decode M.2.1 pc = .ok (.invokevirtual idx, 3)) (hroom : M_MW_word.2.2.2.1 + 1 ≤ M.2.2.2.1 ∧ 8 + (M_MW_word.2.2.1 + 11) + M_MW_word.2.2.2.2.1 ≤ M.2.2.2.2.1) (hrest : (st.map fun v => v.category).sum ≤ 8) (kk : WP D ad ca none M_MW_word 0 [(0, .ref (ad 0)), (1, vI a1)] [] h (RI K)) (hk : ∀ r h', InR r → K r h' → WP D ad ca sc M (pc + 3) lv (vI r :: st) h' Q) : WP D ad ca sc M pc lv (vI a1 :: .ref (ad 0) :: st) h Q :=
  P_invV (Mc := M_MW_word) (y := y_MW_word) (k := 0) (ci := 0) (fs := fs_MW ad (h 0)) (As := [vI a1]) (rest := st) (n := 1) (by decide) rfl rfl (good_V hw tw_464 tw_465 tw_30 tw_466) ⟨by decide +kernel, rfl⟩ (by decide +kernel) hroom rfl rfl hrest (Nat.le_of_ble_eq_true rfl) hd (WP.mono (fun v h' q => P_contI v h' hk q) kk)
theorem V_MW_drill {idx : Nat} {a1 : Int} {K : Int → Hp → Prop} (hw : Cond.methodLink M.1 idx y_MW_drill ∈ TB) (hd : decode M.2.1 pc = .ok (.invokevirtual idx, 3)) (hroom : M_MW_drill.2.2.2.1 + 1 ≤ M.2.2.2.1 ∧ 8 + (M_MW_drill.2.2.1 + 11) + M_MW_drill.2.2.2.2.1 ≤ M.2.2.2.2.1) (hrest : (st.map fun v => v.category).sum ≤ 8) (kk : WP D ad ca none M_MW_drill 0 [(0, .ref (ad 0)), (1, vI a1)] [] h (RI K)) (hk : ∀ r h', InR r → K r h' → WP D ad ca sc M (pc + 3) lv (vI r :: st) h' Q) : WP D ad ca sc M pc lv (vI a1 :: .ref (ad 0) :: st) h Q :=
  P_invV (Mc := M_MW_drill) (y := y_MW_drill) (k := 0) (ci := 0) (fs := fs_MW ad (h 0)) (As := [vI a1]) (rest := st) (n := 1) (by decide) rfl rfl (good_V hw tw_471 tw_472 tw_30 tw_473) ⟨by decide +kernel, rfl⟩ (by decide +kernel) hroom rfl rfl hrest (Nat.le_of_ble_eq_true rfl) hd (WP.mono (fun v h' q => P_contI v h' hk q) kk)
theorem V_MW_message {idx : Nat} {a1 a2 a3 : Int} {K : Int → Hp → Prop} (hw : Cond.methodLink M.1 idx y_MW_message ∈ TB) (hd : decode M.2.1 pc = .ok (.invokevirtual idx, 3)) (hroom : M_MW_message.2.2.2.1 + 1 ≤ M.2.2.2.1 ∧ 8 + (M_MW_message.2.2.1 + 11) + M_MW_message.2.2.2.2.1 ≤ M.2.2.2.2.1) (hrest : (st.map fun v => v.category).sum ≤ 8) (kk : WP D ad ca none M_MW_message 0 [(0, .ref (ad 0)), (1, vI a1), (2, vI a2), (3, vI a3)] [] h (RI K)) (hk : ∀ r h', InR r → K r h' → WP D ad ca sc M (pc + 3) lv (vI r :: st) h' Q) : WP D ad ca sc M pc lv (vI a3 :: vI a2 :: vI a1 :: .ref (ad 0) :: st) h Q :=
  P_invV (Mc := M_MW_message) (y := y_MW_message) (k := 0) (ci := 0) (fs := fs_MW ad (h 0)) (As := [vI a1, vI a2, vI a3]) (rest := st) (n := 3) (by decide) rfl rfl (good_V hw tw_475 tw_476 tw_30 tw_477) ⟨by decide +kernel, rfl⟩ (by decide +kernel) hroom rfl rfl hrest (Nat.le_of_ble_eq_true rfl) hd (WP.mono (fun v h' q => P_contI v h' hk q) kk)
theorem V_MW_told {idx : Nat} {a1 : Int} {K : Int → Hp → Prop} (hw : Cond.methodLink M.1 idx y_MW_told ∈ TB) (hd : decode M.2.1 pc = .ok (.invokevirtual idx, 3)) (hroom : M_MW_told.2.2.2.1 + 1 ≤ M.2.2.2.1 ∧ 8 + (M_MW_told.2.2.1 + 11) + M_MW_told.2.2.2.2.1 ≤ M.2.2.2.2.1) (hrest : (st.map fun v => v.category).sum ≤ 8) (kk : WP D ad ca none M_MW_told 0 [(0, .ref (ad 0)), (1, vI a1)] [] h (RI K)) (hk : ∀ r h', InR r → K r h' → WP D ad ca sc M (pc + 3) lv (vI r :: st) h' Q) : WP D ad ca sc M pc lv (vI a1 :: .ref (ad 0) :: st) h Q :=
  P_invV (Mc := M_MW_told) (y := y_MW_told) (k := 0) (ci := 0) (fs := fs_MW ad (h 0)) (As := [vI a1]) (rest := st) (n := 1) (by decide) rfl rfl (good_V hw tw_484 tw_485 tw_30 tw_486) ⟨by decide +kernel, rfl⟩ (by decide +kernel) hroom rfl rfl hrest (Nat.le_of_ble_eq_true rfl) hd (WP.mono (fun v h' q => P_contI v h' hk q) kk)
theorem V_MW_node {idx : Nat} {a1 a2 a3 : Int} {K : Int → Hp → Prop} (hw : Cond.methodLink M.1 idx y_MW_node ∈ TB) (hd : decode M.2.1 pc = .ok (.invokevirtual idx, 3)) (hroom : M_MW_node.2.2.2.1 + 1 ≤ M.2.2.2.1 ∧ 8 + (M_MW_node.2.2.1 + 11) + M_MW_node.2.2.2.2.1 ≤ M.2.2.2.2.1) (hrest : (st.map fun v => v.category).sum ≤ 8) (kk : WP D ad ca none M_MW_node 0 [(0, .ref (ad 0)), (1, vI a1), (2, vI a2), (3, vI a3)] [] h (RI K)) (hk : ∀ r h', InR r → K r h' → WP D ad ca sc M (pc + 3) lv (vI r :: st) h' Q) : WP D ad ca sc M pc lv (vI a3 :: vI a2 :: vI a1 :: .ref (ad 0) :: st) h Q :=
  P_invV (Mc := M_MW_node) (y := y_MW_node) (k := 0) (ci := 0) (fs := fs_MW ad (h 0)) (As := [vI a1, vI a2, vI a3]) (rest := st) (n := 3) (by decide) rfl rfl (good_V hw tw_488 tw_489 tw_30 tw_490) ⟨by decide +kernel, rfl⟩ (by decide +kernel) hroom rfl rfl hrest (Nat.le_of_ble_eq_true rfl) hd (WP.mono (fun v h' q => P_contI v h' hk q) kk)
theorem V_MW_share {idx : Nat} {a1 a2 a3 : Int} {K : Int → Hp → Prop} (hw : Cond.methodLink M.1 idx y_MW_share ∈ TB) (hd : decode M.2.1 pc = .ok (.invokevirtual idx, 3)) (hroom : M_MW_share.2.2.2.1 + 1 ≤ M.2.2.2.1 ∧ 8 + (M_MW_share.2.2.1 + 11) + M_MW_share.2.2.2.2.1 ≤ M.2.2.2.2.1) (hrest : (st.map fun v => v.category).sum ≤ 8) (kk : WP D ad ca none M_MW_share 0 [(0, .ref (ad 0)), (1, vI a1), (2, vI a2), (3, vI a3)] [] h (RI K)) (hk : ∀ r h', InR r → K r h' → WP D ad ca sc M (pc + 3) lv (vI r :: st) h' Q) : WP D ad ca sc M pc lv (vI a3 :: vI a2 :: vI a1 :: .ref (ad 0) :: st) h Q :=
  P_invV (Mc := M_MW_share) (y := y_MW_share) (k := 0) (ci := 0) (fs := fs_MW ad (h 0)) (As := [vI a1, vI a2, vI a3]) (rest := st) (n := 3) (by decide) rfl rfl (good_V hw tw_507 tw_508 tw_30 tw_509) ⟨by decide +kernel, rfl⟩ (by decide +kernel) hroom rfl rfl hrest (Nat.le_of_ble_eq_true rfl) hd (WP.mono (fun v h' q => P_contI v h' hk q) kk)
theorem V_MW_fear {idx : Nat} {a1 a2 : Int} {K : Int → Hp → Prop} (hw : Cond.methodLink M.1 idx y_MW_fear ∈ TB) (hd : decode M.2.1 pc = .ok (.invokevirtual idx, 3)) (hroom : M_MW_fear.2.2.2.1 + 1 ≤ M.2.2.2.1 ∧ 8 + (M_MW_fear.2.2.1 + 11) + M_MW_fear.2.2.2.2.1 ≤ M.2.2.2.2.1) (hrest : (st.map fun v => v.category).sum ≤ 8) (kk : WP D ad ca none M_MW_fear 0 [(0, .ref (ad 0)), (1, vI a1), (2, vI a2)] [] h (RI K)) (hk : ∀ r h', InR r → K r h' → WP D ad ca sc M (pc + 3) lv (vI r :: st) h' Q) : WP D ad ca sc M pc lv (vI a2 :: vI a1 :: .ref (ad 0) :: st) h Q :=
  P_invV (Mc := M_MW_fear) (y := y_MW_fear) (k := 0) (ci := 0) (fs := fs_MW ad (h 0)) (As := [vI a1, vI a2]) (rest := st) (n := 2) (by decide) rfl rfl (good_V hw tw_511 tw_512 tw_30 tw_513) ⟨by decide +kernel, rfl⟩ (by decide +kernel) hroom rfl rfl hrest (Nat.le_of_ble_eq_true rfl) hd (WP.mono (fun v h' q => P_contI v h' hk q) kk)
theorem V_MW_sound {idx : Nat} {K : Int → Hp → Prop} (hw : Cond.methodLink M.1 idx y_MW_sound ∈ TB) (hd : decode M.2.1 pc = .ok (.invokevirtual idx, 3)) (hroom : M_MW_sound.2.2.2.1 + 1 ≤ M.2.2.2.1 ∧ 8 + (M_MW_sound.2.2.1 + 11) + M_MW_sound.2.2.2.2.1 ≤ M.2.2.2.2.1) (hrest : (st.map fun v => v.category).sum ≤ 8) (kk : WP D ad ca none M_MW_sound 0 [(0, .ref (ad 0))] [] h (RI K)) (hk : ∀ r h', InR r → K r h' → WP D ad ca sc M (pc + 3) lv (vI r :: st) h' Q) : WP D ad ca sc M pc lv (.ref (ad 0) :: st) h Q :=
  P_invV (Mc := M_MW_sound) (y := y_MW_sound) (k := 0) (ci := 0) (fs := fs_MW ad (h 0)) (As := []) (rest := st) (n := 0) (by decide) rfl rfl (good_V hw tw_515 tw_516 tw_30 tw_517) ⟨by decide +kernel, rfl⟩ (by decide +kernel) hroom rfl rfl hrest (Nat.le_of_ble_eq_true rfl) hd (WP.mono (fun v h' q => P_contI v h' hk q) kk)
theorem V_MW_chance {idx : Nat} {a1 a2 : Int} {K : Int → Hp → Prop} (hw : Cond.methodLink M.1 idx y_MW_chance ∈ TB) (hd : decode M.2.1 pc = .ok (.invokevirtual idx, 3)) (hroom : M_MW_chance.2.2.2.1 + 1 ≤ M.2.2.2.1 ∧ 8 + (M_MW_chance.2.2.1 + 11) + M_MW_chance.2.2.2.2.1 ≤ M.2.2.2.2.1) (hrest : (st.map fun v => v.category).sum ≤ 8) (kk : WP D ad ca none M_MW_chance 0 [(0, .ref (ad 0)), (1, vI a1), (2, vI a2)] [] h (RI K)) (hk : ∀ r h', InR r → K r h' → WP D ad ca sc M (pc + 3) lv (vI r :: st) h' Q) : WP D ad ca sc M pc lv (vI a2 :: vI a1 :: .ref (ad 0) :: st) h Q :=
  P_invV (Mc := M_MW_chance) (y := y_MW_chance) (k := 0) (ci := 0) (fs := fs_MW ad (h 0)) (As := [vI a1, vI a2]) (rest := st) (n := 2) (by decide) rfl rfl (good_V hw tw_527 tw_528 tw_30 tw_529) ⟨by decide +kernel, rfl⟩ (by decide +kernel) hroom rfl rfl hrest (Nat.le_of_ble_eq_true rfl) hd (WP.mono (fun v h' q => P_contI v h' hk q) kk)
theorem V_MW_ofNode {idx : Nat} {a1 a2 : Int} {K : Int → Hp → Prop} (hw : Cond.methodLink M.1 idx y_MW_ofNode ∈ TB) (hd : decode M.2.1 pc = .ok (.invokevirtual idx, 3)) (hroom : M_MW_ofNode.2.2.2.1 + 1 ≤ M.2.2.2.1 ∧ 8 + (M_MW_ofNode.2.2.1 + 11) + M_MW_ofNode.2.2.2.2.1 ≤ M.2.2.2.2.1) (hrest : (st.map fun v => v.category).sum ≤ 8) (kk : WP D ad ca none M_MW_ofNode 0 [(0, .ref (ad 0)), (1, vI a1), (2, vI a2)] [] h (RI K)) (hk : ∀ r h', InR r → K r h' → WP D ad ca sc M (pc + 3) lv (vI r :: st) h' Q) : WP D ad ca sc M pc lv (vI a2 :: vI a1 :: .ref (ad 0) :: st) h Q :=
  P_invV (Mc := M_MW_ofNode) (y := y_MW_ofNode) (k := 0) (ci := 0) (fs := fs_MW ad (h 0)) (As := [vI a1, vI a2]) (rest := st) (n := 2) (by decide) rfl rfl (good_V hw tw_549 tw_550 tw_30 tw_551) ⟨by decide +kernel, rfl⟩ (by decide +kernel) hroom rfl rfl hrest (Nat.le_of_ble_eq_true rfl) hd (WP.mono (fun v h' q => P_contI v h' hk q) kk)
theorem V_MW_isWithin {idx : Nat} {a1 a2 a3 : Int} {K : Int → Hp → Prop} (hw : Cond.methodLink M.1 idx y_MW_isWithin ∈ TB) (hd : decode M.2.1 pc = .ok (.invokestatic idx, 3)) (hroom : M_MW_isWithin.2.2.2.1 + 1 ≤ M.2.2.2.1 ∧ 8 + (M_MW_isWithin.2.2.1 + 11) + M_MW_isWithin.2.2.2.2.1 ≤ M.2.2.2.2.1) (hrest : (st.map fun v => v.category).sum ≤ 8) (kk : WP D ad ca none M_MW_isWithin 0 [(0, vI a1), (1, vI a2), (2, vI a3)] [] h (RI K)) (hk : ∀ r h', InR r → K r h' → WP D ad ca sc M (pc + 3) lv (vI r :: st) h' Q) : WP D ad ca sc M pc lv (vI a3 :: vI a2 :: vI a1 :: st) h Q :=
  P_invS (Mc := M_MW_isWithin) (y := y_MW_isWithin) (As := [vI a1, vI a2, vI a3]) (rest := st) (n := 3) (good_S hw tw_282 tw_30 tw_283) ⟨by decide +kernel, rfl⟩ (by decide +kernel) hroom rfl rfl hrest (Nat.le_of_ble_eq_true rfl) hd (WP.mono (fun v h' q => P_contI v h' hk q) kk)
theorem V_MW_oneIf {idx : Nat} {a1 : Int} {K : Int → Hp → Prop} (hw : Cond.methodLink M.1 idx y_MW_oneIf ∈ TB) (hd : decode M.2.1 pc = .ok (.invokestatic idx, 3)) (hroom : M_MW_oneIf.2.2.2.1 + 1 ≤ M.2.2.2.1 ∧ 8 + (M_MW_oneIf.2.2.1 + 11) + M_MW_oneIf.2.2.2.2.1 ≤ M.2.2.2.2.1) (hrest : (st.map fun v => v.category).sum ≤ 8) (kk : WP D ad ca none M_MW_oneIf 0 [(0, vI a1)] [] h (RI K)) (hk : ∀ r h', InR r → K r h' → WP D ad ca sc M (pc + 3) lv (vI r :: st) h' Q) : WP D ad ca sc M pc lv (vI a1 :: st) h Q :=
  P_invS (Mc := M_MW_oneIf) (y := y_MW_oneIf) (As := [vI a1]) (rest := st) (n := 1) (good_S hw tw_291 tw_30 tw_292) ⟨by decide +kernel, rfl⟩ (by decide +kernel) hroom rfl rfl hrest (Nat.le_of_ble_eq_true rfl) hd (WP.mono (fun v h' q => P_contI v h' hk q) kk)
theorem V_MW_isLevel {idx : Nat} {a1 : Int} {K : Int → Hp → Prop} (hw : Cond.methodLink M.1 idx y_MW_isLevel ∈ TB) (hd : decode M.2.1 pc = .ok (.invokestatic idx, 3)) (hroom : M_MW_isLevel.2.2.2.1 + 1 ≤ M.2.2.2.1 ∧ 8 + (M_MW_isLevel.2.2.1 + 11) + M_MW_isLevel.2.2.2.2.1 ≤ M.2.2.2.2.1) (hrest : (st.map fun v => v.category).sum ≤ 8) (kk : WP D ad ca none M_MW_isLevel 0 [(0, vI a1)] [] h (RI K)) (hk : ∀ r h', InR r → K r h' → WP D ad ca sc M (pc + 3) lv (vI r :: st) h' Q) : WP D ad ca sc M pc lv (vI a1 :: st) h Q :=
  P_invS (Mc := M_MW_isLevel) (y := y_MW_isLevel) (As := [vI a1]) (rest := st) (n := 1) (good_S hw tw_468 tw_30 tw_469) ⟨by decide +kernel, rfl⟩ (by decide +kernel) hroom rfl rfl hrest (Nat.le_of_ble_eq_true rfl) hd (WP.mono (fun v h' q => P_contI v h' hk q) kk)
theorem V_MW_isLawLevel {idx : Nat} {a1 : Int} {K : Int → Hp → Prop} (hw : Cond.methodLink M.1 idx y_MW_isLawLevel ∈ TB) (hd : decode M.2.1 pc = .ok (.invokestatic idx, 3)) (hroom : M_MW_isLawLevel.2.2.2.1 + 1 ≤ M.2.2.2.1 ∧ 8 + (M_MW_isLawLevel.2.2.1 + 11) + M_MW_isLawLevel.2.2.2.2.1 ≤ M.2.2.2.2.1) (hrest : (st.map fun v => v.category).sum ≤ 8) (kk : WP D ad ca none M_MW_isLawLevel 0 [(0, vI a1)] [] h (RI K)) (hk : ∀ r h', InR r → K r h' → WP D ad ca sc M (pc + 3) lv (vI r :: st) h' Q) : WP D ad ca sc M pc lv (vI a1 :: st) h Q :=
  P_invS (Mc := M_MW_isLawLevel) (y := y_MW_isLawLevel) (As := [vI a1]) (rest := st) (n := 1) (good_S hw tw_347 tw_30 tw_348) ⟨by decide +kernel, rfl⟩ (by decide +kernel) hroom rfl rfl hrest (Nat.le_of_ble_eq_true rfl) hd (WP.mono (fun v h' q => P_contI v h' hk q) kk)
theorem V_MW_areBounds {idx : Nat} {a1 a2 : Int} {K : Int → Hp → Prop} (hw : Cond.methodLink M.1 idx y_MW_areBounds ∈ TB) (hd : decode M.2.1 pc = .ok (.invokestatic idx, 3)) (hroom : M_MW_areBounds.2.2.2.1 + 1 ≤ M.2.2.2.1 ∧ 8 + (M_MW_areBounds.2.2.1 + 11) + M_MW_areBounds.2.2.2.2.1 ≤ M.2.2.2.2.1) (hrest : (st.map fun v => v.category).sum ≤ 8) (kk : WP D ad ca none M_MW_areBounds 0 [(0, vI a1), (1, vI a2)] [] h (RI K)) (hk : ∀ r h', InR r → K r h' → WP D ad ca sc M (pc + 3) lv (vI r :: st) h' Q) : WP D ad ca sc M pc lv (vI a2 :: vI a1 :: st) h Q :=
  P_invS (Mc := M_MW_areBounds) (y := y_MW_areBounds) (As := [vI a1, vI a2]) (rest := st) (n := 2) (good_S hw tw_496 tw_30 tw_497) ⟨by decide +kernel, rfl⟩ (by decide +kernel) hroom rfl rfl hrest (Nat.le_of_ble_eq_true rfl) hd (WP.mono (fun v h' q => P_contI v h' hk q) kk)
theorem V_MW_isDay {idx : Nat} {a1 : Int} {K : Int → Hp → Prop} (hw : Cond.methodLink M.1 idx y_MW_isDay ∈ TB) (hd : decode M.2.1 pc = .ok (.invokevirtual idx, 3)) (hroom : M_MW_isDay.2.2.2.1 + 1 ≤ M.2.2.2.1 ∧ 8 + (M_MW_isDay.2.2.1 + 11) + M_MW_isDay.2.2.2.2.1 ≤ M.2.2.2.2.1) (hrest : (st.map fun v => v.category).sum ≤ 8) (kk : WP D ad ca none M_MW_isDay 0 [(0, .ref (ad 0)), (1, vI a1)] [] h (RI K)) (hk : ∀ r h', InR r → K r h' → WP D ad ca sc M (pc + 3) lv (vI r :: st) h' Q) : WP D ad ca sc M pc lv (vI a1 :: .ref (ad 0) :: st) h Q :=
  P_invV (Mc := M_MW_isDay) (y := y_MW_isDay) (k := 0) (ci := 0) (fs := fs_MW ad (h 0)) (As := [vI a1]) (rest := st) (n := 1) (by decide) rfl rfl (good_V hw tw_335 tw_0 tw_30 tw_336) ⟨by decide +kernel, rfl⟩ (by decide +kernel) hroom rfl rfl hrest (Nat.le_of_ble_eq_true rfl) hd (WP.mono (fun v h' q => P_contI v h' hk q) kk)
theorem V_MW_measured {idx : Nat} {a1 a2 : Int} {K : Int → Hp → Prop} (hw : Cond.methodLink M.1 idx y_MW_measured ∈ TB) (hd : decode M.2.1 pc = .ok (.invokevirtual idx, 3)) (hroom : M_MW_measured.2.2.2.1 + 1 ≤ M.2.2.2.1 ∧ 8 + (M_MW_measured.2.2.1 + 11) + M_MW_measured.2.2.2.2.1 ≤ M.2.2.2.2.1) (hrest : (st.map fun v => v.category).sum ≤ 8) (kk : WP D ad ca none M_MW_measured 0 [(0, .ref (ad 0)), (1, vI a1), (2, vI a2)] [] h (RI K)) (hk : ∀ r h', InR r → K r h' → WP D ad ca sc M (pc + 3) lv (vI r :: st) h' Q) : WP D ad ca sc M pc lv (vI a2 :: vI a1 :: .ref (ad 0) :: st) h Q :=
  P_invV (Mc := M_MW_measured) (y := y_MW_measured) (k := 0) (ci := 0) (fs := fs_MW ad (h 0)) (As := [vI a1, vI a2]) (rest := st) (n := 2) (by decide) rfl rfl (good_V hw tw_367 tw_1 tw_30 tw_368) ⟨by decide +kernel, rfl⟩ (by decide +kernel) hroom rfl rfl hrest (Nat.le_of_ble_eq_true rfl) hd (WP.mono (fun v h' q => P_contI v h' hk q) kk)
theorem V_MW_holdsTrue {idx : Nat} {a1 a2 : Int} {K : Int → Hp → Prop} (hw : Cond.methodLink M.1 idx y_MW_holdsTrue ∈ TB) (hd : decode M.2.1 pc = .ok (.invokevirtual idx, 3)) (hroom : M_MW_holdsTrue.2.2.2.1 + 1 ≤ M.2.2.2.1 ∧ 8 + (M_MW_holdsTrue.2.2.1 + 11) + M_MW_holdsTrue.2.2.2.2.1 ≤ M.2.2.2.2.1) (hrest : (st.map fun v => v.category).sum ≤ 8) (kk : WP D ad ca none M_MW_holdsTrue 0 [(0, .ref (ad 0)), (1, vI a1), (2, vI a2)] [] h (RI K)) (hk : ∀ r h', InR r → K r h' → WP D ad ca sc M (pc + 3) lv (vI r :: st) h' Q) : WP D ad ca sc M pc lv (vI a2 :: vI a1 :: .ref (ad 0) :: st) h Q :=
  P_invV (Mc := M_MW_holdsTrue) (y := y_MW_holdsTrue) (k := 0) (ci := 0) (fs := fs_MW ad (h 0)) (As := [vI a1, vI a2]) (rest := st) (n := 2) (by decide) rfl rfl (good_V hw tw_406 tw_2 tw_30 tw_407) ⟨by decide +kernel, rfl⟩ (by decide +kernel) hroom rfl rfl hrest (Nat.le_of_ble_eq_true rfl) hd (WP.mono (fun v h' q => P_contI v h' hk q) kk)
theorem V_MW_heldToday {idx : Nat} {K : Int → Hp → Prop} (hw : Cond.methodLink M.1 idx y_MW_heldToday ∈ TB) (hd : decode M.2.1 pc = .ok (.invokevirtual idx, 3)) (hroom : M_MW_heldToday.2.2.2.1 + 1 ≤ M.2.2.2.1 ∧ 8 + (M_MW_heldToday.2.2.1 + 11) + M_MW_heldToday.2.2.2.2.1 ≤ M.2.2.2.2.1) (hrest : (st.map fun v => v.category).sum ≤ 8) (kk : WP D ad ca none M_MW_heldToday 0 [(0, .ref (ad 0))] [] h (RI K)) (hk : ∀ r h', InR r → K r h' → WP D ad ca sc M (pc + 3) lv (vI r :: st) h' Q) : WP D ad ca sc M pc lv (.ref (ad 0) :: st) h Q :=
  P_invV (Mc := M_MW_heldToday) (y := y_MW_heldToday) (k := 0) (ci := 0) (fs := fs_MW ad (h 0)) (As := []) (rest := st) (n := 0) (by decide) rfl rfl (good_V hw tw_426 tw_5 tw_30 tw_427) ⟨by decide +kernel, rfl⟩ (by decide +kernel) hroom rfl rfl hrest (Nat.le_of_ble_eq_true rfl) hd (WP.mono (fun v h' q => P_contI v h' hk q) kk)
theorem V_MW_wantedToday {idx : Nat} {K : Int → Hp → Prop} (hw : Cond.methodLink M.1 idx y_MW_wantedToday ∈ TB) (hd : decode M.2.1 pc = .ok (.invokevirtual idx, 3)) (hroom : M_MW_wantedToday.2.2.2.1 + 1 ≤ M.2.2.2.1 ∧ 8 + (M_MW_wantedToday.2.2.1 + 11) + M_MW_wantedToday.2.2.2.2.1 ≤ M.2.2.2.2.1) (hrest : (st.map fun v => v.category).sum ≤ 8) (kk : WP D ad ca none M_MW_wantedToday 0 [(0, .ref (ad 0))] [] h (RI K)) (hk : ∀ r h', InR r → K r h' → WP D ad ca sc M (pc + 3) lv (vI r :: st) h' Q) : WP D ad ca sc M pc lv (.ref (ad 0) :: st) h Q :=
  P_invV (Mc := M_MW_wantedToday) (y := y_MW_wantedToday) (k := 0) (ci := 0) (fs := fs_MW ad (h 0)) (As := []) (rest := st) (n := 0) (by decide) rfl rfl (good_V hw tw_422 tw_4 tw_30 tw_423) ⟨by decide +kernel, rfl⟩ (by decide +kernel) hroom rfl rfl hrest (Nat.le_of_ble_eq_true rfl) hd (WP.mono (fun v h' q => P_contI v h' hk q) kk)
theorem V_MW_reasonToRaise {idx : Nat} {a1 : Int} {K : Int → Hp → Prop} (hw : Cond.methodLink M.1 idx y_MW_reasonToRaise ∈ TB) (hd : decode M.2.1 pc = .ok (.invokevirtual idx, 3)) (hroom : M_MW_reasonToRaise.2.2.2.1 + 1 ≤ M.2.2.2.1 ∧ 8 + (M_MW_reasonToRaise.2.2.1 + 11) + M_MW_reasonToRaise.2.2.2.2.1 ≤ M.2.2.2.2.1) (hrest : (st.map fun v => v.category).sum ≤ 8) (kk : WP D ad ca none M_MW_reasonToRaise 0 [(0, .ref (ad 0)), (1, vI a1)] [] h (RI K)) (hk : ∀ r h', InR r → K r h' → WP D ad ca sc M (pc + 3) lv (vI r :: st) h' Q) : WP D ad ca sc M pc lv (vI a1 :: .ref (ad 0) :: st) h Q :=
  P_invV (Mc := M_MW_reasonToRaise) (y := y_MW_reasonToRaise) (k := 0) (ci := 0) (fs := fs_MW ad (h 0)) (As := [vI a1]) (rest := st) (n := 1) (by decide) rfl rfl (good_V hw tw_430 tw_6 tw_30 tw_431) ⟨by decide +kernel, rfl⟩ (by decide +kernel) hroom rfl rfl hrest (Nat.le_of_ble_eq_true rfl) hd (WP.mono (fun v h' q => P_contI v h' hk q) kk)
theorem V_MW_endToday {idx : Nat} {K : Hp → Prop} (hw : Cond.methodLink M.1 idx y_MW_endToday ∈ TB) (hd : decode M.2.1 pc = .ok (.invokevirtual idx, 3)) (hroom : M_MW_endToday.2.2.2.1 + 1 ≤ M.2.2.2.1 ∧ 8 + (M_MW_endToday.2.2.1 + 11) + M_MW_endToday.2.2.2.2.1 ≤ M.2.2.2.2.1) (hrest : (st.map fun v => v.category).sum ≤ 8) (kk : WP D ad ca none M_MW_endToday 0 [(0, .ref (ad 0))] [] h (RV K)) (hk : ∀ h', K h' → WP D ad ca sc M (pc + 3) lv st h' Q) : WP D ad ca sc M pc lv (.ref (ad 0) :: st) h Q :=
  P_invV (Mc := M_MW_endToday) (y := y_MW_endToday) (k := 0) (ci := 0) (fs := fs_MW ad (h 0)) (As := []) (rest := st) (n := 0) (by decide) rfl rfl (good_V hw tw_418 tw_3 tw_30 tw_419) ⟨by decide +kernel, rfl⟩ (by decide +kernel) hroom rfl rfl hrest (Nat.le_of_ble_eq_true rfl) hd (WP.mono (fun v h' q => P_contV v h' hk q) kk)
theorem V_MW_setLevel {idx : Nat} {a1 a2 : Int} {K : Int → Hp → Prop} (hw : Cond.methodLink M.1 idx y_MW_setLevel ∈ TB) (hd : decode M.2.1 pc = .ok (.invokevirtual idx, 3)) (hroom : M_MW_setLevel.2.2.2.1 + 1 ≤ M.2.2.2.1 ∧ 8 + (M_MW_setLevel.2.2.1 + 11) + M_MW_setLevel.2.2.2.2.1 ≤ M.2.2.2.2.1) (hrest : (st.map fun v => v.category).sum ≤ 8) (kk : WP D ad ca none M_MW_setLevel 0 [(0, .ref (ad 0)), (1, vI a1), (2, vI a2)] [] h (RI K)) (hk : ∀ r h', InR r → K r h' → WP D ad ca sc M (pc + 3) lv (vI r :: st) h' Q) : WP D ad ca sc M pc lv (vI a2 :: vI a1 :: .ref (ad 0) :: st) h Q :=
  P_invV (Mc := M_MW_setLevel) (y := y_MW_setLevel) (k := 0) (ci := 0) (fs := fs_MW ad (h 0)) (As := [vI a1, vI a2]) (rest := st) (n := 2) (by decide) rfl rfl (good_V hw tw_434 tw_7 tw_30 tw_435) ⟨by decide +kernel, rfl⟩ (by decide +kernel) hroom rfl rfl hrest (Nat.le_of_ble_eq_true rfl) hd (WP.mono (fun v h' q => P_contI v h' hk q) kk)
theorem V_MO_in {idx : Nat} {a1 a2 a3 : Int} {K : Int → Hp → Prop} (hw : Cond.methodLink M.1 idx y_MO_in ∈ TB) (hd : decode M.2.1 pc = .ok (.invokestatic idx, 3)) (hroom : M_MO_in.2.2.2.1 + 1 ≤ M.2.2.2.1 ∧ 8 + (M_MO_in.2.2.1 + 11) + M_MO_in.2.2.2.2.1 ≤ M.2.2.2.2.1) (hrest : (st.map fun v => v.category).sum ≤ 8) (kk : WP D ad ca none M_MO_in 0 [(0, vI a1), (1, vI a2), (2, vI a3)] [] h (RI K)) (hk : ∀ r h', InR r → K r h' → WP D ad ca sc M (pc + 3) lv (vI r :: st) h' Q) : WP D ad ca sc M pc lv (vI a3 :: vI a2 :: vI a1 :: st) h Q :=
  P_invS (Mc := M_MO_in) (y := y_MO_in) (As := [vI a1, vI a2, vI a3]) (rest := st) (n := 3) (good_S hw tw_671 tw_36 tw_672) ⟨by decide +kernel, rfl⟩ (by decide +kernel) hroom rfl rfl hrest (Nat.le_of_ble_eq_true rfl) hd (WP.mono (fun v h' q => P_contI v h' hk q) kk)
theorem V_MO_isShake {idx : Nat} {a1 : Int} {K : Int → Hp → Prop} (hw : Cond.methodLink M.1 idx y_MO_isShake ∈ TB) (hd : decode M.2.1 pc = .ok (.invokevirtual idx, 3)) (hroom : M_MO_isShake.2.2.2.1 + 1 ≤ M.2.2.2.1 ∧ 8 + (M_MO_isShake.2.2.1 + 11) + M_MO_isShake.2.2.2.2.1 ≤ M.2.2.2.2.1) (hrest : (st.map fun v => v.category).sum ≤ 8) (kk : WP D ad ca none M_MO_isShake 0 [(0, .ref (ad 28)), (1, vI a1)] [] h (RI K)) (hk : ∀ r h', InR r → K r h' → WP D ad ca sc M (pc + 3) lv (vI r :: st) h' Q) : WP D ad ca sc M pc lv (vI a1 :: .ref (ad 28) :: st) h Q :=
  P_invV (Mc := M_MO_isShake) (y := y_MO_isShake) (k := 28) (ci := 6) (fs := fs_MO ad (h 28)) (As := [vI a1]) (rest := st) (n := 1) (by decide) rfl rfl (good_V hw tw_668 tw_8 tw_36 tw_669) ⟨by decide +kernel, rfl⟩ (by decide +kernel) hroom rfl rfl hrest (Nat.le_of_ble_eq_true rfl) hd (WP.mono (fun v h' q => P_contI v h' hk q) kk)
theorem V_MO_shake {idx : Nat} {a1 : Int} {K : Int → Hp → Prop} (hw : Cond.methodLink M.1 idx y_MO_shake ∈ TB) (hd : decode M.2.1 pc = .ok (.invokevirtual idx, 3)) (hroom : M_MO_shake.2.2.2.1 + 1 ≤ M.2.2.2.1 ∧ 8 + (M_MO_shake.2.2.1 + 11) + M_MO_shake.2.2.2.2.1 ≤ M.2.2.2.2.1) (hrest : (st.map fun v => v.category).sum ≤ 8) (kk : WP D ad ca none M_MO_shake 0 [(0, .ref (ad 28)), (1, vL a1)] [] h (RI K)) (hk : ∀ r h', InR r → K r h' → WP D ad ca sc M (pc + 3) lv (vI r :: st) h' Q) : WP D ad ca sc M pc lv (vL a1 :: .ref (ad 28) :: st) h Q :=
  P_invV (Mc := M_MO_shake) (y := y_MO_shake) (k := 28) (ci := 6) (fs := fs_MO ad (h 28)) (As := [vL a1]) (rest := st) (n := 1) (by decide) rfl rfl (good_V hw tw_657 tw_658 tw_36 tw_659) ⟨by decide +kernel, rfl⟩ (by decide +kernel) hroom rfl rfl hrest (Nat.le_of_ble_eq_true rfl) hd (WP.mono (fun v h' q => P_contI v h' hk q) kk)
theorem V_MO_kindOf {idx : Nat} {a1 : Int} {K : Int → Hp → Prop} (hw : Cond.methodLink M.1 idx y_MO_kindOf ∈ TB) (hd : decode M.2.1 pc = .ok (.invokevirtual idx, 3)) (hroom : M_MO_kindOf.2.2.2.1 + 1 ≤ M.2.2.2.1 ∧ 8 + (M_MO_kindOf.2.2.1 + 11) + M_MO_kindOf.2.2.2.2.1 ≤ M.2.2.2.2.1) (hrest : (st.map fun v => v.category).sum ≤ 8) (kk : WP D ad ca none M_MO_kindOf 0 [(0, .ref (ad 28)), (1, vI a1)] [] h (RI K)) (hk : ∀ r h', InR r → K r h' → WP D ad ca sc M (pc + 3) lv (vI r :: st) h' Q) : WP D ad ca sc M pc lv (vI a1 :: .ref (ad 28) :: st) h Q :=
  P_invV (Mc := M_MO_kindOf) (y := y_MO_kindOf) (k := 28) (ci := 6) (fs := fs_MO ad (h 28)) (As := [vI a1]) (rest := st) (n := 1) (by decide) rfl rfl (good_V hw tw_688 tw_12 tw_36 tw_689) ⟨by decide +kernel, rfl⟩ (by decide +kernel) hroom rfl rfl hrest (Nat.le_of_ble_eq_true rfl) hd (WP.mono (fun v h' q => P_contI v h' hk q) kk)
theorem V_MO_product {idx : Nat} {a1 a2 : Int} {K : Int → Hp → Prop} (hw : Cond.methodLink M.1 idx y_MO_product ∈ TB) (hd : decode M.2.1 pc = .ok (.invokevirtual idx, 3)) (hroom : M_MO_product.2.2.2.1 + 1 ≤ M.2.2.2.1 ∧ 8 + (M_MO_product.2.2.1 + 11) + M_MO_product.2.2.2.2.1 ≤ M.2.2.2.2.1) (hrest : (st.map fun v => v.category).sum ≤ 8) (kk : WP D ad ca none M_MO_product 0 [(0, .ref (ad 28)), (1, vI a1), (2, vI a2)] [] h (RL K)) (hk : ∀ r h', InL r → K r h' → WP D ad ca sc M (pc + 3) lv (vL r :: st) h' Q) : WP D ad ca sc M pc lv (vI a2 :: vI a1 :: .ref (ad 28) :: st) h Q :=
  P_invV (Mc := M_MO_product) (y := y_MO_product) (k := 28) (ci := 6) (fs := fs_MO ad (h 28)) (As := [vI a1, vI a2]) (rest := st) (n := 2) (by decide) rfl rfl (good_V hw tw_683 tw_11 tw_36 tw_684) ⟨by decide +kernel, rfl⟩ (by decide +kernel) hroom rfl rfl hrest (Nat.le_of_ble_eq_true rfl) hd (WP.mono (fun v h' q => P_contL v h' hk q) kk)
theorem V_MO_areAlike {idx : Nat} {a1 a2 : Int} {K : Int → Hp → Prop} (hw : Cond.methodLink M.1 idx y_MO_areAlike ∈ TB) (hd : decode M.2.1 pc = .ok (.invokevirtual idx, 3)) (hroom : M_MO_areAlike.2.2.2.1 + 1 ≤ M.2.2.2.1 ∧ 8 + (M_MO_areAlike.2.2.1 + 11) + M_MO_areAlike.2.2.2.2.1 ≤ M.2.2.2.2.1) (hrest : (st.map fun v => v.category).sum ≤ 8) (kk : WP D ad ca none M_MO_areAlike 0 [(0, .ref (ad 28)), (1, vI a1), (2, vI a2)] [] h (RI K)) (hk : ∀ r h', InR r → K r h' → WP D ad ca sc M (pc + 3) lv (vI r :: st) h' Q) : WP D ad ca sc M pc lv (vI a2 :: vI a1 :: .ref (ad 28) :: st) h Q :=
  P_invV (Mc := M_MO_areAlike) (y := y_MO_areAlike) (k := 28) (ci := 6) (fs := fs_MO ad (h 28)) (As := [vI a1, vI a2]) (rest := st) (n := 2) (by decide) rfl rfl (good_V hw tw_679 tw_10 tw_36 tw_680) ⟨by decide +kernel, rfl⟩ (by decide +kernel) hroom rfl rfl hrest (Nat.le_of_ble_eq_true rfl) hd (WP.mono (fun v h' q => P_contI v h' hk q) kk)
theorem V_MO_mark {idx : Nat} {K : Hp → Prop} (hw : Cond.methodLink M.1 idx y_MO_mark ∈ TB) (hd : decode M.2.1 pc = .ok (.invokevirtual idx, 3)) (hroom : M_MO_mark.2.2.2.1 + 1 ≤ M.2.2.2.1 ∧ 8 + (M_MO_mark.2.2.1 + 11) + M_MO_mark.2.2.2.2.1 ≤ M.2.2.2.2.1) (hrest : (st.map fun v => v.category).sum ≤ 8) (kk : WP D ad ca none M_MO_mark 0 [(0, .ref (ad 28))] [] h (RV K)) (hk : ∀ h', K h' → WP D ad ca sc M (pc + 3) lv st h' Q) : WP D ad ca sc M pc lv (.ref (ad 28) :: st) h Q :=
  P_invV (Mc := M_MO_mark) (y := y_MO_mark) (k := 28) (ci := 6) (fs := fs_MO ad (h 28)) (As := []) (rest := st) (n := 0) (by decide) rfl rfl (good_V hw tw_675 tw_9 tw_36 tw_676) ⟨by decide +kernel, rfl⟩ (by decide +kernel) hroom rfl rfl hrest (Nat.le_of_ble_eq_true rfl) hd (WP.mono (fun v h' q => P_contV v h' hk q) kk)
theorem V_MO_about {idx : Nat} {a1 a2 : Int} {K : Int → Hp → Prop} (hw : Cond.methodLink M.1 idx y_MO_about ∈ TB) (hd : decode M.2.1 pc = .ok (.invokevirtual idx, 3)) (hroom : M_MO_about.2.2.2.1 + 1 ≤ M.2.2.2.1 ∧ 8 + (M_MO_about.2.2.1 + 11) + M_MO_about.2.2.2.2.1 ≤ M.2.2.2.2.1) (hrest : (st.map fun v => v.category).sum ≤ 8) (kk : WP D ad ca none M_MO_about 0 [(0, .ref (ad 28)), (1, vI a1), (2, vI a2)] [] h (RI K)) (hk : ∀ r h', InR r → K r h' → WP D ad ca sc M (pc + 3) lv (vI r :: st) h' Q) : WP D ad ca sc M pc lv (vI a2 :: vI a1 :: .ref (ad 28) :: st) h Q :=
  P_invV (Mc := M_MO_about) (y := y_MO_about) (k := 28) (ci := 6) (fs := fs_MO ad (h 28)) (As := [vI a1, vI a2]) (rest := st) (n := 2) (by decide) rfl rfl (good_V hw tw_663 tw_664 tw_36 tw_665) ⟨by decide +kernel, rfl⟩ (by decide +kernel) hroom rfl rfl hrest (Nat.le_of_ble_eq_true rfl) hd (WP.mono (fun v h' q => P_contI v h' hk q) kk)
theorem V_MO_alike {idx : Nat} {a1 a2 : Int} {K : Int → Hp → Prop} (hw : Cond.methodLink M.1 idx y_MO_alike ∈ TB) (hd : decode M.2.1 pc = .ok (.invokevirtual idx, 3)) (hroom : M_MO_alike.2.2.2.1 + 1 ≤ M.2.2.2.1 ∧ 8 + (M_MO_alike.2.2.1 + 11) + M_MO_alike.2.2.2.2.1 ≤ M.2.2.2.2.1) (hrest : (st.map fun v => v.category).sum ≤ 8) (kk : WP D ad ca none M_MO_alike 0 [(0, .ref (ad 28)), (1, vI a1), (2, vI a2)] [] h (RI K)) (hk : ∀ r h', InR r → K r h' → WP D ad ca sc M (pc + 3) lv (vI r :: st) h' Q) : WP D ad ca sc M pc lv (vI a2 :: vI a1 :: .ref (ad 28) :: st) h Q :=
  P_invV (Mc := M_MO_alike) (y := y_MO_alike) (k := 28) (ci := 6) (fs := fs_MO ad (h 28)) (As := [vI a1, vI a2]) (rest := st) (n := 2) (by decide) rfl rfl (good_V hw tw_691 tw_692 tw_36 tw_693) ⟨by decide +kernel, rfl⟩ (by decide +kernel) hroom rfl rfl hrest (Nat.le_of_ble_eq_true rfl) hd (WP.mono (fun v h' q => P_contI v h' hk q) kk)
theorem V_MO_likeness {idx : Nat} {a1 : Int} {K : Int → Hp → Prop} (hw : Cond.methodLink M.1 idx y_MO_likeness ∈ TB) (hd : decode M.2.1 pc = .ok (.invokevirtual idx, 3)) (hroom : M_MO_likeness.2.2.2.1 + 1 ≤ M.2.2.2.1 ∧ 8 + (M_MO_likeness.2.2.1 + 11) + M_MO_likeness.2.2.2.2.1 ≤ M.2.2.2.2.1) (hrest : (st.map fun v => v.category).sum ≤ 8) (kk : WP D ad ca none M_MO_likeness 0 [(0, .ref (ad 28)), (1, vI a1)] [] h (RI K)) (hk : ∀ r h', InR r → K r h' → WP D ad ca sc M (pc + 3) lv (vI r :: st) h' Q) : WP D ad ca sc M pc lv (vI a1 :: .ref (ad 28) :: st) h Q :=
  P_invV (Mc := M_MO_likeness) (y := y_MO_likeness) (k := 28) (ci := 6) (fs := fs_MO ad (h 28)) (As := [vI a1]) (rest := st) (n := 1) (by decide) rfl rfl (good_V hw tw_695 tw_696 tw_36 tw_697) ⟨by decide +kernel, rfl⟩ (by decide +kernel) hroom rfl rfl hrest (Nat.le_of_ble_eq_true rfl) hd (WP.mono (fun v h' q => P_contI v h' hk q) kk)
theorem V_MO_family {idx : Nat} {a1 : Int} {K : Int → Hp → Prop} (hw : Cond.methodLink M.1 idx y_MO_family ∈ TB) (hd : decode M.2.1 pc = .ok (.invokevirtual idx, 3)) (hroom : M_MO_family.2.2.2.1 + 1 ≤ M.2.2.2.1 ∧ 8 + (M_MO_family.2.2.1 + 11) + M_MO_family.2.2.2.2.1 ≤ M.2.2.2.2.1) (hrest : (st.map fun v => v.category).sum ≤ 8) (kk : WP D ad ca none M_MO_family 0 [(0, .ref (ad 28)), (1, vI a1)] [] h (RI K)) (hk : ∀ r h', InR r → K r h' → WP D ad ca sc M (pc + 3) lv (vI r :: st) h' Q) : WP D ad ca sc M pc lv (vI a1 :: .ref (ad 28) :: st) h Q :=
  P_invV (Mc := M_MO_family) (y := y_MO_family) (k := 28) (ci := 6) (fs := fs_MO ad (h 28)) (As := [vI a1]) (rest := st) (n := 1) (by decide) rfl rfl (good_V hw tw_699 tw_700 tw_36 tw_701) ⟨by decide +kernel, rfl⟩ (by decide +kernel) hroom rfl rfl hrest (Nat.le_of_ble_eq_true rfl) hd (WP.mono (fun v h' q => P_contI v h' hk q) kk)
theorem V_MO_kin {idx : Nat} {a1 : Int} {K : Int → Hp → Prop} (hw : Cond.methodLink M.1 idx y_MO_kin ∈ TB) (hd : decode M.2.1 pc = .ok (.invokevirtual idx, 3)) (hroom : M_MO_kin.2.2.2.1 + 1 ≤ M.2.2.2.1 ∧ 8 + (M_MO_kin.2.2.1 + 11) + M_MO_kin.2.2.2.2.1 ≤ M.2.2.2.2.1) (hrest : (st.map fun v => v.category).sum ≤ 8) (kk : WP D ad ca none M_MO_kin 0 [(0, .ref (ad 28)), (1, vI a1)] [] h (RI K)) (hk : ∀ r h', InR r → K r h' → WP D ad ca sc M (pc + 3) lv (vI r :: st) h' Q) : WP D ad ca sc M pc lv (vI a1 :: .ref (ad 28) :: st) h Q :=
  P_invV (Mc := M_MO_kin) (y := y_MO_kin) (k := 28) (ci := 6) (fs := fs_MO ad (h 28)) (As := [vI a1]) (rest := st) (n := 1) (by decide) rfl rfl (good_V hw tw_703 tw_704 tw_36 tw_705) ⟨by decide +kernel, rfl⟩ (by decide +kernel) hroom rfl rfl hrest (Nat.le_of_ble_eq_true rfl) hd (WP.mono (fun v h' q => P_contI v h' hk q) kk)
theorem V_MO_tilt {idx : Nat} {a1 : Int} {K : Int → Hp → Prop} (hw : Cond.methodLink M.1 idx y_MO_tilt ∈ TB) (hd : decode M.2.1 pc = .ok (.invokevirtual idx, 3)) (hroom : M_MO_tilt.2.2.2.1 + 1 ≤ M.2.2.2.1 ∧ 8 + (M_MO_tilt.2.2.1 + 11) + M_MO_tilt.2.2.2.2.1 ≤ M.2.2.2.2.1) (hrest : (st.map fun v => v.category).sum ≤ 8) (kk : WP D ad ca none M_MO_tilt 0 [(0, .ref (ad 28)), (1, vI a1)] [] h (RI K)) (hk : ∀ r h', InR r → K r h' → WP D ad ca sc M (pc + 3) lv (vI r :: st) h' Q) : WP D ad ca sc M pc lv (vI a1 :: .ref (ad 28) :: st) h Q :=
  P_invV (Mc := M_MO_tilt) (y := y_MO_tilt) (k := 28) (ci := 6) (fs := fs_MO ad (h 28)) (As := [vI a1]) (rest := st) (n := 1) (by decide) rfl rfl (good_V hw tw_707 tw_708 tw_36 tw_709) ⟨by decide +kernel, rfl⟩ (by decide +kernel) hroom rfl rfl hrest (Nat.le_of_ble_eq_true rfl) hd (WP.mono (fun v h' q => P_contI v h' hk q) kk)
theorem V_MO_gas {idx : Nat} {a1 : Int} {K : Int → Hp → Prop} (hw : Cond.methodLink M.1 idx y_MO_gas ∈ TB) (hd : decode M.2.1 pc = .ok (.invokevirtual idx, 3)) (hroom : M_MO_gas.2.2.2.1 + 1 ≤ M.2.2.2.1 ∧ 8 + (M_MO_gas.2.2.1 + 11) + M_MO_gas.2.2.2.2.1 ≤ M.2.2.2.2.1) (hrest : (st.map fun v => v.category).sum ≤ 8) (kk : WP D ad ca none M_MO_gas 0 [(0, .ref (ad 28)), (1, vI a1)] [] h (RI K)) (hk : ∀ r h', InR r → K r h' → WP D ad ca sc M (pc + 3) lv (vI r :: st) h' Q) : WP D ad ca sc M pc lv (vI a1 :: .ref (ad 28) :: st) h Q :=
  P_invV (Mc := M_MO_gas) (y := y_MO_gas) (k := 28) (ci := 6) (fs := fs_MO ad (h 28)) (As := [vI a1]) (rest := st) (n := 1) (by decide) rfl rfl (good_V hw tw_711 tw_712 tw_36 tw_713) ⟨by decide +kernel, rfl⟩ (by decide +kernel) hroom rfl rfl hrest (Nat.le_of_ble_eq_true rfl) hd (WP.mono (fun v h' q => P_contI v h' hk q) kk)
theorem V_MO_isDay {idx : Nat} {a1 : Int} {K : Int → Hp → Prop} (hw : Cond.methodLink M.1 idx y_MO_isDay ∈ TB) (hd : decode M.2.1 pc = .ok (.invokevirtual idx, 3)) (hroom : M_MO_isDay.2.2.2.1 + 1 ≤ M.2.2.2.1 ∧ 8 + (M_MO_isDay.2.2.1 + 11) + M_MO_isDay.2.2.2.2.1 ≤ M.2.2.2.2.1) (hrest : (st.map fun v => v.category).sum ≤ 8) (kk : WP D ad ca none M_MO_isDay 0 [(0, .ref (ad 28)), (1, vI a1)] [] h (RI K)) (hk : ∀ r h', InR r → K r h' → WP D ad ca sc M (pc + 3) lv (vI r :: st) h' Q) : WP D ad ca sc M pc lv (vI a1 :: .ref (ad 28) :: st) h Q :=
  P_invV (Mc := M_MO_isDay) (y := y_MO_isDay) (k := 28) (ci := 6) (fs := fs_MO ad (h 28)) (As := [vI a1]) (rest := st) (n := 1) (by decide) rfl rfl (good_V hw tw_720 tw_13 tw_36 tw_721) ⟨by decide +kernel, rfl⟩ (by decide +kernel) hroom rfl rfl hrest (Nat.le_of_ble_eq_true rfl) hd (WP.mono (fun v h' q => P_contI v h' hk q) kk)
theorem V_MO_tiltDay {idx : Nat} {a1 : Int} {K : Int → Hp → Prop} (hw : Cond.methodLink M.1 idx y_MO_tiltDay ∈ TB) (hd : decode M.2.1 pc = .ok (.invokevirtual idx, 3)) (hroom : M_MO_tiltDay.2.2.2.1 + 1 ≤ M.2.2.2.1 ∧ 8 + (M_MO_tiltDay.2.2.1 + 11) + M_MO_tiltDay.2.2.2.2.1 ≤ M.2.2.2.2.1) (hrest : (st.map fun v => v.category).sum ≤ 8) (kk : WP D ad ca none M_MO_tiltDay 0 [(0, .ref (ad 28)), (1, vI a1)] [] h (RI K)) (hk : ∀ r h', InR r → K r h' → WP D ad ca sc M (pc + 3) lv (vI r :: st) h' Q) : WP D ad ca sc M pc lv (vI a1 :: .ref (ad 28) :: st) h Q :=
  P_invV (Mc := M_MO_tiltDay) (y := y_MO_tiltDay) (k := 28) (ci := 6) (fs := fs_MO ad (h 28)) (As := [vI a1]) (rest := st) (n := 1) (by decide) rfl rfl (good_V hw tw_725 tw_14 tw_36 tw_726) ⟨by decide +kernel, rfl⟩ (by decide +kernel) hroom rfl rfl hrest (Nat.le_of_ble_eq_true rfl) hd (WP.mono (fun v h' q => P_contI v h' hk q) kk)
theorem V_MO_tiltAt {idx : Nat} {a1 : Int} {K : Int → Hp → Prop} (hw : Cond.methodLink M.1 idx y_MO_tiltAt ∈ TB) (hd : decode M.2.1 pc = .ok (.invokevirtual idx, 3)) (hroom : M_MO_tiltAt.2.2.2.1 + 1 ≤ M.2.2.2.1 ∧ 8 + (M_MO_tiltAt.2.2.1 + 11) + M_MO_tiltAt.2.2.2.2.1 ≤ M.2.2.2.2.1) (hrest : (st.map fun v => v.category).sum ≤ 8) (kk : WP D ad ca none M_MO_tiltAt 0 [(0, .ref (ad 28)), (1, vI a1)] [] h (RI K)) (hk : ∀ r h', InR r → K r h' → WP D ad ca sc M (pc + 3) lv (vI r :: st) h' Q) : WP D ad ca sc M pc lv (vI a1 :: .ref (ad 28) :: st) h Q :=
  P_invV (Mc := M_MO_tiltAt) (y := y_MO_tiltAt) (k := 28) (ci := 6) (fs := fs_MO ad (h 28)) (As := [vI a1]) (rest := st) (n := 1) (by decide) rfl rfl (good_V hw tw_715 tw_716 tw_36 tw_717) ⟨by decide +kernel, rfl⟩ (by decide +kernel) hroom rfl rfl hrest (Nat.le_of_ble_eq_true rfl) hd (WP.mono (fun v h' q => P_contI v h' hk q) kk)
theorem V_MO_gasOf {idx : Nat} {a1 : Int} {K : Int → Hp → Prop} (hw : Cond.methodLink M.1 idx y_MO_gasOf ∈ TB) (hd : decode M.2.1 pc = .ok (.invokevirtual idx, 3)) (hroom : M_MO_gasOf.2.2.2.1 + 1 ≤ M.2.2.2.1 ∧ 8 + (M_MO_gasOf.2.2.1 + 11) + M_MO_gasOf.2.2.2.2.1 ≤ M.2.2.2.2.1) (hrest : (st.map fun v => v.category).sum ≤ 8) (kk : WP D ad ca none M_MO_gasOf 0 [(0, .ref (ad 28)), (1, vI a1)] [] h (RI K)) (hk : ∀ r h', InR r → K r h' → WP D ad ca sc M (pc + 3) lv (vI r :: st) h' Q) : WP D ad ca sc M pc lv (vI a1 :: .ref (ad 28) :: st) h Q :=
  P_invV (Mc := M_MO_gasOf) (y := y_MO_gasOf) (k := 28) (ci := 6) (fs := fs_MO ad (h 28)) (As := [vI a1]) (rest := st) (n := 1) (by decide) rfl rfl (good_V hw tw_729 tw_730 tw_36 tw_731) ⟨by decide +kernel, rfl⟩ (by decide +kernel) hroom rfl rfl hrest (Nat.le_of_ble_eq_true rfl) hd (WP.mono (fun v h' q => P_contI v h' hk q) kk)
theorem V_MO_law {idx : Nat} {a1 a2 a3 a4 : Int} {K : Int → Hp → Prop} (hw : Cond.methodLink M.1 idx y_MO_law ∈ TB) (hd : decode M.2.1 pc = .ok (.invokevirtual idx, 3)) (hroom : M_MO_law.2.2.2.1 + 1 ≤ M.2.2.2.1 ∧ 8 + (M_MO_law.2.2.1 + 11) + M_MO_law.2.2.2.2.1 ≤ M.2.2.2.2.1) (hrest : (st.map fun v => v.category).sum ≤ 8) (kk : WP D ad ca none M_MO_law 0 [(0, .ref (ad 28)), (1, vI a1), (2, vI a2), (3, vI a3), (4, vI a4)] [] h (RI K)) (hk : ∀ r h', InR r → K r h' → WP D ad ca sc M (pc + 3) lv (vI r :: st) h' Q) : WP D ad ca sc M pc lv (vI a4 :: vI a3 :: vI a2 :: vI a1 :: .ref (ad 28) :: st) h Q :=
  P_invV (Mc := M_MO_law) (y := y_MO_law) (k := 28) (ci := 6) (fs := fs_MO ad (h 28)) (As := [vI a1, vI a2, vI a3, vI a4]) (rest := st) (n := 4) (by decide) rfl rfl (good_V hw tw_733 tw_734 tw_36 tw_735) ⟨by decide +kernel, rfl⟩ (by decide +kernel) hroom rfl rfl hrest (Nat.le_of_ble_eq_true rfl) hd (WP.mono (fun v h' q => P_contI v h' hk q) kk)
theorem V_MO_isLaw {idx : Nat} {a1 : Int} {K : Int → Hp → Prop} (hw : Cond.methodLink M.1 idx y_MO_isLaw ∈ TB) (hd : decode M.2.1 pc = .ok (.invokevirtual idx, 3)) (hroom : M_MO_isLaw.2.2.2.1 + 1 ≤ M.2.2.2.1 ∧ 8 + (M_MO_isLaw.2.2.1 + 11) + M_MO_isLaw.2.2.2.2.1 ≤ M.2.2.2.2.1) (hrest : (st.map fun v => v.category).sum ≤ 8) (kk : WP D ad ca none M_MO_isLaw 0 [(0, .ref (ad 28)), (1, vI a1)] [] h (RI K)) (hk : ∀ r h', InR r → K r h' → WP D ad ca sc M (pc + 3) lv (vI r :: st) h' Q) : WP D ad ca sc M pc lv (vI a1 :: .ref (ad 28) :: st) h Q :=
  P_invV (Mc := M_MO_isLaw) (y := y_MO_isLaw) (k := 28) (ci := 6) (fs := fs_MO ad (h 28)) (As := [vI a1]) (rest := st) (n := 1) (by decide) rfl rfl (good_V hw tw_742 tw_15 tw_36 tw_743) ⟨by decide +kernel, rfl⟩ (by decide +kernel) hroom rfl rfl hrest (Nat.le_of_ble_eq_true rfl) hd (WP.mono (fun v h' q => P_contI v h' hk q) kk)
theorem V_MO_change {idx : Nat} {a1 a2 a3 : Int} {K : Int → Hp → Prop} (hw : Cond.methodLink M.1 idx y_MO_change ∈ TB) (hd : decode M.2.1 pc = .ok (.invokevirtual idx, 3)) (hroom : M_MO_change.2.2.2.1 + 1 ≤ M.2.2.2.1 ∧ 8 + (M_MO_change.2.2.1 + 11) + M_MO_change.2.2.2.2.1 ≤ M.2.2.2.2.1) (hrest : (st.map fun v => v.category).sum ≤ 8) (kk : WP D ad ca none M_MO_change 0 [(0, .ref (ad 28)), (1, vI a1), (2, vI a2), (3, vI a3)] [] h (RI K)) (hk : ∀ r h', InR r → K r h' → WP D ad ca sc M (pc + 3) lv (vI r :: st) h' Q) : WP D ad ca sc M pc lv (vI a3 :: vI a2 :: vI a1 :: .ref (ad 28) :: st) h Q :=
  P_invV (Mc := M_MO_change) (y := y_MO_change) (k := 28) (ci := 6) (fs := fs_MO ad (h 28)) (As := [vI a1, vI a2, vI a3]) (rest := st) (n := 3) (by decide) rfl rfl (good_V hw tw_737 tw_738 tw_36 tw_739) ⟨by decide +kernel, rfl⟩ (by decide +kernel) hroom rfl rfl hrest (Nat.le_of_ble_eq_true rfl) hd (WP.mono (fun v h' q => P_contI v h' hk q) kk)
theorem V_MO_within {idx : Nat} {a1 a2 a3 : Int} {K : Int → Hp → Prop} (hw : Cond.methodLink M.1 idx y_MO_within ∈ TB) (hd : decode M.2.1 pc = .ok (.invokevirtual idx, 3)) (hroom : M_MO_within.2.2.2.1 + 1 ≤ M.2.2.2.1 ∧ 8 + (M_MO_within.2.2.1 + 11) + M_MO_within.2.2.2.2.1 ≤ M.2.2.2.2.1) (hrest : (st.map fun v => v.category).sum ≤ 8) (kk : WP D ad ca none M_MO_within 0 [(0, .ref (ad 28)), (1, vI a1), (2, vI a2), (3, vI a3)] [] h (RI K)) (hk : ∀ r h', InR r → K r h' → WP D ad ca sc M (pc + 3) lv (vI r :: st) h' Q) : WP D ad ca sc M pc lv (vI a3 :: vI a2 :: vI a1 :: .ref (ad 28) :: st) h Q :=
  P_invV (Mc := M_MO_within) (y := y_MO_within) (k := 28) (ci := 6) (fs := fs_MO ad (h 28)) (As := [vI a1, vI a2, vI a3]) (rest := st) (n := 3) (by decide) rfl rfl (good_V hw tw_754 tw_17 tw_36 tw_755) ⟨by decide +kernel, rfl⟩ (by decide +kernel) hroom rfl rfl hrest (Nat.le_of_ble_eq_true rfl) hd (WP.mono (fun v h' q => P_contI v h' hk q) kk)
theorem V_MO_measureOf {idx : Nat} {a1 a2 : Int} {K : Int → Hp → Prop} (hw : Cond.methodLink M.1 idx y_MO_measureOf ∈ TB) (hd : decode M.2.1 pc = .ok (.invokevirtual idx, 3)) (hroom : M_MO_measureOf.2.2.2.1 + 1 ≤ M.2.2.2.1 ∧ 8 + (M_MO_measureOf.2.2.1 + 11) + M_MO_measureOf.2.2.2.2.1 ≤ M.2.2.2.2.1) (hrest : (st.map fun v => v.category).sum ≤ 8) (kk : WP D ad ca none M_MO_measureOf 0 [(0, .ref (ad 28)), (1, vI a1), (2, vI a2)] [] h (RI K)) (hk : ∀ r h', InR r → K r h' → WP D ad ca sc M (pc + 3) lv (vI r :: st) h' Q) : WP D ad ca sc M pc lv (vI a2 :: vI a1 :: .ref (ad 28) :: st) h Q :=
  P_invV (Mc := M_MO_measureOf) (y := y_MO_measureOf) (k := 28) (ci := 6) (fs := fs_MO ad (h 28)) (As := [vI a1, vI a2]) (rest := st) (n := 2) (by decide) rfl rfl (good_V hw tw_750 tw_16 tw_36 tw_751) ⟨by decide +kernel, rfl⟩ (by decide +kernel) hroom rfl rfl hrest (Nat.le_of_ble_eq_true rfl) hd (WP.mono (fun v h' q => P_contI v h' hk q) kk)
theorem V_MO_holdsOn {idx : Nat} {a1 a2 : Int} {K : Int → Hp → Prop} (hw : Cond.methodLink M.1 idx y_MO_holdsOn ∈ TB) (hd : decode M.2.1 pc = .ok (.invokevirtual idx, 3)) (hroom : M_MO_holdsOn.2.2.2.1 + 1 ≤ M.2.2.2.1 ∧ 8 + (M_MO_holdsOn.2.2.1 + 11) + M_MO_holdsOn.2.2.2.2.1 ≤ M.2.2.2.2.1) (hrest : (st.map fun v => v.category).sum ≤ 8) (kk : WP D ad ca none M_MO_holdsOn 0 [(0, .ref (ad 28)), (1, vI a1), (2, vI a2)] [] h (RI K)) (hk : ∀ r h', InR r → K r h' → WP D ad ca sc M (pc + 3) lv (vI r :: st) h' Q) : WP D ad ca sc M pc lv (vI a2 :: vI a1 :: .ref (ad 28) :: st) h Q :=
  P_invV (Mc := M_MO_holdsOn) (y := y_MO_holdsOn) (k := 28) (ci := 6) (fs := fs_MO ad (h 28)) (As := [vI a1, vI a2]) (rest := st) (n := 2) (by decide) rfl rfl (good_V hw tw_762 tw_18 tw_36 tw_763) ⟨by decide +kernel, rfl⟩ (by decide +kernel) hroom rfl rfl hrest (Nat.le_of_ble_eq_true rfl) hd (WP.mono (fun v h' q => P_contI v h' hk q) kk)
theorem V_MO_measure {idx : Nat} {a1 a2 : Int} {K : Int → Hp → Prop} (hw : Cond.methodLink M.1 idx y_MO_measure ∈ TB) (hd : decode M.2.1 pc = .ok (.invokevirtual idx, 3)) (hroom : M_MO_measure.2.2.2.1 + 1 ≤ M.2.2.2.1 ∧ 8 + (M_MO_measure.2.2.1 + 11) + M_MO_measure.2.2.2.2.1 ≤ M.2.2.2.2.1) (hrest : (st.map fun v => v.category).sum ≤ 8) (kk : WP D ad ca none M_MO_measure 0 [(0, .ref (ad 28)), (1, vI a1), (2, vI a2)] [] h (RI K)) (hk : ∀ r h', InR r → K r h' → WP D ad ca sc M (pc + 3) lv (vI r :: st) h' Q) : WP D ad ca sc M pc lv (vI a2 :: vI a1 :: .ref (ad 28) :: st) h Q :=
  P_invV (Mc := M_MO_measure) (y := y_MO_measure) (k := 28) (ci := 6) (fs := fs_MO ad (h 28)) (As := [vI a1, vI a2]) (rest := st) (n := 2) (by decide) rfl rfl (good_V hw tw_745 tw_746 tw_36 tw_747) ⟨by decide +kernel, rfl⟩ (by decide +kernel) hroom rfl rfl hrest (Nat.le_of_ble_eq_true rfl) hd (WP.mono (fun v h' q => P_contI v h' hk q) kk)
theorem V_MO_isTrue {idx : Nat} {a1 a2 : Int} {K : Int → Hp → Prop} (hw : Cond.methodLink M.1 idx y_MO_isTrue ∈ TB) (hd : decode M.2.1 pc = .ok (.invokevirtual idx, 3)) (hroom : M_MO_isTrue.2.2.2.1 + 1 ≤ M.2.2.2.1 ∧ 8 + (M_MO_isTrue.2.2.1 + 11) + M_MO_isTrue.2.2.2.2.1 ≤ M.2.2.2.2.1) (hrest : (st.map fun v => v.category).sum ≤ 8) (kk : WP D ad ca none M_MO_isTrue 0 [(0, .ref (ad 28)), (1, vI a1), (2, vI a2)] [] h (RI K)) (hk : ∀ r h', InR r → K r h' → WP D ad ca sc M (pc + 3) lv (vI r :: st) h' Q) : WP D ad ca sc M pc lv (vI a2 :: vI a1 :: .ref (ad 28) :: st) h Q :=
  P_invV (Mc := M_MO_isTrue) (y := y_MO_isTrue) (k := 28) (ci := 6) (fs := fs_MO ad (h 28)) (As := [vI a1, vI a2]) (rest := st) (n := 2) (by decide) rfl rfl (good_V hw tw_757 tw_758 tw_36 tw_759) ⟨by decide +kernel, rfl⟩ (by decide +kernel) hroom rfl rfl hrest (Nat.le_of_ble_eq_true rfl) hd (WP.mono (fun v h' q => P_contI v h' hk q) kk)
theorem V_MO_rest {idx : Nat} {a1 : Int} {K : Int → Hp → Prop} (hw : Cond.methodLink M.1 idx y_MO_rest ∈ TB) (hd : decode M.2.1 pc = .ok (.invokevirtual idx, 3)) (hroom : M_MO_rest.2.2.2.1 + 1 ≤ M.2.2.2.1 ∧ 8 + (M_MO_rest.2.2.1 + 11) + M_MO_rest.2.2.2.2.1 ≤ M.2.2.2.2.1) (hrest : (st.map fun v => v.category).sum ≤ 8) (kk : WP D ad ca none M_MO_rest 0 [(0, .ref (ad 28)), (1, vI a1)] [] h (RI K)) (hk : ∀ r h', InR r → K r h' → WP D ad ca sc M (pc + 3) lv (vI r :: st) h' Q) : WP D ad ca sc M pc lv (vI a1 :: .ref (ad 28) :: st) h Q :=
  P_invV (Mc := M_MO_rest) (y := y_MO_rest) (k := 28) (ci := 6) (fs := fs_MO ad (h 28)) (As := [vI a1]) (rest := st) (n := 1) (by decide) rfl rfl (good_V hw tw_765 tw_766 tw_36 tw_767) ⟨by decide +kernel, rfl⟩ (by decide +kernel) hroom rfl rfl hrest (Nat.le_of_ble_eq_true rfl) hd (WP.mono (fun v h' q => P_contI v h' hk q) kk)
theorem V_MO_holdNow {idx : Nat} {K : Int → Hp → Prop} (hw : Cond.methodLink M.1 idx y_MO_holdNow ∈ TB) (hd : decode M.2.1 pc = .ok (.invokevirtual idx, 3)) (hroom : M_MO_holdNow.2.2.2.1 + 1 ≤ M.2.2.2.1 ∧ 8 + (M_MO_holdNow.2.2.1 + 11) + M_MO_holdNow.2.2.2.2.1 ≤ M.2.2.2.2.1) (hrest : (st.map fun v => v.category).sum ≤ 8) (kk : WP D ad ca none M_MO_holdNow 0 [(0, .ref (ad 28))] [] h (RI K)) (hk : ∀ r h', InR r → K r h' → WP D ad ca sc M (pc + 3) lv (vI r :: st) h' Q) : WP D ad ca sc M pc lv (.ref (ad 28) :: st) h Q :=
  P_invV (Mc := M_MO_holdNow) (y := y_MO_holdNow) (k := 28) (ci := 6) (fs := fs_MO ad (h 28)) (As := []) (rest := st) (n := 0) (by decide) rfl rfl (good_V hw tw_778 tw_20 tw_36 tw_779) ⟨by decide +kernel, rfl⟩ (by decide +kernel) hroom rfl rfl hrest (Nat.le_of_ble_eq_true rfl) hd (WP.mono (fun v h' q => P_contI v h' hk q) kk)
theorem V_MO_wanted {idx : Nat} {K : Int → Hp → Prop} (hw : Cond.methodLink M.1 idx y_MO_wanted ∈ TB) (hd : decode M.2.1 pc = .ok (.invokevirtual idx, 3)) (hroom : M_MO_wanted.2.2.2.1 + 1 ≤ M.2.2.2.1 ∧ 8 + (M_MO_wanted.2.2.1 + 11) + M_MO_wanted.2.2.2.2.1 ≤ M.2.2.2.2.1) (hrest : (st.map fun v => v.category).sum ≤ 8) (kk : WP D ad ca none M_MO_wanted 0 [(0, .ref (ad 28))] [] h (RI K)) (hk : ∀ r h', InR r → K r h' → WP D ad ca sc M (pc + 3) lv (vI r :: st) h' Q) : WP D ad ca sc M pc lv (.ref (ad 28) :: st) h Q :=
  P_invV (Mc := M_MO_wanted) (y := y_MO_wanted) (k := 28) (ci := 6) (fs := fs_MO ad (h 28)) (As := []) (rest := st) (n := 0) (by decide) rfl rfl (good_V hw tw_774 tw_19 tw_36 tw_775) ⟨by decide +kernel, rfl⟩ (by decide +kernel) hroom rfl rfl hrest (Nat.le_of_ble_eq_true rfl) hd (WP.mono (fun v h' q => P_contI v h' hk q) kk)
theorem V_MO_tells {idx : Nat} {a1 a2 a3 a4 : Int} {K : Hp → Prop} (hw : Cond.methodLink M.1 idx y_MO_tells ∈ TB) (hd : decode M.2.1 pc = .ok (.invokevirtual idx, 3)) (hroom : M_MO_tells.2.2.2.1 + 1 ≤ M.2.2.2.1 ∧ 8 + (M_MO_tells.2.2.1 + 11) + M_MO_tells.2.2.2.2.1 ≤ M.2.2.2.2.1) (hrest : (st.map fun v => v.category).sum ≤ 8) (kk : WP D ad ca none M_MO_tells 0 [(0, .ref (ad 28)), (1, vI a1), (2, vI a2), (3, vI a3), (4, vI a4)] [] h (RV K)) (hk : ∀ h', K h' → WP D ad ca sc M (pc + 3) lv st h' Q) : WP D ad ca sc M pc lv (vI a4 :: vI a3 :: vI a2 :: vI a1 :: .ref (ad 28) :: st) h Q :=
  P_invV (Mc := M_MO_tells) (y := y_MO_tells) (k := 28) (ci := 6) (fs := fs_MO ad (h 28)) (As := [vI a1, vI a2, vI a3, vI a4]) (rest := st) (n := 4) (by decide) rfl rfl (good_V hw tw_786 tw_22 tw_36 tw_787) ⟨by decide +kernel, rfl⟩ (by decide +kernel) hroom rfl rfl hrest (Nat.le_of_ble_eq_true rfl) hd (WP.mono (fun v h' q => P_contV v h' hk q) kk)
theorem V_MO_turns {idx : Nat} {a1 a2 : Int} {K : Int → Hp → Prop} (hw : Cond.methodLink M.1 idx y_MO_turns ∈ TB) (hd : decode M.2.1 pc = .ok (.invokevirtual idx, 3)) (hroom : M_MO_turns.2.2.2.1 + 1 ≤ M.2.2.2.1 ∧ 8 + (M_MO_turns.2.2.1 + 11) + M_MO_turns.2.2.2.2.1 ≤ M.2.2.2.2.1) (hrest : (st.map fun v => v.category).sum ≤ 8) (kk : WP D ad ca none M_MO_turns 0 [(0, .ref (ad 28)), (1, vI a1), (2, vI a2)] [] h (RI K)) (hk : ∀ r h', InR r → K r h' → WP D ad ca sc M (pc + 3) lv (vI r :: st) h' Q) : WP D ad ca sc M pc lv (vI a2 :: vI a1 :: .ref (ad 28) :: st) h Q :=
  P_invV (Mc := M_MO_turns) (y := y_MO_turns) (k := 28) (ci := 6) (fs := fs_MO ad (h 28)) (As := [vI a1, vI a2]) (rest := st) (n := 2) (by decide) rfl rfl (good_V hw tw_782 tw_21 tw_36 tw_783) ⟨by decide +kernel, rfl⟩ (by decide +kernel) hroom rfl rfl hrest (Nat.le_of_ble_eq_true rfl) hd (WP.mono (fun v h' q => P_contI v h' hk q) kk)
theorem V_MO_next {idx : Nat} {K : Int → Hp → Prop} (hw : Cond.methodLink M.1 idx y_MO_next ∈ TB) (hd : decode M.2.1 pc = .ok (.invokevirtual idx, 3)) (hroom : M_MO_next.2.2.2.1 + 1 ≤ M.2.2.2.1 ∧ 8 + (M_MO_next.2.2.1 + 11) + M_MO_next.2.2.2.2.1 ≤ M.2.2.2.2.1) (hrest : (st.map fun v => v.category).sum ≤ 8) (kk : WP D ad ca none M_MO_next 0 [(0, .ref (ad 28))] [] h (RI K)) (hk : ∀ r h', InR r → K r h' → WP D ad ca sc M (pc + 3) lv (vI r :: st) h' Q) : WP D ad ca sc M pc lv (.ref (ad 28) :: st) h Q :=
  P_invV (Mc := M_MO_next) (y := y_MO_next) (k := 28) (ci := 6) (fs := fs_MO ad (h 28)) (As := []) (rest := st) (n := 0) (by decide) rfl rfl (good_V hw tw_769 tw_770 tw_36 tw_771) ⟨by decide +kernel, rfl⟩ (by decide +kernel) hroom rfl rfl hrest (Nat.le_of_ble_eq_true rfl) hd (WP.mono (fun v h' q => P_contI v h' hk q) kk)
theorem V_MO_hold {idx : Nat} {a1 a2 : Int} {K : Int → Hp → Prop} (hw : Cond.methodLink M.1 idx y_MO_hold ∈ TB) (hd : decode M.2.1 pc = .ok (.invokevirtual idx, 3)) (hroom : M_MO_hold.2.2.2.1 + 1 ≤ M.2.2.2.1 ∧ 8 + (M_MO_hold.2.2.1 + 11) + M_MO_hold.2.2.2.2.1 ≤ M.2.2.2.2.1) (hrest : (st.map fun v => v.category).sum ≤ 8) (kk : WP D ad ca none M_MO_hold 0 [(0, .ref (ad 28)), (1, vI a1), (2, vI a2)] [] h (RI K)) (hk : ∀ r h', InR r → K r h' → WP D ad ca sc M (pc + 3) lv (vI r :: st) h' Q) : WP D ad ca sc M pc lv (vI a2 :: vI a1 :: .ref (ad 28) :: st) h Q :=
  P_invV (Mc := M_MO_hold) (y := y_MO_hold) (k := 28) (ci := 6) (fs := fs_MO ad (h 28)) (As := [vI a1, vI a2]) (rest := st) (n := 2) (by decide) rfl rfl (good_V hw tw_789 tw_790 tw_36 tw_791) ⟨by decide +kernel, rfl⟩ (by decide +kernel) hroom rfl rfl hrest (Nat.le_of_ble_eq_true rfl) hd (WP.mono (fun v h' q => P_contI v h' hk q) kk)
theorem V_MO_release {idx : Nat} {K : Int → Hp → Prop} (hw : Cond.methodLink M.1 idx y_MO_release ∈ TB) (hd : decode M.2.1 pc = .ok (.invokevirtual idx, 3)) (hroom : M_MO_release.2.2.2.1 + 1 ≤ M.2.2.2.1 ∧ 8 + (M_MO_release.2.2.1 + 11) + M_MO_release.2.2.2.2.1 ≤ M.2.2.2.2.1) (hrest : (st.map fun v => v.category).sum ≤ 8) (kk : WP D ad ca none M_MO_release 0 [(0, .ref (ad 28))] [] h (RI K)) (hk : ∀ r h', InR r → K r h' → WP D ad ca sc M (pc + 3) lv (vI r :: st) h' Q) : WP D ad ca sc M pc lv (.ref (ad 28) :: st) h Q :=
  P_invV (Mc := M_MO_release) (y := y_MO_release) (k := 28) (ci := 6) (fs := fs_MO ad (h 28)) (As := []) (rest := st) (n := 0) (by decide) rfl rfl (good_V hw tw_793 tw_794 tw_36 tw_795) ⟨by decide +kernel, rfl⟩ (by decide +kernel) hroom rfl rfl hrest (Nat.le_of_ble_eq_true rfl) hd (WP.mono (fun v h' q => P_contI v h' hk q) kk)
theorem V_MO_word {idx : Nat} {a1 : Int} {K : Int → Hp → Prop} (hw : Cond.methodLink M.1 idx y_MO_word ∈ TB) (hd : decode M.2.1 pc = .ok (.invokevirtual idx, 3)) (hroom : M_MO_word.2.2.2.1 + 1 ≤ M.2.2.2.1 ∧ 8 + (M_MO_word.2.2.1 + 11) + M_MO_word.2.2.2.2.1 ≤ M.2.2.2.2.1) (hrest : (st.map fun v => v.category).sum ≤ 8) (kk : WP D ad ca none M_MO_word 0 [(0, .ref (ad 28)), (1, vI a1)] [] h (RI K)) (hk : ∀ r h', InR r → K r h' → WP D ad ca sc M (pc + 3) lv (vI r :: st) h' Q) : WP D ad ca sc M pc lv (vI a1 :: .ref (ad 28) :: st) h Q :=
  P_invV (Mc := M_MO_word) (y := y_MO_word) (k := 28) (ci := 6) (fs := fs_MO ad (h 28)) (As := [vI a1]) (rest := st) (n := 1) (by decide) rfl rfl (good_V hw tw_797 tw_798 tw_36 tw_799) ⟨by decide +kernel, rfl⟩ (by decide +kernel) hroom rfl rfl hrest (Nat.le_of_ble_eq_true rfl) hd (WP.mono (fun v h' q => P_contI v h' hk q) kk)
theorem V_MO_drill {idx : Nat} {a1 : Int} {K : Int → Hp → Prop} (hw : Cond.methodLink M.1 idx y_MO_drill ∈ TB) (hd : decode M.2.1 pc = .ok (.invokevirtual idx, 3)) (hroom : M_MO_drill.2.2.2.1 + 1 ≤ M.2.2.2.1 ∧ 8 + (M_MO_drill.2.2.1 + 11) + M_MO_drill.2.2.2.2.1 ≤ M.2.2.2.2.1) (hrest : (st.map fun v => v.category).sum ≤ 8) (kk : WP D ad ca none M_MO_drill 0 [(0, .ref (ad 28)), (1, vI a1)] [] h (RI K)) (hk : ∀ r h', InR r → K r h' → WP D ad ca sc M (pc + 3) lv (vI r :: st) h' Q) : WP D ad ca sc M pc lv (vI a1 :: .ref (ad 28) :: st) h Q :=
  P_invV (Mc := M_MO_drill) (y := y_MO_drill) (k := 28) (ci := 6) (fs := fs_MO ad (h 28)) (As := [vI a1]) (rest := st) (n := 1) (by decide) rfl rfl (good_V hw tw_801 tw_802 tw_36 tw_803) ⟨by decide +kernel, rfl⟩ (by decide +kernel) hroom rfl rfl hrest (Nat.le_of_ble_eq_true rfl) hd (WP.mono (fun v h' q => P_contI v h' hk q) kk)
theorem V_MO_message {idx : Nat} {a1 a2 a3 : Int} {K : Int → Hp → Prop} (hw : Cond.methodLink M.1 idx y_MO_message ∈ TB) (hd : decode M.2.1 pc = .ok (.invokevirtual idx, 3)) (hroom : M_MO_message.2.2.2.1 + 1 ≤ M.2.2.2.1 ∧ 8 + (M_MO_message.2.2.1 + 11) + M_MO_message.2.2.2.2.1 ≤ M.2.2.2.2.1) (hrest : (st.map fun v => v.category).sum ≤ 8) (kk : WP D ad ca none M_MO_message 0 [(0, .ref (ad 28)), (1, vI a1), (2, vI a2), (3, vI a3)] [] h (RI K)) (hk : ∀ r h', InR r → K r h' → WP D ad ca sc M (pc + 3) lv (vI r :: st) h' Q) : WP D ad ca sc M pc lv (vI a3 :: vI a2 :: vI a1 :: .ref (ad 28) :: st) h Q :=
  P_invV (Mc := M_MO_message) (y := y_MO_message) (k := 28) (ci := 6) (fs := fs_MO ad (h 28)) (As := [vI a1, vI a2, vI a3]) (rest := st) (n := 3) (by decide) rfl rfl (good_V hw tw_805 tw_806 tw_36 tw_807) ⟨by decide +kernel, rfl⟩ (by decide +kernel) hroom rfl rfl hrest (Nat.le_of_ble_eq_true rfl) hd (WP.mono (fun v h' q => P_contI v h' hk q) kk)
theorem V_MO_told {idx : Nat} {a1 : Int} {K : Int → Hp → Prop} (hw : Cond.methodLink M.1 idx y_MO_told ∈ TB) (hd : decode M.2.1 pc = .ok (.invokevirtual idx, 3)) (hroom : M_MO_told.2.2.2.1 + 1 ≤ M.2.2.2.1 ∧ 8 + (M_MO_told.2.2.1 + 11) + M_MO_told.2.2.2.2.1 ≤ M.2.2.2.2.1) (hrest : (st.map fun v => v.category).sum ≤ 8) (kk : WP D ad ca none M_MO_told 0 [(0, .ref (ad 28)), (1, vI a1)] [] h (RI K)) (hk : ∀ r h', InR r → K r h' → WP D ad ca sc M (pc + 3) lv (vI r :: st) h' Q) : WP D ad ca sc M pc lv (vI a1 :: .ref (ad 28) :: st) h Q :=
  P_invV (Mc := M_MO_told) (y := y_MO_told) (k := 28) (ci := 6) (fs := fs_MO ad (h 28)) (As := [vI a1]) (rest := st) (n := 1) (by decide) rfl rfl (good_V hw tw_809 tw_810 tw_36 tw_811) ⟨by decide +kernel, rfl⟩ (by decide +kernel) hroom rfl rfl hrest (Nat.le_of_ble_eq_true rfl) hd (WP.mono (fun v h' q => P_contI v h' hk q) kk)
theorem V_MO_isNode {idx : Nat} {a1 : Int} {K : Int → Hp → Prop} (hw : Cond.methodLink M.1 idx y_MO_isNode ∈ TB) (hd : decode M.2.1 pc = .ok (.invokevirtual idx, 3)) (hroom : M_MO_isNode.2.2.2.1 + 1 ≤ M.2.2.2.1 ∧ 8 + (M_MO_isNode.2.2.1 + 11) + M_MO_isNode.2.2.2.2.1 ≤ M.2.2.2.2.1) (hrest : (st.map fun v => v.category).sum ≤ 8) (kk : WP D ad ca none M_MO_isNode 0 [(0, .ref (ad 28)), (1, vI a1)] [] h (RI K)) (hk : ∀ r h', InR r → K r h' → WP D ad ca sc M (pc + 3) lv (vI r :: st) h' Q) : WP D ad ca sc M pc lv (vI a1 :: .ref (ad 28) :: st) h Q :=
  P_invV (Mc := M_MO_isNode) (y := y_MO_isNode) (k := 28) (ci := 6) (fs := fs_MO ad (h 28)) (As := [vI a1]) (rest := st) (n := 1) (by decide) rfl rfl (good_V hw tw_818 tw_23 tw_36 tw_819) ⟨by decide +kernel, rfl⟩ (by decide +kernel) hroom rfl rfl hrest (Nat.le_of_ble_eq_true rfl) hd (WP.mono (fun v h' q => P_contI v h' hk q) kk)
theorem V_MO_children {idx : Nat} {a1 : Int} {K : Int → Hp → Prop} (hw : Cond.methodLink M.1 idx y_MO_children ∈ TB) (hd : decode M.2.1 pc = .ok (.invokevirtual idx, 3)) (hroom : M_MO_children.2.2.2.1 + 1 ≤ M.2.2.2.1 ∧ 8 + (M_MO_children.2.2.1 + 11) + M_MO_children.2.2.2.2.1 ≤ M.2.2.2.2.1) (hrest : (st.map fun v => v.category).sum ≤ 8) (kk : WP D ad ca none M_MO_children 0 [(0, .ref (ad 28)), (1, vI a1)] [] h (RI K)) (hk : ∀ r h', InR r → K r h' → WP D ad ca sc M (pc + 3) lv (vI r :: st) h' Q) : WP D ad ca sc M pc lv (vI a1 :: .ref (ad 28) :: st) h Q :=
  P_invV (Mc := M_MO_children) (y := y_MO_children) (k := 28) (ci := 6) (fs := fs_MO ad (h 28)) (As := [vI a1]) (rest := st) (n := 1) (by decide) rfl rfl (good_V hw tw_829 tw_25 tw_36 tw_830) ⟨by decide +kernel, rfl⟩ (by decide +kernel) hroom rfl rfl hrest (Nat.le_of_ble_eq_true rfl) hd (WP.mono (fun v h' q => P_contI v h' hk q) kk)
theorem V_MO_depth {idx : Nat} {a1 : Int} {K : Int → Hp → Prop} (hw : Cond.methodLink M.1 idx y_MO_depth ∈ TB) (hd : decode M.2.1 pc = .ok (.invokevirtual idx, 3)) (hroom : M_MO_depth.2.2.2.1 + 1 ≤ M.2.2.2.1 ∧ 8 + (M_MO_depth.2.2.1 + 11) + M_MO_depth.2.2.2.2.1 ≤ M.2.2.2.2.1) (hrest : (st.map fun v => v.category).sum ≤ 8) (kk : WP D ad ca none M_MO_depth 0 [(0, .ref (ad 28)), (1, vI a1)] [] h (RI K)) (hk : ∀ r h', InR r → K r h' → WP D ad ca sc M (pc + 3) lv (vI r :: st) h' Q) : WP D ad ca sc M pc lv (vI a1 :: .ref (ad 28) :: st) h Q :=
  P_invV (Mc := M_MO_depth) (y := y_MO_depth) (k := 28) (ci := 6) (fs := fs_MO ad (h 28)) (As := [vI a1]) (rest := st) (n := 1) (by decide) rfl rfl (good_V hw tw_825 tw_24 tw_36 tw_826) ⟨by decide +kernel, rfl⟩ (by decide +kernel) hroom rfl rfl hrest (Nat.le_of_ble_eq_true rfl) hd (WP.mono (fun v h' q => P_contI v h' hk q) kk)
theorem V_MO_isShare {idx : Nat} {a1 a2 : Int} {K : Int → Hp → Prop} (hw : Cond.methodLink M.1 idx y_MO_isShare ∈ TB) (hd : decode M.2.1 pc = .ok (.invokestatic idx, 3)) (hroom : M_MO_isShare.2.2.2.1 + 1 ≤ M.2.2.2.1 ∧ 8 + (M_MO_isShare.2.2.1 + 11) + M_MO_isShare.2.2.2.2.1 ≤ M.2.2.2.2.1) (hrest : (st.map fun v => v.category).sum ≤ 8) (kk : WP D ad ca none M_MO_isShare 0 [(0, vI a1), (1, vI a2)] [] h (RI K)) (hk : ∀ r h', InR r → K r h' → WP D ad ca sc M (pc + 3) lv (vI r :: st) h' Q) : WP D ad ca sc M pc lv (vI a2 :: vI a1 :: st) h Q :=
  P_invS (Mc := M_MO_isShare) (y := y_MO_isShare) (As := [vI a1, vI a2]) (rest := st) (n := 2) (good_S hw tw_821 tw_36 tw_822) ⟨by decide +kernel, rfl⟩ (by decide +kernel) hroom rfl rfl hrest (Nat.le_of_ble_eq_true rfl) hd (WP.mono (fun v h' q => P_contI v h' hk q) kk)
theorem V_MO_node {idx : Nat} {a1 a2 a3 : Int} {K : Int → Hp → Prop} (hw : Cond.methodLink M.1 idx y_MO_node ∈ TB) (hd : decode M.2.1 pc = .ok (.invokevirtual idx, 3)) (hroom : M_MO_node.2.2.2.1 + 1 ≤ M.2.2.2.1 ∧ 8 + (M_MO_node.2.2.1 + 11) + M_MO_node.2.2.2.2.1 ≤ M.2.2.2.2.1) (hrest : (st.map fun v => v.category).sum ≤ 8) (kk : WP D ad ca none M_MO_node 0 [(0, .ref (ad 28)), (1, vI a1), (2, vI a2), (3, vI a3)] [] h (RI K)) (hk : ∀ r h', InR r → K r h' → WP D ad ca sc M (pc + 3) lv (vI r :: st) h' Q) : WP D ad ca sc M pc lv (vI a3 :: vI a2 :: vI a1 :: .ref (ad 28) :: st) h Q :=
  P_invV (Mc := M_MO_node) (y := y_MO_node) (k := 28) (ci := 6) (fs := fs_MO ad (h 28)) (As := [vI a1, vI a2, vI a3]) (rest := st) (n := 3) (by decide) rfl rfl (good_V hw tw_813 tw_814 tw_36 tw_815) ⟨by decide +kernel, rfl⟩ (by decide +kernel) hroom rfl rfl hrest (Nat.le_of_ble_eq_true rfl) hd (WP.mono (fun v h' q => P_contI v h' hk q) kk)
theorem V_MO_share {idx : Nat} {a1 a2 a3 : Int} {K : Int → Hp → Prop} (hw : Cond.methodLink M.1 idx y_MO_share ∈ TB) (hd : decode M.2.1 pc = .ok (.invokevirtual idx, 3)) (hroom : M_MO_share.2.2.2.1 + 1 ≤ M.2.2.2.1 ∧ 8 + (M_MO_share.2.2.1 + 11) + M_MO_share.2.2.2.2.1 ≤ M.2.2.2.2.1) (hrest : (st.map fun v => v.category).sum ≤ 8) (kk : WP D ad ca none M_MO_share 0 [(0, .ref (ad 28)), (1, vI a1), (2, vI a2), (3, vI a3)] [] h (RI K)) (hk : ∀ r h', InR r → K r h' → WP D ad ca sc M (pc + 3) lv (vI r :: st) h' Q) : WP D ad ca sc M pc lv (vI a3 :: vI a2 :: vI a1 :: .ref (ad 28) :: st) h Q :=
  P_invV (Mc := M_MO_share) (y := y_MO_share) (k := 28) (ci := 6) (fs := fs_MO ad (h 28)) (As := [vI a1, vI a2, vI a3]) (rest := st) (n := 3) (by decide) rfl rfl (good_V hw tw_832 tw_833 tw_36 tw_834) ⟨by decide +kernel, rfl⟩ (by decide +kernel) hroom rfl rfl hrest (Nat.le_of_ble_eq_true rfl) hd (WP.mono (fun v h' q => P_contI v h' hk q) kk)
theorem V_MO_fear {idx : Nat} {a1 a2 : Int} {K : Int → Hp → Prop} (hw : Cond.methodLink M.1 idx y_MO_fear ∈ TB) (hd : decode M.2.1 pc = .ok (.invokevirtual idx, 3)) (hroom : M_MO_fear.2.2.2.1 + 1 ≤ M.2.2.2.1 ∧ 8 + (M_MO_fear.2.2.1 + 11) + M_MO_fear.2.2.2.2.1 ≤ M.2.2.2.2.1) (hrest : (st.map fun v => v.category).sum ≤ 8) (kk : WP D ad ca none M_MO_fear 0 [(0, .ref (ad 28)), (1, vI a1), (2, vI a2)] [] h (RI K)) (hk : ∀ r h', InR r → K r h' → WP D ad ca sc M (pc + 3) lv (vI r :: st) h' Q) : WP D ad ca sc M pc lv (vI a2 :: vI a1 :: .ref (ad 28) :: st) h Q :=
  P_invV (Mc := M_MO_fear) (y := y_MO_fear) (k := 28) (ci := 6) (fs := fs_MO ad (h 28)) (As := [vI a1, vI a2]) (rest := st) (n := 2) (by decide) rfl rfl (good_V hw tw_836 tw_837 tw_36 tw_838) ⟨by decide +kernel, rfl⟩ (by decide +kernel) hroom rfl rfl hrest (Nat.le_of_ble_eq_true rfl) hd (WP.mono (fun v h' q => P_contI v h' hk q) kk)
theorem V_MO_bounds {idx : Nat} {a1 : Int} {a2 : Nat} {K : Int → Hp → Prop} (hw : Cond.methodLink M.1 idx y_MO_bounds ∈ TB) (hd : decode M.2.1 pc = .ok (.invokevirtual idx, 3)) (hroom : M_MO_bounds.2.2.2.1 + 1 ≤ M.2.2.2.1 ∧ 8 + (M_MO_bounds.2.2.1 + 11) + M_MO_bounds.2.2.2.2.1 ≤ M.2.2.2.2.1) (hrest : (st.map fun v => v.category).sum ≤ 8) (kk : WP D ad ca none M_MO_bounds 0 [(0, .ref (ad 28)), (1, vI a1), (2, .ref (ad a2))] [] h (RI K)) (hk : ∀ r h', InR r → K r h' → WP D ad ca sc M (pc + 3) lv (vI r :: st) h' Q) : WP D ad ca sc M pc lv (.ref (ad a2) :: vI a1 :: .ref (ad 28) :: st) h Q :=
  P_invV (Mc := M_MO_bounds) (y := y_MO_bounds) (k := 28) (ci := 6) (fs := fs_MO ad (h 28)) (As := [vI a1, .ref (ad a2)]) (rest := st) (n := 2) (by decide) rfl rfl (good_V hw tw_849 tw_27 tw_36 tw_850) ⟨by decide +kernel, rfl⟩ (by decide +kernel) hroom rfl rfl hrest (Nat.le_of_ble_eq_true rfl) hd (WP.mono (fun v h' q => P_contI v h' hk q) kk)
theorem V_MO_isSound {idx : Nat} {K : Int → Hp → Prop} (hw : Cond.methodLink M.1 idx y_MO_isSound ∈ TB) (hd : decode M.2.1 pc = .ok (.invokevirtual idx, 3)) (hroom : M_MO_isSound.2.2.2.1 + 1 ≤ M.2.2.2.1 ∧ 8 + (M_MO_isSound.2.2.1 + 11) + M_MO_isSound.2.2.2.2.1 ≤ M.2.2.2.2.1) (hrest : (st.map fun v => v.category).sum ≤ 8) (kk : WP D ad ca none M_MO_isSound 0 [(0, .ref (ad 28))] [] h (RI K)) (hk : ∀ r h', InR r → K r h' → WP D ad ca sc M (pc + 3) lv (vI r :: st) h' Q) : WP D ad ca sc M pc lv (.ref (ad 28) :: st) h Q :=
  P_invV (Mc := M_MO_isSound) (y := y_MO_isSound) (k := 28) (ci := 6) (fs := fs_MO ad (h 28)) (As := []) (rest := st) (n := 0) (by decide) rfl rfl (good_V hw tw_845 tw_26 tw_36 tw_846) ⟨by decide +kernel, rfl⟩ (by decide +kernel) hroom rfl rfl hrest (Nat.le_of_ble_eq_true rfl) hd (WP.mono (fun v h' q => P_contI v h' hk q) kk)
theorem V_MO_sound {idx : Nat} {K : Int → Hp → Prop} (hw : Cond.methodLink M.1 idx y_MO_sound ∈ TB) (hd : decode M.2.1 pc = .ok (.invokevirtual idx, 3)) (hroom : M_MO_sound.2.2.2.1 + 1 ≤ M.2.2.2.1 ∧ 8 + (M_MO_sound.2.2.1 + 11) + M_MO_sound.2.2.2.2.1 ≤ M.2.2.2.2.1) (hrest : (st.map fun v => v.category).sum ≤ 8) (kk : WP D ad ca none M_MO_sound 0 [(0, .ref (ad 28))] [] h (RI K)) (hk : ∀ r h', InR r → K r h' → WP D ad ca sc M (pc + 3) lv (vI r :: st) h' Q) : WP D ad ca sc M pc lv (.ref (ad 28) :: st) h Q :=
  P_invV (Mc := M_MO_sound) (y := y_MO_sound) (k := 28) (ci := 6) (fs := fs_MO ad (h 28)) (As := []) (rest := st) (n := 0) (by decide) rfl rfl (good_V hw tw_840 tw_841 tw_36 tw_842) ⟨by decide +kernel, rfl⟩ (by decide +kernel) hroom rfl rfl hrest (Nat.le_of_ble_eq_true rfl) hd (WP.mono (fun v h' q => P_contI v h' hk q) kk)
theorem V_MO_mixed {idx : Nat} {a1 a2 : Int} {K : Int → Hp → Prop} (hw : Cond.methodLink M.1 idx y_MO_mixed ∈ TB) (hd : decode M.2.1 pc = .ok (.invokevirtual idx, 3)) (hroom : M_MO_mixed.2.2.2.1 + 1 ≤ M.2.2.2.1 ∧ 8 + (M_MO_mixed.2.2.1 + 11) + M_MO_mixed.2.2.2.2.1 ≤ M.2.2.2.2.1) (hrest : (st.map fun v => v.category).sum ≤ 8) (kk : WP D ad ca none M_MO_mixed 0 [(0, .ref (ad 28)), (1, vI a1), (2, vI a2)] [] h (RL K)) (hk : ∀ r h', InL r → K r h' → WP D ad ca sc M (pc + 3) lv (vL r :: st) h' Q) : WP D ad ca sc M pc lv (vI a2 :: vI a1 :: .ref (ad 28) :: st) h Q :=
  P_invV (Mc := M_MO_mixed) (y := y_MO_mixed) (k := 28) (ci := 6) (fs := fs_MO ad (h 28)) (As := [vI a1, vI a2]) (rest := st) (n := 2) (by decide) rfl rfl (good_V hw tw_857 tw_28 tw_36 tw_858) ⟨by decide +kernel, rfl⟩ (by decide +kernel) hroom rfl rfl hrest (Nat.le_of_ble_eq_true rfl) hd (WP.mono (fun v h' q => P_contL v h' hk q) kk)
theorem V_MO_chance {idx : Nat} {a1 a2 : Int} {K : Int → Hp → Prop} (hw : Cond.methodLink M.1 idx y_MO_chance ∈ TB) (hd : decode M.2.1 pc = .ok (.invokevirtual idx, 3)) (hroom : M_MO_chance.2.2.2.1 + 1 ≤ M.2.2.2.1 ∧ 8 + (M_MO_chance.2.2.1 + 11) + M_MO_chance.2.2.2.2.1 ≤ M.2.2.2.2.1) (hrest : (st.map fun v => v.category).sum ≤ 8) (kk : WP D ad ca none M_MO_chance 0 [(0, .ref (ad 28)), (1, vI a1), (2, vI a2)] [] h (RI K)) (hk : ∀ r h', InR r → K r h' → WP D ad ca sc M (pc + 3) lv (vI r :: st) h' Q) : WP D ad ca sc M pc lv (vI a2 :: vI a1 :: .ref (ad 28) :: st) h Q :=
  P_invV (Mc := M_MO_chance) (y := y_MO_chance) (k := 28) (ci := 6) (fs := fs_MO ad (h 28)) (As := [vI a1, vI a2]) (rest := st) (n := 2) (by decide) rfl rfl (good_V hw tw_852 tw_853 tw_36 tw_854) ⟨by decide +kernel, rfl⟩ (by decide +kernel) hroom rfl rfl hrest (Nat.le_of_ble_eq_true rfl) hd (WP.mono (fun v h' q => P_contI v h' hk q) kk)
theorem V_MO_ofNode {idx : Nat} {a1 a2 : Int} {K : Int → Hp → Prop} (hw : Cond.methodLink M.1 idx y_MO_ofNode ∈ TB) (hd : decode M.2.1 pc = .ok (.invokevirtual idx, 3)) (hroom : M_MO_ofNode.2.2.2.1 + 1 ≤ M.2.2.2.1 ∧ 8 + (M_MO_ofNode.2.2.1 + 11) + M_MO_ofNode.2.2.2.2.1 ≤ M.2.2.2.2.1) (hrest : (st.map fun v => v.category).sum ≤ 8) (kk : WP D ad ca none M_MO_ofNode 0 [(0, .ref (ad 28)), (1, vI a1), (2, vI a2)] [] h (RI K)) (hk : ∀ r h', InR r → K r h' → WP D ad ca sc M (pc + 3) lv (vI r :: st) h' Q) : WP D ad ca sc M pc lv (vI a2 :: vI a1 :: .ref (ad 28) :: st) h Q :=
  P_invV (Mc := M_MO_ofNode) (y := y_MO_ofNode) (k := 28) (ci := 6) (fs := fs_MO ad (h 28)) (As := [vI a1, vI a2]) (rest := st) (n := 2) (by decide) rfl rfl (good_V hw tw_861 tw_862 tw_36 tw_863) ⟨by decide +kernel, rfl⟩ (by decide +kernel) hroom rfl rfl hrest (Nat.le_of_ble_eq_true rfl) hd (WP.mono (fun v h' q => P_contI v h' hk q) kk)
theorem V_LA_has {idx : Nat} {a1 : Int} {K : Int → Hp → Prop} (hw : Cond.methodLink M.1 idx y_LA_has ∈ TB) (hd : decode M.2.1 pc = .ok (.invokevirtual idx, 3)) (hroom : M_LA_has.2.2.2.1 + 1 ≤ M.2.2.2.1 ∧ 8 + (M_LA_has.2.2.1 + 11) + M_LA_has.2.2.2.2.1 ≤ M.2.2.2.2.1) (hrest : (st.map fun v => v.category).sum ≤ 8) (kk : WP D ad ca none M_LA_has 0 [(0, .ref (ad 10)), (1, vI a1)] [] h (RI K)) (hk : ∀ r h', InR r → K r h' → WP D ad ca sc M (pc + 3) lv (vI r :: st) h' Q) : WP D ad ca sc M pc lv (vI a1 :: .ref (ad 10) :: st) h Q :=
  P_invV (Mc := M_LA_has) (y := y_LA_has) (k := 10) (ci := 3) (fs := fs_LA ad (h 10)) (As := [vI a1]) (rest := st) (n := 1) (by decide) rfl rfl (good_V hw tw_358 tw_359 tw_33 tw_360) ⟨by decide +kernel, rfl⟩ (by decide +kernel) hroom rfl rfl hrest (Nat.le_of_ble_eq_true rfl) hd (WP.mono (fun v h' q => P_contI v h' hk q) kk)
theorem V_LA_add {idx : Nat} {a1 a2 a3 a4 : Int} {K : Int → Hp → Prop} (hw : Cond.methodLink M.1 idx y_LA_add ∈ TB) (hd : decode M.2.1 pc = .ok (.invokevirtual idx, 3)) (hroom : M_LA_add.2.2.2.1 + 1 ≤ M.2.2.2.1 ∧ 8 + (M_LA_add.2.2.1 + 11) + M_LA_add.2.2.2.2.1 ≤ M.2.2.2.2.1) (hrest : (st.map fun v => v.category).sum ≤ 8) (kk : WP D ad ca none M_LA_add 0 [(0, .ref (ad 10)), (1, vI a1), (2, vI a2), (3, vI a3), (4, vI a4)] [] h (RI K)) (hk : ∀ r h', InR r → K r h' → WP D ad ca sc M (pc + 3) lv (vI r :: st) h' Q) : WP D ad ca sc M pc lv (vI a4 :: vI a3 :: vI a2 :: vI a1 :: .ref (ad 10) :: st) h Q :=
  P_invV (Mc := M_LA_add) (y := y_LA_add) (k := 10) (ci := 3) (fs := fs_LA ad (h 10)) (As := [vI a1, vI a2, vI a3, vI a4]) (rest := st) (n := 4) (by decide) rfl rfl (good_V hw tw_350 tw_351 tw_33 tw_352) ⟨by decide +kernel, rfl⟩ (by decide +kernel) hroom rfl rfl hrest (Nat.le_of_ble_eq_true rfl) hd (WP.mono (fun v h' q => P_contI v h' hk q) kk)
theorem V_ME_place {idx : Nat} {a1 a2 : Int} {K : Int → Hp → Prop} (hw : Cond.methodLink M.1 idx y_ME_place ∈ TB) (hd : decode M.2.1 pc = .ok (.invokestatic idx, 3)) (hroom : M_ME_place.2.2.2.1 + 1 ≤ M.2.2.2.1 ∧ 8 + (M_ME_place.2.2.1 + 11) + M_ME_place.2.2.2.2.1 ≤ M.2.2.2.2.1) (hrest : (st.map fun v => v.category).sum ≤ 8) (kk : WP D ad ca none M_ME_place 0 [(0, vI a1), (1, vI a2)] [] h (RI K)) (hk : ∀ r h', InR r → K r h' → WP D ad ca sc M (pc + 3) lv (vI r :: st) h' Q) : WP D ad ca sc M pc lv (vI a2 :: vI a1 :: st) h Q :=
  P_invS (Mc := M_ME_place) (y := y_ME_place) (As := [vI a1, vI a2]) (rest := st) (n := 2) (good_S hw tw_445 tw_34 tw_446) ⟨by decide +kernel, rfl⟩ (by decide +kernel) hroom rfl rfl hrest (Nat.le_of_ble_eq_true rfl) hd (WP.mono (fun v h' q => P_contI v h' hk q) kk)
theorem V_ME_isKept {idx : Nat} {a1 a2 : Int} {K : Int → Hp → Prop} (hw : Cond.methodLink M.1 idx y_ME_isKept ∈ TB) (hd : decode M.2.1 pc = .ok (.invokevirtual idx, 3)) (hroom : M_ME_isKept.2.2.2.1 + 1 ≤ M.2.2.2.1 ∧ 8 + (M_ME_isKept.2.2.1 + 11) + M_ME_isKept.2.2.2.2.1 ≤ M.2.2.2.2.1) (hrest : (st.map fun v => v.category).sum ≤ 8) (kk : WP D ad ca none M_ME_isKept 0 [(0, .ref (ad 15)), (1, vI a1), (2, vI a2)] [] h (RI K)) (hk : ∀ r h', InR r → K r h' → WP D ad ca sc M (pc + 3) lv (vI r :: st) h' Q) : WP D ad ca sc M pc lv (vI a2 :: vI a1 :: .ref (ad 15) :: st) h Q :=
  P_invV (Mc := M_ME_isKept) (y := y_ME_isKept) (k := 15) (ci := 4) (fs := fs_ME ad (h 15)) (As := [vI a1, vI a2]) (rest := st) (n := 2) (by decide) rfl rfl (good_V hw tw_479 tw_480 tw_34 tw_481) ⟨by decide +kernel, rfl⟩ (by decide +kernel) hroom rfl rfl hrest (Nat.le_of_ble_eq_true rfl) hd (WP.mono (fun v h' q => P_contI v h' hk q) kk)
theorem V_ME_add {idx : Nat} {a1 a2 a3 a4 : Int} {K : Int → Hp → Prop} (hw : Cond.methodLink M.1 idx y_ME_add ∈ TB) (hd : decode M.2.1 pc = .ok (.invokevirtual idx, 3)) (hroom : M_ME_add.2.2.2.1 + 1 ≤ M.2.2.2.1 ∧ 8 + (M_ME_add.2.2.1 + 11) + M_ME_add.2.2.2.2.1 ≤ M.2.2.2.2.1) (hrest : (st.map fun v => v.category).sum ≤ 8) (kk : WP D ad ca none M_ME_add 0 [(0, .ref (ad 15)), (1, vI a1), (2, vI a2), (3, vI a3), (4, vI a4)] [] h (RI K)) (hk : ∀ r h', InR r → K r h' → WP D ad ca sc M (pc + 3) lv (vI r :: st) h' Q) : WP D ad ca sc M pc lv (vI a4 :: vI a3 :: vI a2 :: vI a1 :: .ref (ad 15) :: st) h Q :=
  P_invV (Mc := M_ME_add) (y := y_ME_add) (k := 15) (ci := 4) (fs := fs_ME ad (h 15)) (As := [vI a1, vI a2, vI a3, vI a4]) (rest := st) (n := 4) (by decide) rfl rfl (good_V hw tw_437 tw_438 tw_34 tw_439) ⟨by decide +kernel, rfl⟩ (by decide +kernel) hroom rfl rfl hrest (Nat.le_of_ble_eq_true rfl) hd (WP.mono (fun v h' q => P_contI v h' hk q) kk)
theorem V_ME_takeNumber {idx : Nat} {a1 : Int} {K : Int → Hp → Prop} (hw : Cond.methodLink M.1 idx y_ME_takeNumber ∈ TB) (hd : decode M.2.1 pc = .ok (.invokevirtual idx, 3)) (hroom : M_ME_takeNumber.2.2.2.1 + 1 ≤ M.2.2.2.1 ∧ 8 + (M_ME_takeNumber.2.2.1 + 11) + M_ME_takeNumber.2.2.2.2.1 ≤ M.2.2.2.2.1) (hrest : (st.map fun v => v.category).sum ≤ 8) (kk : WP D ad ca none M_ME_takeNumber 0 [(0, .ref (ad 15)), (1, vI a1)] [] h (RI K)) (hk : ∀ r h', InR r → K r h' → WP D ad ca sc M (pc + 3) lv (vI r :: st) h' Q) : WP D ad ca sc M pc lv (vI a1 :: .ref (ad 15) :: st) h Q :=
  P_invV (Mc := M_ME_takeNumber) (y := y_ME_takeNumber) (k := 15) (ci := 4) (fs := fs_ME ad (h 15)) (As := [vI a1]) (rest := st) (n := 1) (by decide) rfl rfl (good_V hw tw_441 tw_442 tw_34 tw_443) ⟨by decide +kernel, rfl⟩ (by decide +kernel) hroom rfl rfl hrest (Nat.le_of_ble_eq_true rfl) hd (WP.mono (fun v h' q => P_contI v h' hk q) kk)
theorem V_ME_countKept {idx : Nat} {a1 : Int} {K : Hp → Prop} (hw : Cond.methodLink M.1 idx y_ME_countKept ∈ TB) (hd : decode M.2.1 pc = .ok (.invokevirtual idx, 3)) (hroom : M_ME_countKept.2.2.2.1 + 1 ≤ M.2.2.2.1 ∧ 8 + (M_ME_countKept.2.2.1 + 11) + M_ME_countKept.2.2.2.2.1 ≤ M.2.2.2.2.1) (hrest : (st.map fun v => v.category).sum ≤ 8) (kk : WP D ad ca none M_ME_countKept 0 [(0, .ref (ad 15)), (1, vI a1)] [] h (RV K)) (hk : ∀ h', K h' → WP D ad ca sc M (pc + 3) lv st h' Q) : WP D ad ca sc M pc lv (vI a1 :: .ref (ad 15) :: st) h Q :=
  P_invV (Mc := M_ME_countKept) (y := y_ME_countKept) (k := 15) (ci := 4) (fs := fs_ME ad (h 15)) (As := [vI a1]) (rest := st) (n := 1) (by decide) rfl rfl (good_V hw tw_448 tw_449 tw_34 tw_450) ⟨by decide +kernel, rfl⟩ (by decide +kernel) hroom rfl rfl hrest (Nat.le_of_ble_eq_true rfl) hd (WP.mono (fun v h' q => P_contV v h' hk q) kk)
theorem V_RE_carryTiltTo {idx : Nat} {a1 : Int} {K : Hp → Prop} (hw : Cond.methodLink M.1 idx y_RE_carryTiltTo ∈ TB) (hd : decode M.2.1 pc = .ok (.invokevirtual idx, 3)) (hroom : M_RE_carryTiltTo.2.2.2.1 + 1 ≤ M.2.2.2.1 ∧ 8 + (M_RE_carryTiltTo.2.2.1 + 11) + M_RE_carryTiltTo.2.2.2.2.1 ≤ M.2.2.2.2.1) (hrest : (st.map fun v => v.category).sum ≤ 8) (kk : WP D ad ca none M_RE_carryTiltTo 0 [(0, .ref (ad 7)), (1, vI a1)] [] h (RV K)) (hk : ∀ h', K h' → WP D ad ca sc M (pc + 3) lv st h' Q) : WP D ad ca sc M pc lv (vI a1 :: .ref (ad 7) :: st) h Q :=
  P_invV (Mc := M_RE_carryTiltTo) (y := y_RE_carryTiltTo) (k := 7) (ci := 2) (fs := fs_RE ad (h 7)) (As := [vI a1]) (rest := st) (n := 1) (by decide) rfl rfl (good_V hw tw_452 tw_453 tw_32 tw_454) ⟨by decide +kernel, rfl⟩ (by decide +kernel) hroom rfl rfl hrest (Nat.le_of_ble_eq_true rfl) hd (WP.mono (fun v h' q => P_contV v h' hk q) kk)
theorem V_RE_tiltMove {idx : Nat} {a1 a2 : Int} {K : Int → Hp → Prop} (hw : Cond.methodLink M.1 idx y_RE_tiltMove ∈ TB) (hd : decode M.2.1 pc = .ok (.invokevirtual idx, 3)) (hroom : M_RE_tiltMove.2.2.2.1 + 1 ≤ M.2.2.2.1 ∧ 8 + (M_RE_tiltMove.2.2.1 + 11) + M_RE_tiltMove.2.2.2.2.1 ≤ M.2.2.2.2.1) (hrest : (st.map fun v => v.category).sum ≤ 8) (kk : WP D ad ca none M_RE_tiltMove 0 [(0, .ref (ad 7)), (1, vI a1), (2, vI a2)] [] h (RI K)) (hk : ∀ r h', InR r → K r h' → WP D ad ca sc M (pc + 3) lv (vI r :: st) h' Q) : WP D ad ca sc M pc lv (vI a2 :: vI a1 :: .ref (ad 7) :: st) h Q :=
  P_invV (Mc := M_RE_tiltMove) (y := y_RE_tiltMove) (k := 7) (ci := 2) (fs := fs_RE ad (h 7)) (As := [vI a1, vI a2]) (rest := st) (n := 2) (by decide) rfl rfl (good_V hw tw_386 tw_387 tw_32 tw_388) ⟨by decide +kernel, rfl⟩ (by decide +kernel) hroom rfl rfl hrest (Nat.le_of_ble_eq_true rfl) hd (WP.mono (fun v h' q => P_contI v h' hk q) kk)
theorem V_RE_gasOfDays {idx : Nat} {a1 a2 : Int} {K : Int → Hp → Prop} (hw : Cond.methodLink M.1 idx y_RE_gasOfDays ∈ TB) (hd : decode M.2.1 pc = .ok (.invokevirtual idx, 3)) (hroom : M_RE_gasOfDays.2.2.2.1 + 1 ≤ M.2.2.2.1 ∧ 8 + (M_RE_gasOfDays.2.2.1 + 11) + M_RE_gasOfDays.2.2.2.2.1 ≤ M.2.2.2.2.1) (hrest : (st.map fun v => v.category).sum ≤ 8) (kk : WP D ad ca none M_RE_gasOfDays 0 [(0, .ref (ad 7)), (1, vI a1), (2, vI a2)] [] h (RI K)) (hk : ∀ r h', InR r → K r h' → WP D ad ca sc M (pc + 3) lv (vI r :: st) h' Q) : WP D ad ca sc M pc lv (vI a2 :: vI a1 :: .ref (ad 7) :: st) h Q :=
  P_invV (Mc := M_RE_gasOfDays) (y := y_RE_gasOfDays) (k := 7) (ci := 2) (fs := fs_RE ad (h 7)) (As := [vI a1, vI a2]) (rest := st) (n := 2) (by decide) rfl rfl (good_V hw tw_393 tw_394 tw_32 tw_395) ⟨by decide +kernel, rfl⟩ (by decide +kernel) hroom rfl rfl hrest (Nat.le_of_ble_eq_true rfl) hd (WP.mono (fun v h' q => P_contI v h' hk q) kk)
theorem V_SH_has {idx : Nat} {a1 : Int} {K : Int → Hp → Prop} (hw : Cond.methodLink M.1 idx y_SH_has ∈ TB) (hd : decode M.2.1 pc = .ok (.invokevirtual idx, 3)) (hroom : M_SH_has.2.2.2.1 + 1 ≤ M.2.2.2.1 ∧ 8 + (M_SH_has.2.2.1 + 11) + M_SH_has.2.2.2.2.1 ≤ M.2.2.2.2.1) (hrest : (st.map fun v => v.category).sum ≤ 8) (kk : WP D ad ca none M_SH_has 0 [(0, .ref (ad 1)), (1, vI a1)] [] h (RI K)) (hk : ∀ r h', InR r → K r h' → WP D ad ca sc M (pc + 3) lv (vI r :: st) h' Q) : WP D ad ca sc M pc lv (vI a1 :: .ref (ad 1) :: st) h Q :=
  P_invV (Mc := M_SH_has) (y := y_SH_has) (k := 1) (ci := 1) (fs := fs_SH ad (h 1)) (As := [vI a1]) (rest := st) (n := 1) (by decide) rfl rfl (good_V hw tw_278 tw_279 tw_31 tw_280) ⟨by decide +kernel, rfl⟩ (by decide +kernel) hroom rfl rfl hrest (Nat.le_of_ble_eq_true rfl) hd (WP.mono (fun v h' q => P_contI v h' hk q) kk)
theorem V_SH_band {idx : Nat} {a1 a2 : Int} {K : Int → Hp → Prop} (hw : Cond.methodLink M.1 idx y_SH_band ∈ TB) (hd : decode M.2.1 pc = .ok (.invokevirtual idx, 3)) (hroom : M_SH_band.2.2.2.1 + 1 ≤ M.2.2.2.1 ∧ 8 + (M_SH_band.2.2.1 + 11) + M_SH_band.2.2.2.2.1 ≤ M.2.2.2.2.1) (hrest : (st.map fun v => v.category).sum ≤ 8) (kk : WP D ad ca none M_SH_band 0 [(0, .ref (ad 1)), (1, vI a1), (2, vI a2)] [] h (RI K)) (hk : ∀ r h', InR r → K r h' → WP D ad ca sc M (pc + 3) lv (vI r :: st) h' Q) : WP D ad ca sc M pc lv (vI a2 :: vI a1 :: .ref (ad 1) :: st) h Q :=
  P_invV (Mc := M_SH_band) (y := y_SH_band) (k := 1) (ci := 1) (fs := fs_SH ad (h 1)) (As := [vI a1, vI a2]) (rest := st) (n := 2) (by decide) rfl rfl (good_V hw tw_250 tw_251 tw_31 tw_252) ⟨by decide +kernel, rfl⟩ (by decide +kernel) hroom rfl rfl hrest (Nat.le_of_ble_eq_true rfl) hd (WP.mono (fun v h' q => P_contI v h' hk q) kk)
theorem V_SH_add {idx : Nat} {a1 a2 : Int} {K : Int → Hp → Prop} (hw : Cond.methodLink M.1 idx y_SH_add ∈ TB) (hd : decode M.2.1 pc = .ok (.invokevirtual idx, 3)) (hroom : M_SH_add.2.2.2.1 + 1 ≤ M.2.2.2.1 ∧ 8 + (M_SH_add.2.2.1 + 11) + M_SH_add.2.2.2.2.1 ≤ M.2.2.2.2.1) (hrest : (st.map fun v => v.category).sum ≤ 8) (kk : WP D ad ca none M_SH_add 0 [(0, .ref (ad 1)), (1, vL a1), (3, vI a2)] [] h (RI K)) (hk : ∀ r h', InR r → K r h' → WP D ad ca sc M (pc + 3) lv (vI r :: st) h' Q) : WP D ad ca sc M pc lv (vI a2 :: vL a1 :: .ref (ad 1) :: st) h Q :=
  P_invV (Mc := M_SH_add) (y := y_SH_add) (k := 1) (ci := 1) (fs := fs_SH ad (h 1)) (As := [vL a1, vI a2]) (rest := st) (n := 2) (by decide) rfl rfl (good_V hw tw_241 tw_242 tw_31 tw_243) ⟨by decide +kernel, rfl⟩ (by decide +kernel) hroom rfl rfl hrest (Nat.le_of_ble_eq_true rfl) hd (WP.mono (fun v h' q => P_contI v h' hk q) kk)
theorem V_SH_kindOf {idx : Nat} {a1 : Int} {K : Int → Hp → Prop} (hw : Cond.methodLink M.1 idx y_SH_kindOf ∈ TB) (hd : decode M.2.1 pc = .ok (.invokevirtual idx, 3)) (hroom : M_SH_kindOf.2.2.2.1 + 1 ≤ M.2.2.2.1 ∧ 8 + (M_SH_kindOf.2.2.1 + 11) + M_SH_kindOf.2.2.2.2.1 ≤ M.2.2.2.2.1) (hrest : (st.map fun v => v.category).sum ≤ 8) (kk : WP D ad ca none M_SH_kindOf 0 [(0, .ref (ad 1)), (1, vI a1)] [] h (RI K)) (hk : ∀ r h', InR r → K r h' → WP D ad ca sc M (pc + 3) lv (vI r :: st) h' Q) : WP D ad ca sc M pc lv (vI a1 :: .ref (ad 1) :: st) h Q :=
  P_invV (Mc := M_SH_kindOf) (y := y_SH_kindOf) (k := 1) (ci := 1) (fs := fs_SH ad (h 1)) (As := [vI a1]) (rest := st) (n := 1) (by decide) rfl rfl (good_V hw tw_246 tw_247 tw_31 tw_248) ⟨by decide +kernel, rfl⟩ (by decide +kernel) hroom rfl rfl hrest (Nat.le_of_ble_eq_true rfl) hd (WP.mono (fun v h' q => P_contI v h' hk q) kk)
theorem V_SH_product {idx : Nat} {a1 a2 : Int} {K : Int → Hp → Prop} (hw : Cond.methodLink M.1 idx y_SH_product ∈ TB) (hd : decode M.2.1 pc = .ok (.invokevirtual idx, 3)) (hroom : M_SH_product.2.2.2.1 + 1 ≤ M.2.2.2.1 ∧ 8 + (M_SH_product.2.2.1 + 11) + M_SH_product.2.2.2.2.1 ≤ M.2.2.2.2.1) (hrest : (st.map fun v => v.category).sum ≤ 8) (kk : WP D ad ca none M_SH_product 0 [(0, .ref (ad 1)), (1, vI a1), (2, vI a2)] [] h (RL K)) (hk : ∀ r h', InL r → K r h' → WP D ad ca sc M (pc + 3) lv (vL r :: st) h' Q) : WP D ad ca sc M pc lv (vI a2 :: vI a1 :: .ref (ad 1) :: st) h Q :=
  P_invV (Mc := M_SH_product) (y := y_SH_product) (k := 1) (ci := 1) (fs := fs_SH ad (h 1)) (As := [vI a1, vI a2]) (rest := st) (n := 2) (by decide) rfl rfl (good_V hw tw_262 tw_263 tw_31 tw_264) ⟨by decide +kernel, rfl⟩ (by decide +kernel) hroom rfl rfl hrest (Nat.le_of_ble_eq_true rfl) hd (WP.mono (fun v h' q => P_contL v h' hk q) kk)
theorem V_SH_areAlike {idx : Nat} {a1 a2 : Int} {K : Int → Hp → Prop} (hw : Cond.methodLink M.1 idx y_SH_areAlike ∈ TB) (hd : decode M.2.1 pc = .ok (.invokevirtual idx, 3)) (hroom : M_SH_areAlike.2.2.2.1 + 1 ≤ M.2.2.2.1 ∧ 8 + (M_SH_areAlike.2.2.1 + 11) + M_SH_areAlike.2.2.2.2.1 ≤ M.2.2.2.2.1) (hrest : (st.map fun v => v.category).sum ≤ 8) (kk : WP D ad ca none M_SH_areAlike 0 [(0, .ref (ad 1)), (1, vI a1), (2, vI a2)] [] h (RI K)) (hk : ∀ r h', InR r → K r h' → WP D ad ca sc M (pc + 3) lv (vI r :: st) h' Q) : WP D ad ca sc M pc lv (vI a2 :: vI a1 :: .ref (ad 1) :: st) h Q :=
  P_invV (Mc := M_SH_areAlike) (y := y_SH_areAlike) (k := 1) (ci := 1) (fs := fs_SH ad (h 1)) (As := [vI a1, vI a2]) (rest := st) (n := 2) (by decide) rfl rfl (good_V hw tw_258 tw_259 tw_31 tw_260) ⟨by decide +kernel, rfl⟩ (by decide +kernel) hroom rfl rfl hrest (Nat.le_of_ble_eq_true rfl) hd (WP.mono (fun v h' q => P_contI v h' hk q) kk)
theorem V_SH_askLikeness {idx : Nat} {a1 : Int} {K : Hp → Prop} (hw : Cond.methodLink M.1 idx y_SH_askLikeness ∈ TB) (hd : decode M.2.1 pc = .ok (.invokevirtual idx, 3)) (hroom : M_SH_askLikeness.2.2.2.1 + 1 ≤ M.2.2.2.1 ∧ 8 + (M_SH_askLikeness.2.2.1 + 11) + M_SH_askLikeness.2.2.2.2.1 ≤ M.2.2.2.2.1) (hrest : (st.map fun v => v.category).sum ≤ 8) (kk : WP D ad ca none M_SH_askLikeness 0 [(0, .ref (ad 1)), (1, vI a1)] [] h (RV K)) (hk : ∀ h', K h' → WP D ad ca sc M (pc + 3) lv st h' Q) : WP D ad ca sc M pc lv (vI a1 :: .ref (ad 1) :: st) h Q :=
  P_invV (Mc := M_SH_askLikeness) (y := y_SH_askLikeness) (k := 1) (ci := 1) (fs := fs_SH ad (h 1)) (As := [vI a1]) (rest := st) (n := 1) (by decide) rfl rfl (good_V hw tw_298 tw_299 tw_31 tw_300) ⟨by decide +kernel, rfl⟩ (by decide +kernel) hroom rfl rfl hrest (Nat.le_of_ble_eq_true rfl) hd (WP.mono (fun v h' q => P_contV v h' hk q) kk)
theorem V_SH_joinFamilies {idx : Nat} {a1 : Int} {K : Hp → Prop} (hw : Cond.methodLink M.1 idx y_SH_joinFamilies ∈ TB) (hd : decode M.2.1 pc = .ok (.invokevirtual idx, 3)) (hroom : M_SH_joinFamilies.2.2.2.1 + 1 ≤ M.2.2.2.1 ∧ 8 + (M_SH_joinFamilies.2.2.1 + 11) + M_SH_joinFamilies.2.2.2.2.1 ≤ M.2.2.2.2.1) (hrest : (st.map fun v => v.category).sum ≤ 8) (kk : WP D ad ca none M_SH_joinFamilies 0 [(0, .ref (ad 1)), (1, vI a1)] [] h (RV K)) (hk : ∀ h', K h' → WP D ad ca sc M (pc + 3) lv st h' Q) : WP D ad ca sc M pc lv (vI a1 :: .ref (ad 1) :: st) h Q :=
  P_invV (Mc := M_SH_joinFamilies) (y := y_SH_joinFamilies) (k := 1) (ci := 1) (fs := fs_SH ad (h 1)) (As := [vI a1]) (rest := st) (n := 1) (by decide) rfl rfl (good_V hw tw_254 tw_255 tw_31 tw_256) ⟨by decide +kernel, rfl⟩ (by decide +kernel) hroom rfl rfl hrest (Nat.le_of_ble_eq_true rfl) hd (WP.mono (fun v h' q => P_contV v h' hk q) kk)
theorem V_SH_mergeFamilies {idx : Nat} {a1 a2 a3 : Int} {K : Hp → Prop} (hw : Cond.methodLink M.1 idx y_SH_mergeFamilies ∈ TB) (hd : decode M.2.1 pc = .ok (.invokevirtual idx, 3)) (hroom : M_SH_mergeFamilies.2.2.2.1 + 1 ≤ M.2.2.2.1 ∧ 8 + (M_SH_mergeFamilies.2.2.1 + 11) + M_SH_mergeFamilies.2.2.2.2.1 ≤ M.2.2.2.2.1) (hrest : (st.map fun v => v.category).sum ≤ 8) (kk : WP D ad ca none M_SH_mergeFamilies 0 [(0, .ref (ad 1)), (1, vI a1), (2, vI a2), (3, vI a3)] [] h (RV K)) (hk : ∀ h', K h' → WP D ad ca sc M (pc + 3) lv st h' Q) : WP D ad ca sc M pc lv (vI a3 :: vI a2 :: vI a1 :: .ref (ad 1) :: st) h Q :=
  P_invV (Mc := M_SH_mergeFamilies) (y := y_SH_mergeFamilies) (k := 1) (ci := 1) (fs := fs_SH ad (h 1)) (As := [vI a1, vI a2, vI a3]) (rest := st) (n := 3) (by decide) rfl rfl (good_V hw tw_267 tw_268 tw_31 tw_269) ⟨by decide +kernel, rfl⟩ (by decide +kernel) hroom rfl rfl hrest (Nat.le_of_ble_eq_true rfl) hd (WP.mono (fun v h' q => P_contV v h' hk q) kk)
theorem V_SH_countFamilies {idx : Nat} {K : Int → Hp → Prop} (hw : Cond.methodLink M.1 idx y_SH_countFamilies ∈ TB) (hd : decode M.2.1 pc = .ok (.invokevirtual idx, 3)) (hroom : M_SH_countFamilies.2.2.2.1 + 1 ≤ M.2.2.2.1 ∧ 8 + (M_SH_countFamilies.2.2.1 + 11) + M_SH_countFamilies.2.2.2.2.1 ≤ M.2.2.2.2.1) (hrest : (st.map fun v => v.category).sum ≤ 8) (kk : WP D ad ca none M_SH_countFamilies 0 [(0, .ref (ad 1))] [] h (RI K)) (hk : ∀ r h', InR r → K r h' → WP D ad ca sc M (pc + 3) lv (vI r :: st) h' Q) : WP D ad ca sc M pc lv (.ref (ad 1) :: st) h Q :=
  P_invV (Mc := M_SH_countFamilies) (y := y_SH_countFamilies) (k := 1) (ci := 1) (fs := fs_SH ad (h 1)) (As := []) (rest := st) (n := 0) (by decide) rfl rfl (good_V hw tw_306 tw_307 tw_31 tw_308) ⟨by decide +kernel, rfl⟩ (by decide +kernel) hroom rfl rfl hrest (Nat.le_of_ble_eq_true rfl) hd (WP.mono (fun v h' q => P_contI v h' hk q) kk)
theorem V_SH_familyByOrder {idx : Nat} {a1 : Int} {K : Int → Hp → Prop} (hw : Cond.methodLink M.1 idx y_SH_familyByOrder ∈ TB) (hd : decode M.2.1 pc = .ok (.invokevirtual idx, 3)) (hroom : M_SH_familyByOrder.2.2.2.1 + 1 ≤ M.2.2.2.1 ∧ 8 + (M_SH_familyByOrder.2.2.1 + 11) + M_SH_familyByOrder.2.2.2.2.1 ≤ M.2.2.2.2.1) (hrest : (st.map fun v => v.category).sum ≤ 8) (kk : WP D ad ca none M_SH_familyByOrder 0 [(0, .ref (ad 1)), (1, vI a1)] [] h (RI K)) (hk : ∀ r h', InR r → K r h' → WP D ad ca sc M (pc + 3) lv (vI r :: st) h' Q) : WP D ad ca sc M pc lv (vI a1 :: .ref (ad 1) :: st) h Q :=
  P_invV (Mc := M_SH_familyByOrder) (y := y_SH_familyByOrder) (k := 1) (ci := 1) (fs := fs_SH ad (h 1)) (As := [vI a1]) (rest := st) (n := 1) (by decide) rfl rfl (good_V hw tw_310 tw_311 tw_31 tw_312) ⟨by decide +kernel, rfl⟩ (by decide +kernel) hroom rfl rfl hrest (Nat.le_of_ble_eq_true rfl) hd (WP.mono (fun v h' q => P_contI v h' hk q) kk)
theorem V_SH_countKin {idx : Nat} {a1 : Int} {K : Int → Hp → Prop} (hw : Cond.methodLink M.1 idx y_SH_countKin ∈ TB) (hd : decode M.2.1 pc = .ok (.invokevirtual idx, 3)) (hroom : M_SH_countKin.2.2.2.1 + 1 ≤ M.2.2.2.1 ∧ 8 + (M_SH_countKin.2.2.1 + 11) + M_SH_countKin.2.2.2.2.1 ≤ M.2.2.2.2.1) (hrest : (st.map fun v => v.category).sum ≤ 8) (kk : WP D ad ca none M_SH_countKin 0 [(0, .ref (ad 1)), (1, vI a1)] [] h (RI K)) (hk : ∀ r h', InR r → K r h' → WP D ad ca sc M (pc + 3) lv (vI r :: st) h' Q) : WP D ad ca sc M pc lv (vI a1 :: .ref (ad 1) :: st) h Q :=
  P_invV (Mc := M_SH_countKin) (y := y_SH_countKin) (k := 1) (ci := 1) (fs := fs_SH ad (h 1)) (As := [vI a1]) (rest := st) (n := 1) (by decide) rfl rfl (good_V hw tw_318 tw_319 tw_31 tw_320) ⟨by decide +kernel, rfl⟩ (by decide +kernel) hroom rfl rfl hrest (Nat.le_of_ble_eq_true rfl) hd (WP.mono (fun v h' q => P_contI v h' hk q) kk)
theorem V_SH_isOfDays {idx : Nat} {a1 a2 a3 : Int} {K : Int → Hp → Prop} (hw : Cond.methodLink M.1 idx y_SH_isOfDays ∈ TB) (hd : decode M.2.1 pc = .ok (.invokevirtual idx, 3)) (hroom : M_SH_isOfDays.2.2.2.1 + 1 ≤ M.2.2.2.1 ∧ 8 + (M_SH_isOfDays.2.2.1 + 11) + M_SH_isOfDays.2.2.2.2.1 ≤ M.2.2.2.2.1) (hrest : (st.map fun v => v.category).sum ≤ 8) (kk : WP D ad ca none M_SH_isOfDays 0 [(0, .ref (ad 1)), (1, vI a1), (2, vI a2), (3, vI a3)] [] h (RI K)) (hk : ∀ r h', InR r → K r h' → WP D ad ca sc M (pc + 3) lv (vI r :: st) h' Q) : WP D ad ca sc M pc lv (vI a3 :: vI a2 :: vI a1 :: .ref (ad 1) :: st) h Q :=
  P_invV (Mc := M_SH_isOfDays) (y := y_SH_isOfDays) (k := 1) (ci := 1) (fs := fs_SH ad (h 1)) (As := [vI a1, vI a2, vI a3]) (rest := st) (n := 3) (by decide) rfl rfl (good_V hw tw_377 tw_378 tw_31 tw_379) ⟨by decide +kernel, rfl⟩ (by decide +kernel) hroom rfl rfl hrest (Nat.le_of_ble_eq_true rfl) hd (WP.mono (fun v h' q => P_contI v h' hk q) kk)
theorem V_SH_countOfDays {idx : Nat} {a1 a2 : Int} {K : Int → Hp → Prop} (hw : Cond.methodLink M.1 idx y_SH_countOfDays ∈ TB) (hd : decode M.2.1 pc = .ok (.invokevirtual idx, 3)) (hroom : M_SH_countOfDays.2.2.2.1 + 1 ≤ M.2.2.2.1 ∧ 8 + (M_SH_countOfDays.2.2.1 + 11) + M_SH_countOfDays.2.2.2.2.1 ≤ M.2.2.2.2.1) (hrest : (st.map fun v => v.category).sum ≤ 8) (kk : WP D ad ca none M_SH_countOfDays 0 [(0, .ref (ad 1)), (1, vI a1), (2, vI a2)] [] h (RI K)) (hk : ∀ r h', InR r → K r h' → WP D ad ca sc M (pc + 3) lv (vI r :: st) h' Q) : WP D ad ca sc M pc lv (vI a2 :: vI a1 :: .ref (ad 1) :: st) h Q :=
  P_invV (Mc := M_SH_countOfDays) (y := y_SH_countOfDays) (k := 1) (ci := 1) (fs := fs_SH ad (h 1)) (As := [vI a1, vI a2]) (rest := st) (n := 2) (by decide) rfl rfl (good_V hw tw_373 tw_374 tw_31 tw_375) ⟨by decide +kernel, rfl⟩ (by decide +kernel) hroom rfl rfl hrest (Nat.le_of_ble_eq_true rfl) hd (WP.mono (fun v h' q => P_contI v h' hk q) kk)
theorem V_SH_countOfKind {idx : Nat} {a1 a2 a3 : Int} {K : Int → Hp → Prop} (hw : Cond.methodLink M.1 idx y_SH_countOfKind ∈ TB) (hd : decode M.2.1 pc = .ok (.invokevirtual idx, 3)) (hroom : M_SH_countOfKind.2.2.2.1 + 1 ≤ M.2.2.2.1 ∧ 8 + (M_SH_countOfKind.2.2.1 + 11) + M_SH_countOfKind.2.2.2.2.1 ≤ M.2.2.2.2.1) (hrest : (st.map fun v => v.category).sum ≤ 8) (kk : WP D ad ca none M_SH_countOfKind 0 [(0, .ref (ad 1)), (1, vI a1), (2, vI a2), (3, vI a3)] [] h (RI K)) (hk : ∀ r h', InR r → K r h' → WP D ad ca sc M (pc + 3) lv (vI r :: st) h' Q) : WP D ad ca sc M pc lv (vI a3 :: vI a2 :: vI a1 :: .ref (ad 1) :: st) h Q :=
  P_invV (Mc := M_SH_countOfKind) (y := y_SH_countOfKind) (k := 1) (ci := 1) (fs := fs_SH ad (h 1)) (As := [vI a1, vI a2, vI a3]) (rest := st) (n := 3) (by decide) rfl rfl (good_V hw tw_397 tw_398 tw_31 tw_399) ⟨by decide +kernel, rfl⟩ (by decide +kernel) hroom rfl rfl hrest (Nat.le_of_ble_eq_true rfl) hd (WP.mono (fun v h' q => P_contI v h' hk q) kk)
theorem V_SH_countOfGreatestFamily {idx : Nat} {a1 a2 : Int} {K : Int → Hp → Prop} (hw : Cond.methodLink M.1 idx y_SH_countOfGreatestFamily ∈ TB) (hd : decode M.2.1 pc = .ok (.invokevirtual idx, 3)) (hroom : M_SH_countOfGreatestFamily.2.2.2.1 + 1 ≤ M.2.2.2.1 ∧ 8 + (M_SH_countOfGreatestFamily.2.2.1 + 11) + M_SH_countOfGreatestFamily.2.2.2.2.1 ≤ M.2.2.2.2.1) (hrest : (st.map fun v => v.category).sum ≤ 8) (kk : WP D ad ca none M_SH_countOfGreatestFamily 0 [(0, .ref (ad 1)), (1, vI a1), (2, vI a2)] [] h (RI K)) (hk : ∀ r h', InR r → K r h' → WP D ad ca sc M (pc + 3) lv (vI r :: st) h' Q) : WP D ad ca sc M pc lv (vI a2 :: vI a1 :: .ref (ad 1) :: st) h Q :=
  P_invV (Mc := M_SH_countOfGreatestFamily) (y := y_SH_countOfGreatestFamily) (k := 1) (ci := 1) (fs := fs_SH ad (h 1)) (As := [vI a1, vI a2]) (rest := st) (n := 2) (by decide) rfl rfl (good_V hw tw_381 tw_382 tw_31 tw_383) ⟨by decide +kernel, rfl⟩ (by decide +kernel) hroom rfl rfl hrest (Nat.le_of_ble_eq_true rfl) hd (WP.mono (fun v h' q => P_contI v h' hk q) kk)
theorem V_TR_has {idx : Nat} {a1 : Int} {K : Int → Hp → Prop} (hw : Cond.methodLink M.1 idx y_TR_has ∈ TB) (hd : decode M.2.1 pc = .ok (.invokevirtual idx, 3)) (hroom : M_TR_has.2.2.2.1 + 1 ≤ M.2.2.2.1 ∧ 8 + (M_TR_has.2.2.1 + 11) + M_TR_has.2.2.2.2.1 ≤ M.2.2.2.2.1) (hrest : (st.map fun v => v.category).sum ≤ 8) (kk : WP D ad ca none M_TR_has 0 [(0, .ref (ad 19)), (1, vI a1)] [] h (RI K)) (hk : ∀ r h', InR r → K r h' → WP D ad ca sc M (pc + 3) lv (vI r :: st) h' Q) : WP D ad ca sc M pc lv (vI a1 :: .ref (ad 19) :: st) h Q :=
  P_invV (Mc := M_TR_has) (y := y_TR_has) (k := 19) (ci := 5) (fs := fs_TR ad (h 19)) (As := [vI a1]) (rest := st) (n := 1) (by decide) rfl rfl (good_V hw tw_492 tw_493 tw_35 tw_494) ⟨by decide +kernel, rfl⟩ (by decide +kernel) hroom rfl rfl hrest (Nat.le_of_ble_eq_true rfl) hd (WP.mono (fun v h' q => P_contI v h' hk q) kk)
theorem V_TR_takesChild {idx : Nat} {a1 : Int} {K : Int → Hp → Prop} (hw : Cond.methodLink M.1 idx y_TR_takesChild ∈ TB) (hd : decode M.2.1 pc = .ok (.invokevirtual idx, 3)) (hroom : M_TR_takesChild.2.2.2.1 + 1 ≤ M.2.2.2.1 ∧ 8 + (M_TR_takesChild.2.2.1 + 11) + M_TR_takesChild.2.2.2.2.1 ≤ M.2.2.2.2.1) (hrest : (st.map fun v => v.category).sum ≤ 8) (kk : WP D ad ca none M_TR_takesChild 0 [(0, .ref (ad 19)), (1, vI a1)] [] h (RI K)) (hk : ∀ r h', InR r → K r h' → WP D ad ca sc M (pc + 3) lv (vI r :: st) h' Q) : WP D ad ca sc M pc lv (vI a1 :: .ref (ad 19) :: st) h Q :=
  P_invV (Mc := M_TR_takesChild) (y := y_TR_takesChild) (k := 19) (ci := 5) (fs := fs_TR ad (h 19)) (As := [vI a1]) (rest := st) (n := 1) (by decide) rfl rfl (good_V hw tw_499 tw_500 tw_35 tw_501) ⟨by decide +kernel, rfl⟩ (by decide +kernel) hroom rfl rfl hrest (Nat.le_of_ble_eq_true rfl) hd (WP.mono (fun v h' q => P_contI v h' hk q) kk)
theorem V_TR_add {idx : Nat} {a1 a2 a3 : Int} {K : Int → Hp → Prop} (hw : Cond.methodLink M.1 idx y_TR_add ∈ TB) (hd : decode M.2.1 pc = .ok (.invokevirtual idx, 3)) (hroom : M_TR_add.2.2.2.1 + 1 ≤ M.2.2.2.1 ∧ 8 + (M_TR_add.2.2.1 + 11) + M_TR_add.2.2.2.2.1 ≤ M.2.2.2.2.1) (hrest : (st.map fun v => v.category).sum ≤ 8) (kk : WP D ad ca none M_TR_add 0 [(0, .ref (ad 19)), (1, vI a1), (2, vI a2), (3, vI a3)] [] h (RI K)) (hk : ∀ r h', InR r → K r h' → WP D ad ca sc M (pc + 3) lv (vI r :: st) h' Q) : WP D ad ca sc M pc lv (vI a3 :: vI a2 :: vI a1 :: .ref (ad 19) :: st) h Q :=
  P_invV (Mc := M_TR_add) (y := y_TR_add) (k := 19) (ci := 5) (fs := fs_TR ad (h 19)) (As := [vI a1, vI a2, vI a3]) (rest := st) (n := 3) (by decide) rfl rfl (good_V hw tw_503 tw_504 tw_35 tw_505) ⟨by decide +kernel, rfl⟩ (by decide +kernel) hroom rfl rfl hrest (Nat.le_of_ble_eq_true rfl) hd (WP.mono (fun v h' q => P_contI v h' hk q) kk)
theorem V_TR_isSound {idx : Nat} {K : Int → Hp → Prop} (hw : Cond.methodLink M.1 idx y_TR_isSound ∈ TB) (hd : decode M.2.1 pc = .ok (.invokevirtual idx, 3)) (hroom : M_TR_isSound.2.2.2.1 + 1 ≤ M.2.2.2.1 ∧ 8 + (M_TR_isSound.2.2.1 + 11) + M_TR_isSound.2.2.2.2.1 ≤ M.2.2.2.2.1) (hrest : (st.map fun v => v.category).sum ≤ 8) (kk : WP D ad ca none M_TR_isSound 0 [(0, .ref (ad 19))] [] h (RI K)) (hk : ∀ r h', InR r → K r h' → WP D ad ca sc M (pc + 3) lv (vI r :: st) h' Q) : WP D ad ca sc M pc lv (.ref (ad 19) :: st) h Q :=
  P_invV (Mc := M_TR_isSound) (y := y_TR_isSound) (k := 19) (ci := 5) (fs := fs_TR ad (h 19)) (As := []) (rest := st) (n := 0) (by decide) rfl rfl (good_V hw tw_519 tw_520 tw_35 tw_521) ⟨by decide +kernel, rfl⟩ (by decide +kernel) hroom rfl rfl hrest (Nat.le_of_ble_eq_true rfl) hd (WP.mono (fun v h' q => P_contI v h' hk q) kk)
theorem V_TR_hasShares {idx : Nat} {a1 : Int} {K : Int → Hp → Prop} (hw : Cond.methodLink M.1 idx y_TR_hasShares ∈ TB) (hd : decode M.2.1 pc = .ok (.invokevirtual idx, 3)) (hroom : M_TR_hasShares.2.2.2.1 + 1 ≤ M.2.2.2.1 ∧ 8 + (M_TR_hasShares.2.2.1 + 11) + M_TR_hasShares.2.2.2.2.1 ≤ M.2.2.2.2.1) (hrest : (st.map fun v => v.category).sum ≤ 8) (kk : WP D ad ca none M_TR_hasShares 0 [(0, .ref (ad 19)), (1, vI a1)] [] h (RI K)) (hk : ∀ r h', InR r → K r h' → WP D ad ca sc M (pc + 3) lv (vI r :: st) h' Q) : WP D ad ca sc M pc lv (vI a1 :: .ref (ad 19) :: st) h Q :=
  P_invV (Mc := M_TR_hasShares) (y := y_TR_hasShares) (k := 19) (ci := 5) (fs := fs_TR ad (h 19)) (As := [vI a1]) (rest := st) (n := 1) (by decide) rfl rfl (good_V hw tw_523 tw_524 tw_35 tw_525) ⟨by decide +kernel, rfl⟩ (by decide +kernel) hroom rfl rfl hrest (Nat.le_of_ble_eq_true rfl) hd (WP.mono (fun v h' q => P_contI v h' hk q) kk)
theorem V_TR_chanceOf {idx : Nat} {a1 a2 : Int} {K : Int → Hp → Prop} (hw : Cond.methodLink M.1 idx y_TR_chanceOf ∈ TB) (hd : decode M.2.1 pc = .ok (.invokevirtual idx, 3)) (hroom : M_TR_chanceOf.2.2.2.1 + 1 ≤ M.2.2.2.1 ∧ 8 + (M_TR_chanceOf.2.2.1 + 11) + M_TR_chanceOf.2.2.2.2.1 ≤ M.2.2.2.2.1) (hrest : (st.map fun v => v.category).sum ≤ 8) (kk : WP D ad ca none M_TR_chanceOf 0 [(0, .ref (ad 19)), (1, vI a1), (2, vI a2)] [] h (RI K)) (hk : ∀ r h', InR r → K r h' → WP D ad ca sc M (pc + 3) lv (vI r :: st) h' Q) : WP D ad ca sc M pc lv (vI a2 :: vI a1 :: .ref (ad 19) :: st) h Q :=
  P_invV (Mc := M_TR_chanceOf) (y := y_TR_chanceOf) (k := 19) (ci := 5) (fs := fs_TR ad (h 19)) (As := [vI a1, vI a2]) (rest := st) (n := 2) (by decide) rfl rfl (good_V hw tw_531 tw_532 tw_35 tw_533) ⟨by decide +kernel, rfl⟩ (by decide +kernel) hroom rfl rfl hrest (Nat.le_of_ble_eq_true rfl) hd (WP.mono (fun v h' q => P_contI v h' hk q) kk)
theorem V_TR_chanceByShares {idx : Nat} {a1 a2 : Int} {K : Int → Hp → Prop} (hw : Cond.methodLink M.1 idx y_TR_chanceByShares ∈ TB) (hd : decode M.2.1 pc = .ok (.invokevirtual idx, 3)) (hroom : M_TR_chanceByShares.2.2.2.1 + 1 ≤ M.2.2.2.1 ∧ 8 + (M_TR_chanceByShares.2.2.1 + 11) + M_TR_chanceByShares.2.2.2.2.1 ≤ M.2.2.2.2.1) (hrest : (st.map fun v => v.category).sum ≤ 8) (kk : WP D ad ca none M_TR_chanceByShares 0 [(0, .ref (ad 19)), (1, vI a1), (2, vI a2)] [] h (RI K)) (hk : ∀ r h', InR r → K r h' → WP D ad ca sc M (pc + 3) lv (vI r :: st) h' Q) : WP D ad ca sc M pc lv (vI a2 :: vI a1 :: .ref (ad 19) :: st) h Q :=
  P_invV (Mc := M_TR_chanceByShares) (y := y_TR_chanceByShares) (k := 19) (ci := 5) (fs := fs_TR ad (h 19)) (As := [vI a1, vI a2]) (rest := st) (n := 2) (by decide) rfl rfl (good_V hw tw_535 tw_536 tw_35 tw_537) ⟨by decide +kernel, rfl⟩ (by decide +kernel) hroom rfl rfl hrest (Nat.le_of_ble_eq_true rfl) hd (WP.mono (fun v h' q => P_contI v h' hk q) kk)
theorem V_TR_bestUnserved {idx : Nat} {a1 a2 : Int} {K : Int → Hp → Prop} (hw : Cond.methodLink M.1 idx y_TR_bestUnserved ∈ TB) (hd : decode M.2.1 pc = .ok (.invokevirtual idx, 3)) (hroom : M_TR_bestUnserved.2.2.2.1 + 1 ≤ M.2.2.2.1 ∧ 8 + (M_TR_bestUnserved.2.2.1 + 11) + M_TR_bestUnserved.2.2.2.2.1 ≤ M.2.2.2.2.1) (hrest : (st.map fun v => v.category).sum ≤ 8) (kk : WP D ad ca none M_TR_bestUnserved 0 [(0, .ref (ad 19)), (1, vI a1), (2, vI a2)] [] h (RI K)) (hk : ∀ r h', InR r → K r h' → WP D ad ca sc M (pc + 3) lv (vI r :: st) h' Q) : WP D ad ca sc M pc lv (vI a2 :: vI a1 :: .ref (ad 19) :: st) h Q :=
  P_invV (Mc := M_TR_bestUnserved) (y := y_TR_bestUnserved) (k := 19) (ci := 5) (fs := fs_TR ad (h 19)) (As := [vI a1, vI a2]) (rest := st) (n := 2) (by decide) rfl rfl (good_V hw tw_539 tw_540 tw_35 tw_541) ⟨by decide +kernel, rfl⟩ (by decide +kernel) hroom rfl rfl hrest (Nat.le_of_ble_eq_true rfl) hd (WP.mono (fun v h' q => P_contI v h' hk q) kk)
theorem V_TR_isBetter {idx : Nat} {a1 a2 a3 : Int} {K : Int → Hp → Prop} (hw : Cond.methodLink M.1 idx y_TR_isBetter ∈ TB) (hd : decode M.2.1 pc = .ok (.invokestatic idx, 3)) (hroom : M_TR_isBetter.2.2.2.1 + 1 ≤ M.2.2.2.1 ∧ 8 + (M_TR_isBetter.2.2.1 + 11) + M_TR_isBetter.2.2.2.2.1 ≤ M.2.2.2.2.1) (hrest : (st.map fun v => v.category).sum ≤ 8) (kk : WP D ad ca none M_TR_isBetter 0 [(0, vI a1), (1, vI a2), (2, vI a3)] [] h (RI K)) (hk : ∀ r h', InR r → K r h' → WP D ad ca sc M (pc + 3) lv (vI r :: st) h' Q) : WP D ad ca sc M pc lv (vI a3 :: vI a2 :: vI a1 :: st) h Q :=
  P_invS (Mc := M_TR_isBetter) (y := y_TR_isBetter) (As := [vI a1, vI a2, vI a3]) (rest := st) (n := 3) (good_S hw tw_543 tw_35 tw_544) ⟨by decide +kernel, rfl⟩ (by decide +kernel) hroom rfl rfl hrest (Nat.le_of_ble_eq_true rfl) hd (WP.mono (fun v h' q => P_contI v h' hk q) kk)
theorem V_Math_max {idx : Nat} {x y : Int} (hw : Cond.methodLink M.1 idx ⟨"java/lang/Math", "max", "(II)I"⟩ ∈ TB) (hd : decode M.2.1 pc = .ok (.invokestatic idx, 3)) (hroom : 1 ≤ M.2.2.2.1 ∧ 21 ≤ M.2.2.2.2.1) (hrest : (st.map fun v => v.category).sum ≤ 8) (hx : InR x) (hy : InR y) (kk : WP D ad ca sc M (pc + 3) lv (vI (max x y) :: st) h Q) : WP D ad ca sc M pc lv (vI y :: vI x :: st) h Q := by
  intro p l e R s m args below meth c A H locs cells slots Z ls hc hR hS hl hr
  have h1 := hc.2.2.2.2.2.2.2.1
  have h2 := hc.2.2.2.2.2.2.2.2.1
  refine va_mmax hc.1 hc.2.1 (hc.2.2.1.trans hl.1.symm) hc.2.2.2.1 (hc.2.2.2.2.2.2.1 _ hw) (hc.2.2.2.2.2.2.1 _ tw_370) (hc.2.2.2.2.2.2.1 _ tw_37) (hc.2.2.2.2.2.2.1 _ tw_371) (by omega) (by omega) hc.2.2.2.2.2.2.2.2.2.1 hc.2.2.2.2.2.2.2.2.2.2.1 hd ?_
  have e9 : (if Int32.ofInt x < Int32.ofInt y then Int32.ofInt y else Int32.ofInt x) = Int32.ofInt (max x y) := by
    by_cases q : Int32.ofInt x < Int32.ofInt y
    · rw [if_pos q]; congr 1; have := (ofI_lt hx hy).mp q; omega
    · rw [if_neg q]; congr 1; have : ¬ _ := fun z => q ((ofI_lt hx hy).mpr z); omega
  rw [e9]
  exact kk p l e R s m args below meth c A H locs cells slots Z ls hc hR hS hl hr
theorem V_Math_min {idx : Nat} {x y : Int} (hw : Cond.methodLink M.1 idx ⟨"java/lang/Math", "min", "(II)I"⟩ ∈ TB) (hd : decode M.2.1 pc = .ok (.invokestatic idx, 3)) (hroom : 1 ≤ M.2.2.2.1 ∧ 21 ≤ M.2.2.2.2.1) (hrest : (st.map fun v => v.category).sum ≤ 8) (hx : InR x) (hy : InR y) (kk : WP D ad ca sc M (pc + 3) lv (vI (min x y) :: st) h Q) : WP D ad ca sc M pc lv (vI y :: vI x :: st) h Q := by
  intro p l e R s m args below meth c A H locs cells slots Z ls hc hR hS hl hr
  have h1 := hc.2.2.2.2.2.2.2.1
  have h2 := hc.2.2.2.2.2.2.2.2.1
  refine va_mmin hc.1 hc.2.1 (hc.2.2.1.trans hl.1.symm) hc.2.2.2.1 (hc.2.2.2.2.2.2.1 _ hw) (hc.2.2.2.2.2.2.1 _ tw_271) (hc.2.2.2.2.2.2.1 _ tw_37) (hc.2.2.2.2.2.2.1 _ tw_272) (by omega) (by omega) hc.2.2.2.2.2.2.2.2.2.1 hc.2.2.2.2.2.2.2.2.2.2.1 hd ?_
  have e9 : (if Int32.ofInt y < Int32.ofInt x then Int32.ofInt y else Int32.ofInt x) = Int32.ofInt (min x y) := by
    by_cases q : Int32.ofInt y < Int32.ofInt x
    · rw [if_pos q]; congr 1; have := (ofI_lt hy hx).mp q; omega
    · rw [if_neg q]; congr 1; have : ¬ _ := fun z => q ((ofI_lt hy hx).mpr z); omega
  rw [e9]
  exact kk p l e R s m args below meth c A H locs cells slots Z ls hc hR hS hl hr
theorem V_Math_abs {idx : Nat} {x : Int} (hw : Cond.methodLink M.1 idx ⟨"java/lang/Math", "abs", "(I)I"⟩ ∈ TB) (hd : decode M.2.1 pc = .ok (.invokestatic idx, 3)) (hroom : 1 ≤ M.2.2.2.1 ∧ 21 ≤ M.2.2.2.2.1) (hrest : (st.map fun v => v.category).sum ≤ 8) (hx : InR x) (kk : WP D ad ca sc M (pc + 3) lv (vI (if 0 ≤ x then x else -x) :: st) h Q) : WP D ad ca sc M pc lv (vI x :: st) h Q := by
  intro p l e R s m args below meth c A H locs cells slots Z ls hc hR hS hl hr
  have h1 := hc.2.2.2.2.2.2.2.1
  have h2 := hc.2.2.2.2.2.2.2.2.1
  refine va_mabs hc.1 hc.2.1 (hc.2.2.1.trans hl.1.symm) hc.2.2.2.1 (hc.2.2.2.2.2.2.1 _ hw) (hc.2.2.2.2.2.2.1 _ tw_390) (hc.2.2.2.2.2.2.1 _ tw_37) (hc.2.2.2.2.2.2.1 _ tw_391) (by omega) (by omega) hc.2.2.2.2.2.2.2.2.2.1 hc.2.2.2.2.2.2.2.2.2.2.1 hd ?_
  have e9 : (if 0 ≤ Int32.ofInt x then Int32.ofInt x else 0 - Int32.ofInt x) = Int32.ofInt (if 0 ≤ x then x else -x) := by
    by_cases q : (0 : Int32) ≤ Int32.ofInt x
    · rw [if_pos q]; rw [ofI_0, ofI_le inR_0 hx] at q; rw [if_pos q]
    · rw [if_neg q]; rw [ofI_0, ofI_le inR_0 hx] at q; rw [if_neg q, ofI_0, ofI_sub]; congr 1; omega
  rw [e9]
  exact kk p l e R s m args below meth c A H locs cells slots Z ls hc hR hS hl hr
end PL
end
