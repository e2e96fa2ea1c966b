/-! the law from its entry -/
/-- the numbers with which both begin -/
def h00 : Hp := up (up (up (up (up (up (up (up (up (up (up (up (up (fun _ _ => 0) 0 8 3) 1 6 90) 8 0 (-1000005)) 20 0 (-6)) 21 0 100) 22 0 100) 19 8 1) 28 6 90) 28 15 3) 28 25 1) 40 0 (-6)) 41 0 100) 42 0 100
theorem h00_HR : HR h00 := HR_up (HR_up (HR_up (HR_up (HR_up (HR_up (HR_up (HR_up (HR_up (HR_up (HR_up (HR_up (HR_up (fun _ _ => ⟨by omega, fun _ => by omega⟩) ⟨by omega, fun _ => by omega⟩) ⟨by omega, fun _ => by omega⟩) ⟨by omega, fun _ => by omega⟩) ⟨by omega, fun _ => by omega⟩) ⟨by omega, fun _ => by omega⟩) ⟨by omega, fun _ => by omega⟩) ⟨by omega, fun _ => by omega⟩) ⟨by omega, fun _ => by omega⟩) ⟨by omega, fun _ => by omega⟩) ⟨by omega, fun _ => by omega⟩) ⟨by omega, fun _ => by omega⟩) ⟨by omega, fun _ => by omega⟩) ⟨by omega, fun _ => by omega⟩
theorem h00_Inv : Inv 0 h00 := by
  refine ⟨?_, ⟨rfl, ?_, rfl, ?_, ?_, ?_, ?_, ?_, Or.inl rfl, ?_⟩, ⟨?_, ?_, ?_⟩, ⟨rfl, ?_, ?_⟩, ⟨rfl, rfl, ?_, ?_, ?_, ?_, ?_, ?_, ?_, ?_⟩, ⟨rfl, ?_, rfl, rfl, ?_, ?_, ?_⟩⟩
  · show IvA 0 0 0 0 3 0 0 0 0 0 0 3 0 0 0
    unfold IvA; omega
  · show (0 : Int) ≤ 0 ∧ (0 : Int) ≤ 80
    omega
  · show (1 : Int) ≤ 90 ∧ (90 : Int) ≤ 100
    omega
  · intro i i0 i1
    have i1 : i < 6 * 0 := i1
    omega
  · intro i i0 i1
    have i1 : i < 6 * 0 := i1
    omega
  · intro i i0 i1
    have i1 : i < 0 := i1
    omega
  · exact IsLab.nil _ _
  · intro z
    exact absurd (show (0 : Int) = 1 from z) (by decide)
  · intro d d0 d1
    have d1 : d ≤ 0 := d1
    obtain rfl : d = 0 := by omega
    rfl
  · intro d d0 d1
    show ((0 : Int) = 0 ∨ (0 : Int) = 1) ∧ ((0 : Int) < d → (0 : Int) = 0) ∧ ((-10000 : Int) ≤ 0 ∧ (0 : Int) ≤ 10000)
    omega
  · intro d d0 d1
    show (0 : Int) = 0 ∧ ((0 : Int) ≤ 0 ∧ (0 : Int) ≤ 10000)
    omega
  · show (0 : Int) ≤ 0 ∧ (0 : Int) ≤ 8
    omega
  · intro i i0 i1
    have i1 : i < 0 := i1
    omega
  · show (0 : Int) ≤ 0 ∧ (0 : Int) ≤ 0
    omega
  · show (0 : Int) ≤ 0 ∧ (0 : Int) ≤ 0
    omega
  · show (0 : Int) ≤ 0 ∧ (0 : Int) ≤ 0 ∧ (0 : Int) + 0 = 0 ∧ (0 : Int) ≤ 200
    omega
  · show (0 : Int) ≤ 0 ∧ (0 : Int) ≤ 0
    omega
  · intro _
    exact ⟨rfl, rfl⟩
  · intro k k0 k1
    have k1 : k < 0 := k1
    omega
  · intro j j0 j1
    have j1 : j ≤ 0 := j1
    omega
  · intro j j0 j1
    have j1 : j ≤ 0 := j1
    omega
  · show (1 : Int) ≤ 1 ∧ (1 : Int) ≤ 24
    omega
  · intro i i0 i1
    have i1 : i < 1 := i1
    obtain rfl : i = 0 := by omega
    show ((-6 : Int) = -6 ∧ (100 : Int) = 100 ∧ (100 : Int) = 100 ∧ (0 : Int) = 0) ∧ ((0 : Int) ≤ 100 ∧ (100 : Int) ≤ 100 ∧ (100 : Int) ≤ 100) ∧ ((0 : Int) = 0 ∨ (0 : Int) = 1) ∧ ((0 : Int) ≤ 0 ∧ (0 : Int) ≤ 4) ∧ (0 : Int) = 0 ∧ (0 : Int) ≤ 6
    omega
  · intro i i0 i1
    have i1 : i < 1 := i1
    omega
  · intro i i0 i1
    exact ⟨rfl, rfl⟩
def adL (l : List Nat) : Nat → Nat := fun k => l.getD k 0
set_option maxRecDepth 100000 in
theorem world_eq (ca : Nat → ClassId) (x0 x1 x2 x3 x4 x5 x6 x7 x8 x9 x10 x11 x12 x13 x14 x15 x16 x17 x18 x19 x20 x21 x22 x23 x24 x25 x26 x27 y0 y1 y2 y3 y4 y5 y6 y7 y8 y9 y10 y11 y12 y13 y14 y15 y16 y17 : Nat) : ([(x0, .inr (0, [.ref x1, .ref x7, .ref x10, .ref x15, .ref x19, vI 0, vI 0, vI 0, vI 3, vI 0, vI 0, vI 0])), (x1, .inr (1, [.ref x2, .ref x3, .ref x4, .ref x5, .ref x6, vI 0, vI 90])), (x2, .inl (ca 0, aI 480 (fun _ => 0))), (x3, .inl (ca 0, aI 80 (fun _ => 0))), (x4, .inl (ca 0, aI 80 (fun _ => 0))), (x5, .inl (ca 0, aI 80 (fun _ => 0))), (x6, .inl (ca 0, aI 80 (fun _ => 0))), (x7, .inr (2, [.ref x8, .ref x9])), (x8, .inl (ca 0, aI 1000 (upf (fun _ => 0) 0 (-1000005)))), (x9, .inl (ca 0, aI 1000 (fun _ => 0))), (x10, .inr (3, [.ref x11, .ref x12, .ref x13, .ref x14, vI 0])), (x11, .inl (ca 0, aI 8 (fun _ => 0))), (x12, .inl (ca 0, aI 8 (fun _ => 0))), (x13, .inl (ca 0, aI 8 (fun _ => 0))), (x14, .inl (ca 0, aI 8 (fun _ => 0))), (x15, .inr (4, [.ref x16, .ref x17, .ref x18, vI 0, vI 0, vI 0, vI 0])), (x16, .inl (ca 0, aI 200 (fun _ => 0))), (x17, .inl (ca 0, aI 200 (fun _ => 0))), (x18, .inl (ca 0, aI 200 (fun _ => 0))), (x19, .inr (5, [.ref x20, .ref x21, .ref x22, .ref x23, .ref x24, .ref x25, .ref x26, .ref x27, vI 1])), (x20, .inl (ca 0, aI 24 (upf (fun _ => 0) 0 (-6)))), (x21, .inl (ca 0, aI 24 (upf (fun _ => 0) 0 100))), (x22, .inl (ca 0, aI 24 (upf (fun _ => 0) 0 100))), (x23, .inl (ca 0, aI 24 (fun _ => 0))), (x24, .inl (ca 0, aI 24 (fun _ => 0))), (x25, .inl (ca 1, aI 24 (fun _ => 0))), (x26, .inl (ca 0, aI 24 (fun _ => 0))), (x27, .inl (ca 1, aI 24 (fun _ => 0)))] ++ [(y0, .inr (6, [vI 0, vI 0, .ref y1, .ref y2, .ref y3, vI 0, vI 90, .ref y4, .ref y5, .ref y6, vI 0, .ref y7, .ref y8, .ref y9, .ref y10, vI 3, vI 0, vI 0, vI 0, vI 0, vI 0, .ref y11, vI 0, vI 0, vI 0, vI 1, .ref y12, .ref y13, .ref y14, .ref y15, .ref y16, .ref y17])), (y1, .inl (ca 0, aI 80 (fun _ => 0))), (y2, .inl (ca 0, aI 480 (fun _ => 0))), (y3, .inl (ca 0, aI 80 (fun _ => 0))), (y4, .inl (ca 1, aI 1000 (fun _ => 0))), (y5, .inl (ca 0, aI 1000 (fun _ => 0))), (y6, .inl (ca 0, aI 1000 (fun _ => 0))), (y7, .inl (ca 0, aI 8 (fun _ => 0))), (y8, .inl (ca 0, aI 8 (fun _ => 0))), (y9, .inl (ca 0, aI 8 (fun _ => 0))), (y10, .inl (ca 0, aI 8 (fun _ => 0))), (y11, .inl (ca 0, aI 1000 (fun _ => 0))), (y12, .inl (ca 0, aI 24 (upf (fun _ => 0) 0 (-6)))), (y13, .inl (ca 0, aI 24 (upf (fun _ => 0) 0 100))), (y14, .inl (ca 0, aI 24 (upf (fun _ => 0) 0 100))), (y15, .inl (ca 1, aI 24 (fun _ => 0))), (y16, .inl (ca 2, aL 24 (fun _ => 0))), (y17, .inl (ca 1, aI 24 (fun _ => 0)))] : va_W) = wsH (adL [x0, x1, x2, x3, x4, x5, x6, x7, x8, x9, x10, x11, x12, x13, x14, x15, x16, x17, x18, x19, x20, x21, x22, x23, x24, x25, x26, x27, y0, y1, y2, y3, y4, y5, y6, y7, y8, y9, y10, y11, y12, y13, y14, y15, y16, y17]) ca h00 := rfl
theorem dl_0 : decode code 0 = .ok (.new 7, 3) := by decide +kernel
theorem dl_3 : decode code 3 = .ok (.dup, 1) := by decide +kernel
theorem dl_4 : decode code 4 = .ok (.invokespecial 9, 3) := by decide +kernel
theorem dl_7 : decode code 7 = .ok (.astore_n 1, 1) := by decide +kernel
theorem dl_8 : decode code 8 = .ok (.new 10, 3) := by decide +kernel
theorem dl_11 : decode code 11 = .ok (.dup, 1) := by decide +kernel
theorem dl_12 : decode code 12 = .ok (.invokespecial 12, 3) := by decide +kernel
theorem dl_15 : decode code 15 = .ok (.astore_n 2, 1) := by decide +kernel
theorem dl_16 : decode code 16 = .ok (.iconst 0, 1) := by decide +kernel
theorem dl_17 : decode code 17 = .ok (.istore_n 3, 1) := by decide +kernel
theorem arr_of {s : State} {args : Array Value} {ty : FieldType} (h : (Cond.arrayClass ty).before args s = true) (hp : ∀ C, ty ≠ .object C) : ∃ cA : ClassId, ArrOfT s cA ty ∧ va_RA s cA ty := by
  obtain ⟨cA, kA, comp, h1, h2, h3⟩ := Cond.arrayClass_spec h
  refine ⟨cA, fun n z => ⟨fun k h => (by cases h), kA, h2, comp, h3⟩, ?_⟩
  cases ty with
  | object C => exact absurd rfl (hp C)
  | _ => exact h1
set_option maxHeartbeats 4000000 in
set_option maxRecDepth 100000 in
theorem whole_start {p : Program} {e : Env} {s : State} {m : MethodId} {below : List Frame} {meth : Method} {c : Code} (l : Launch) {b L : Nat} {xs : Nat → Int32} (hL : L ≤ 2560) (C0 : lw_At p s m meth c b L xs) : W p l e room_1 s m #[Value.ref b] below meth c s.heap [] 0 0 (lw_Z below #[Value.ref b] s) (entryFrame m ([Value.ref b] : List Value).toArray 4) := by
  obtain ⟨hx, hb, hr, hml, hown, hts0, hX, hbl, hlocks, hgv⟩ := C0
  have hts := TB_of hts0
  have hA : ∀ q : Nat, s.heap.size ≤ q → (fun q : Nat => s.heap.size ≤ q) q := fun _ h => h
  have hbA : ¬ (fun q : Nat => s.heap.size ≤ q) b := Nat.not_le.mpr hbl
  obtain ⟨c0, s0, hk0⟩ := u_known (C := R_MW) (T := F_MW) (N := 12) (n := 12) hts i_MW (hts0 (.instantiable "MountainWatch" 12) (List.mem_of_getElem? (i := 39) (by decide +kernel)))
  obtain ⟨c1, s1, hk1⟩ := u_known (C := R_SH) (T := F_SH) (N := 7) (n := 7) hts i_SH (hts0 (.instantiable "MountainWatch$Shakes" 7) (List.mem_of_getElem? (i := 47) (by decide +kernel)))
  obtain ⟨c2, s2, hk2⟩ := u_known (C := R_RE) (T := F_RE) (N := 2) (n := 2) hts i_RE (hts0 (.instantiable "MountainWatch$Readings" 2) (List.mem_of_getElem? (i := 81) (by decide +kernel)))
  obtain ⟨c3, s3, hk3⟩ := u_known (C := R_LA) (T := F_LA) (N := 5) (n := 5) hts i_LA (hts0 (.instantiable "MountainWatch$Laws" 5) (List.mem_of_getElem? (i := 97) (by decide +kernel)))
  obtain ⟨c4, s4, hk4⟩ := u_known (C := R_ME) (T := F_ME) (N := 7) (n := 7) hts i_ME (hts0 (.instantiable "MountainWatch$Messages" 7) (List.mem_of_getElem? (i := 124) (by decide +kernel)))
  obtain ⟨c5, s5, hk5⟩ := u_known (C := R_TR) (T := F_TR) (N := 9) (n := 9) hts i_TR (hts0 (.instantiable "MountainWatch$Tree" 9) (List.mem_of_getElem? (i := 157) (by decide +kernel)))
  obtain ⟨c6, s6, hk6⟩ := u_known (C := R_MO) (T := F_MO) (N := 32) (n := 32) hts i_MO (hts0 (.instantiable "MountainWatchModel" 32) (List.mem_of_getElem? (i := 553) (by decide +kernel)))
  obtain ⟨dC, dI, hKc⟩ : ∃ (dC : Nat → ClassId) (dI : Nat → Nat → Nat), ∀ (k : Nat) (q : vw_C), classes[k]? = some q → u_Kn s q.1 q.2.1 q.2.2 (dC k) (dI k) := by
    refine ⟨fun k => match k with | 0 => c0 | 1 => c1 | 2 => c2 | 3 => c3 | 4 => c4 | 5 => c5 | _ => c6, fun k => match k with | 0 => s0 | 1 => s1 | 2 => s2 | 3 => s3 | 4 => s4 | 5 => s5 | _ => s6, ?_⟩
    intro k q hq
    match k, hq with
    | 0, hq => cases hq; exact hk0
    | 1, hq => cases hq; exact hk1
    | 2, hq => cases hq; exact hk2
    | 3, hq => cases hq; exact hk3
    | 4, hq => cases hq; exact hk4
    | 5, hq => cases hq; exact hk5
    | 6, hq => cases hq; exact hk6
    | k + 7, hq => simp [classes] at hq
  obtain ⟨ca0, ha0⟩ := arr_of (hts0 (.arrayClass .int) (List.mem_of_getElem? (i := 79) (by decide +kernel))) (fun C h => by cases h)
  obtain ⟨ca1, ha1⟩ := arr_of (hts0 (.arrayClass .boolean) (List.mem_of_getElem? (i := 197) (by decide +kernel))) (fun C h => by cases h)
  obtain ⟨ca2, ha2⟩ := arr_of (hts0 (.arrayClass .long) (List.mem_of_getElem? (i := 655) (by decide +kernel))) (fun C h => by cases h)
  obtain ⟨ca, hca⟩ : ∃ ca : Nat → ClassId, ca 0 = ca0 ∧ ca 1 = ca1 ∧ ca 2 = ca2 := ⟨fun k => match k with | 0 => ca0 | 1 => ca1 | _ => ca2, rfl, rfl, rfl⟩
  have hK : va_K (dC, dI) classes (tysC ca) s := by
    refine ⟨hKc, fun k q hq => ?_⟩
    match k, hq with
    | 0, hq => cases hq; rw [hca.1]; exact ha0
    | 1, hq => cases hq; rw [hca.2.1]; exact ha1
    | 2, hq => cases hq; rw [hca.2.2]; exact ha2
    | k + 3, hq => simp [tysC] at hq
  have hn0 : va_Nw (.methodLinkNest "MountainWatch" 9 y_SH_init "MountainWatch") s := va_Nw.of rfl (hts0 _ (List.mem_of_getElem? (i := 48) (by decide +kernel)))
  have hn1 : va_Nw (.methodLinkNest "MountainWatch" 25 y_LA_init "MountainWatch") s := va_Nw.of rfl (hts0 _ (List.mem_of_getElem? (i := 98) (by decide +kernel)))
  have hn2 : va_Nw (.methodLinkNest "MountainWatch" 32 y_ME_init "MountainWatch") s := va_Nw.of rfl (hts0 _ (List.mem_of_getElem? (i := 125) (by decide +kernel)))
  have hNw : NWn s := ⟨hn0, hn1, hn2⟩
  have hS : va_S (fun q : Nat => s.heap.size ≤ q) s.heap s.heap [] := va_S.rf
  have hP : va_P (dC, dI) classes [] s.heap := fun k q h => by simp at h
  have hD : va_D (fun q : Nat => s.heap.size ≤ q) [] := ⟨fun i j p q h => by simp at h, fun k q h => by simp at h⟩
  have hl := lv_entry ([.ref b]) (n := 4) (Nat.le_of_ble_eq_true rfl)
  rw [lg_entry_eq]
  generalize (lg_sl ([.ref b]) ++ List.replicate (4 - (lg_sl ([.ref b])).length) Slot.unset).toArray = ls at hl ⊢
  have hl : lv_has ls 4 [(0, .ref b)] := hl
  have hGm : ∀ {y : MethodName} {Mc : MI}, Cond.code y Mc.2.1 Mc.2.2.1 Mc.2.2.2.2.2 ∈ TB → GoodIn TB (wsM y Mc) := fun hw4 w hw => TB_good w (by
    rcases List.mem_cons.mp hw with e | h
    · rw [e]; exact hw4
    · exact h)
  refine va_new (ci := 0) (fs := [.null, .null, .null, .null, .null, vI 0, vI 0, vI 0, vI 0, vI 0, vI 0, vI 0]) (C := R_MW) (T := F_MW) (N := 12) hx hb hts i_MW t_MW t_MW_ok hown (hts _ tw_38) (hts _ tw_39) (hts _ tw_30) hK hP hD hS hA rfl (fun j hj => by rcases (show j = 0 ∨ j = 1 ∨ j = 2 ∨ j = 3 ∨ j = 4 ∨ j = 5 ∨ j = 6 ∨ j = 7 ∨ j = 8 ∨ j = 9 ∨ j = 10 ∨ j = 11 by omega) with rfl | rfl | rfl | rfl | rfl | rfl | rfl | rfl | rfl | rfl | rfl | rfl <;> rfl) (Nat.le_of_ble_eq_true rfl) (Nat.le_of_ble_eq_true rfl) dl_0 (fun x0 H hP hD hS => ?_)
  refine W.widen (k := 1) (n := 12) (by omega) (by omega) ?_
  refine lv_dup hx hb dl_3 rfl ?_
  have hPc := hP.sub (ws' := [(x0, .inr (0, [.null, .null, .null, .null, .null, vI 0, vI 0, vI 0, vI 0, vI 0, vI 0, vI 0]))]) [0] rfl
  have hDc := hD.sub (ws' := [(x0, .inr (0, [.null, .null, .null, .null, .null, vI 0, vI 0, vI 0, vI 0, vI 0, vI 0, vI 0]))]) [0] (by decide) rfl
  have hFc := va_free (wc := [(x0, .inr (0, [.null, .null, .null, .null, .null, vI 0, vI 0, vI 0, vI 0, vI 0, vI 0, vI 0]))]) hD hS hA [0] rfl
  refine va_callv (va_runI (As := []) (rest := [.ref x0]) ⟨hx, hb, hml, hown, hts⟩ (metN_of (Mc := M_MW_init) (y := y_MW_init) (sz := H.size) l (by decide +kernel) rfl rfl rfl rfl (I_MW x0)) (cwI 0 hts (hGm tw_42) rfl rfl rfl (hts _ tw_30) (hts _ tw_40) (hts _ tw_41) rfl (by decide +kernel) ⟨Nat.le_of_ble_eq_true rfl, Nat.le_of_ble_eq_true rfl⟩) ⟨PcN_blind _ _ _, fun U hU hW => ⟨rfl, by rw [hU], by rw [hU]; exact hPc, va_K.moved hW.alike hK, hDc.weaken (fun _ _ _ _ => trivial), hNw.warm hW⟩⟩ rfl rfl hl.1 rfl (lv_room (Nat.le_of_ble_eq_true rfl)) dl_4 ⟨Nat.le_of_ble_eq_true rfl, Nat.le_of_ble_eq_true rfl⟩) hS (fun q _ h => hFc q h) hFc (fun u t H1 locs1 ht hvm hq hB hz1 hk1 hS1 => ?_)
  obtain ⟨hP1, hD1⟩ := hB
  rw [ht] at hP1
  obtain ⟨hP2, hD2⟩ := nj (wr := []) hP hD hk1 hFc hP1 hD1
  obtain ⟨x1, x2, x3, x4, x5, x6, x7, x8, x9, x10, x11, x12, x13, x14, x15, x16, x17, x18, x19, x20, x21, x22, x23, x24, x25, x26, x27, rfl⟩ := hq
  clear hP hD hS hPc hDc hFc hk1 hP1 hD1
  refine W.widen (k := 28) (n := 3666) (by omega) (by omega) ?_
  refine lv_astore_n (lv' := [(1, .ref x0), (0, .ref b)]) hx hb dl_7 rfl hl (by decide) rfl (fun ls hl => ?_)
  refine va_new (ci := 6) (fs := [vI 0, vI 0, .null, .null, .null, vI 0, vI 0, .null, .null, .null, vI 0, .null, .null, .null, .null, vI 0, vI 0, vI 0, vI 0, vI 0, vI 0, .null, vI 0, vI 0, vI 0, vI 0, .null, .null, .null, .null, .null, .null]) (C := R_MO) (T := F_MO) (N := 32) hx hb hts i_MO t_MO t_MO_ok hown (hts _ tw_552) (hts _ tw_553) (hts _ tw_36) hK hP2 hD2 hS1 hA rfl (fun j hj => by rcases (show j = 0 ∨ j = 1 ∨ j = 2 ∨ j = 3 ∨ j = 4 ∨ j = 5 ∨ j = 6 ∨ j = 7 ∨ j = 8 ∨ j = 9 ∨ j = 10 ∨ j = 11 ∨ j = 12 ∨ j = 13 ∨ j = 14 ∨ j = 15 ∨ j = 16 ∨ j = 17 ∨ j = 18 ∨ j = 19 ∨ j = 20 ∨ j = 21 ∨ j = 22 ∨ j = 23 ∨ j = 24 ∨ j = 25 ∨ j = 26 ∨ j = 27 ∨ j = 28 ∨ j = 29 ∨ j = 30 ∨ j = 31 by omega) with rfl | rfl | rfl | rfl | rfl | rfl | rfl | rfl | rfl | rfl | rfl | rfl | rfl | rfl | rfl | rfl | rfl | rfl | rfl | rfl | rfl | rfl | rfl | rfl | rfl | rfl | rfl | rfl | rfl | rfl | rfl | rfl <;> rfl) (Nat.le_of_ble_eq_true rfl) (Nat.le_of_ble_eq_true rfl) dl_8 (fun y0 H hP hD hS => ?_)
  refine W.widen (k := 29) (n := 3698) (by omega) (by omega) ?_
  refine lv_dup hx hb dl_11 rfl ?_
  have hPc := hP.sub (ws' := [(y0, .inr (6, [vI 0, vI 0, .null, .null, .null, vI 0, vI 0, .null, .null, .null, vI 0, .null, .null, .null, .null, vI 0, vI 0, vI 0, vI 0, vI 0, vI 0, .null, vI 0, vI 0, vI 0, vI 0, .null, .null, .null, .null, .null, .null]))]) [28] rfl
  have hDc := hD.sub (ws' := [(y0, .inr (6, [vI 0, vI 0, .null, .null, .null, vI 0, vI 0, .null, .null, .null, vI 0, .null, .null, .null, .null, vI 0, vI 0, vI 0, vI 0, vI 0, vI 0, .null, vI 0, vI 0, vI 0, vI 0, .null, .null, .null, .null, .null, .null]))]) [28] (by decide) rfl
  have hFc := va_free (wc := [(y0, .inr (6, [vI 0, vI 0, .null, .null, .null, vI 0, vI 0, .null, .null, .null, vI 0, .null, .null, .null, .null, vI 0, vI 0, vI 0, vI 0, vI 0, vI 0, .null, vI 0, vI 0, vI 0, vI 0, .null, .null, .null, .null, .null, .null]))]) hD hS hA [28] rfl
  refine va_callv (va_runI (As := []) (rest := [.ref y0]) ⟨hx, hb, hml, hown, hts⟩ (metN_of (Mc := M_MO_init) (y := y_MO_init) (sz := H.size) l (by decide +kernel) rfl rfl rfl rfl (I_MO y0)) (cwI 0 hts (hGm tw_556) rfl rfl rfl (hts _ tw_36) (hts _ tw_554) (hts _ tw_555) rfl (by decide +kernel) ⟨Nat.le_of_ble_eq_true rfl, Nat.le_of_ble_eq_true rfl⟩) ⟨PcN_blind _ _ _, fun U hU hW => ⟨rfl, by rw [hU], by rw [hU]; exact hPc, va_K.moved hW.alike hK, hDc.weaken (fun _ _ _ _ => trivial), hNw.warm hW⟩⟩ rfl rfl hl.1 rfl (lv_room (Nat.le_of_ble_eq_true rfl)) dl_12 ⟨Nat.le_of_ble_eq_true rfl, Nat.le_of_ble_eq_true rfl⟩) hS (fun q _ h => hFc q h) hFc (fun u t H2 locs2 ht hvm hq hB hz1 hk1 hS2 => ?_)
  obtain ⟨hP1, hD1⟩ := hB
  rw [ht] at hP1
  obtain ⟨hP3, hD3⟩ := nj hP hD hk1 hFc hP1 hD1
  obtain ⟨y1, y2, y3, y4, y5, y6, y7, y8, y9, y10, y11, y12, y13, y14, y15, y16, y17, rfl⟩ := hq
  clear hP hD hS hPc hDc hFc hk1 hP1 hD1 hP2 hD2 hS1
  refine W.widen (k := 46) (n := 8514) (by omega) (by omega) ?_
  refine lv_astore_n (lv' := [(2, .ref y0), (1, .ref x0), (0, .ref b)]) hx hb dl_15 rfl hl (by decide) rfl (fun ls hl => ?_)
  refine lv_iconst (v := Int32.ofInt 0) hx hb dl_16 rfl ?_
  refine lv_istore_n (lv' := [(3, vI 0), (2, .ref y0), (1, .ref x0), (0, .ref b)]) hx hb dl_17 rfl hl (by decide) rfl (fun ls hl => ?_)
  have ew := world_eq ca x0 x1 x2 x3 x4 x5 x6 x7 x8 x9 x10 x11 x12 x13 x14 x15 x16 x17 x18 x19 x20 x21 x22 x23 x24 x25 x26 x27 y0 y1 y2 y3 y4 y5 y6 y7 y8 y9 y10 y11 y12 y13 y14 y15 y16 y17
  have hP4 : va_P (dC, dI) classes (wsH (adL [x0, x1, x2, x3, x4, x5, x6, x7, x8, x9, x10, x11, x12, x13, x14, x15, x16, x17, x18, x19, x20, x21, x22, x23, x24, x25, x26, x27, y0, y1, y2, y3, y4, y5, y6, y7, y8, y9, y10, y11, y12, y13, y14, y15, y16, y17]) ca h00) H2 := ew ▸ hP3
  have hD4 : va_D (fun q : Nat => s.heap.size ≤ q) (wsH (adL [x0, x1, x2, x3, x4, x5, x6, x7, x8, x9, x10, x11, x12, x13, x14, x15, x16, x17, x18, x19, x20, x21, x22, x23, x24, x25, x26, x27, y0, y1, y2, y3, y4, y5, y6, y7, y8, y9, y10, y11, y12, y13, y14, y15, y16, y17]) ca h00) := ew ▸ hD3
  have hl : lv_has ls 4 [(0, .ref b), (1, .ref (adL [x0, x1, x2, x3, x4, x5, x6, x7, x8, x9, x10, x11, x12, x13, x14, x15, x16, x17, x18, x19, x20, x21, x22, x23, x24, x25, x26, x27, y0, y1, y2, y3, y4, y5, y6, y7, y8, y9, y10, y11, y12, y13, y14, y15, y16, y17] 0)), (2, .ref (adL [x0, x1, x2, x3, x4, x5, x6, x7, x8, x9, x10, x11, x12, x13, x14, x15, x16, x17, x18, x19, x20, x21, x22, x23, x24, x25, x26, x27, y0, y1, y2, y3, y4, y5, y6, y7, y8, y9, y10, y11, y12, y13, y14, y15, y16, y17] 28)), (3, vI 0)] := lv_sub hl [3, 2, 1, 0] rfl
  clear hP3 hD3 ew
  generalize adL [x0, x1, x2, x3, x4, x5, x6, x7, x8, x9, x10, x11, x12, x13, x14, x15, x16, x17, x18, x19, x20, x21, x22, x23, x24, x25, x26, x27, y0, y1, y2, y3, y4, y5, y6, y7, y8, y9, y10, y11, y12, y13, y14, y15, y16, y17] = ad at hP4 hD4 hl
  have hgo := law_loop (D := (dC, dI)) (ad := ad) (ca := ca) (sc := some (b, L, xs)) (Q := fun v _ => v = some (vI 1)) (b := b) (L := L) (xs := xs) rfl hL (fun _ => rfl) L 0 0 h00 h00_Inv (by omega) (by omega) (by omega) (by omega)
  refine hgo p l e room_1 s m #[Value.ref b] below meth c (fun q : Nat => s.heap.size ≤ q) H2 locs2 46 8514 (lw_Z below #[Value.ref b] s) ls ⟨hx, hb, hml, hown, hr, hlocks, hts, Nat.le_refl _, Nat.le_refl _, Nat.le_refl _, Nat.le_refl _, hK, fun i j hi hj eij => ?_, fun k hk => ?_, fun b2 L2 xs2 eq2 => ?_⟩ ⟨hP4, h00_HR⟩ hS2 hl ?_
  · exact hD4.1 i j _ _ (wsH_at hi) (wsH_at hj) eij
  · exact hD4.2 k _ (wsH_at hk)
  · cases eq2
    exact ⟨hX, hbl, hbA⟩
  · intro v h' H' locs' ls' pc' hq hR' hS' hrt
    subst hq
    rcases hrt with ⟨y, ty, e1, hd, ht, hn⟩ | ⟨y, e1, hd, ht⟩ | ⟨e1, hd, ht⟩
    · refine va_forget (fun q hq => hS'.2.2 q hq) ?_
      exact lw_ret hx hb hr hlocks hd
    · cases e1
    · cases e1
