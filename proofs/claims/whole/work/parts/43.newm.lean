/-! constructors: the machine while cells are made; a world is a list of cells -/
def NWn (s : State) : Prop := va_Nw (.methodLinkNest "MountainWatch" 9 y_SH_init "MountainWatch") s ∧ va_Nw (.methodLinkNest "MountainWatch" 25 y_LA_init "MountainWatch") s ∧ va_Nw (.methodLinkNest "MountainWatch" 32 y_ME_init "MountainWatch") s
def NC (D : va_G) (ca : Nat → ClassId) (M : MI) (p : Program) (R : Room) (s : State) (m : MethodId) (args : Array Value) (meth : Method) (c : Code) (A : Nat → Prop) : Prop :=
  p.tables.exec = Jvm.exec ∧ c.code = M.2.1 ∧ c.maxLocals = M.2.2.1 ∧ s.vm.findClass M.1 = some m.cls ∧ meth.name = "<init>" ∧ (∀ w ∈ TB, w.before args s = true) ∧ M.2.2.2.1 ≤ R.frames ∧ M.2.2.2.2.1 ≤ R.locals ∧ va_K D classes (tysC ca) s ∧ (∀ q, s.heap.size ≤ q → A q) ∧ NWn s
def WN (D : va_G) (ca : Nat → ClassId) (M : MI) (MC MS : Nat) (pc : Nat) (lv : List (Nat × Value)) (st : List Value) (ws : va_W) (cells slots : Nat) (Q : va_W → Prop) : Prop :=
  ∀ (p : Program) (l : Launch) (e : Env) (R : Room) (s : State) (m : MethodId) (args : Array Value) (below : List Frame) (meth : Method) (c : Code) (A : Nat → Prop) (H : Heap) (locs : List Loc) (Z : State → Prop) (ls : Array Slot),
    NC D ca M p R s m args meth c A → MC ≤ R.cells → MS ≤ R.slots → va_P D classes ws H → va_D A ws → va_S A s.heap H locs → lv_has ls M.2.2.1 lv →
    (∀ (ws' : va_W) (H' : Heap) (locs' : List Loc) (ls' : Array Slot) (pc' : Nat), Q ws' → va_P D classes ws' H' → va_D A ws' → va_S A s.heap H' locs' → decode M.2.1 pc' = .ok (.return_, 1) → W p l e R s m args below meth c H' locs' MC MS Z (F0 m pc' ls' [])) →
    W p l e R s m args below meth c H locs cells slots Z (F0 m pc ls st)
theorem nj {D : va_G} {cl : List vw_C} {A0 : Nat → Prop} {wr w1 : va_W} {x : Nat × va_E} {H H1 : Heap} (hP : va_P D cl (wr ++ [x]) H) (hD : va_D A0 (wr ++ [x])) (hk : ∀ q : Nat, q < H.size → ¬ va_A [x] H.size q → H1[q]? = H[q]?) (hF : ∀ q, va_A [x] H.size q → A0 q) (hP1 : va_P D cl w1 H1) (hD1 : va_D (va_A [x] H.size) w1) : va_P D cl (wr ++ w1) H1 ∧ va_D A0 (wr ++ w1) := by
  have inl : ∀ (k : Nat) (q : Nat × va_E), wr[k]? = some q → (wr ++ [x])[k]? = some q := by
    intro k q hq
    have hl := (List.getElem?_eq_some_iff.mp hq).1
    rw [List.getElem?_append_left hl]; exact hq
  have hx : (wr ++ [x])[wr.length]? = some x := by simp
  have apart : ∀ (k : Nat) (q : Nat × va_E), wr[k]? = some q → q.1 < H.size ∧ ¬ va_A [x] H.size q.1 := by
    intro k q hq
    have hl := (hP k q (inl k q hq)).lt
    refine ⟨hl, fun z => ?_⟩
    rcases z with ⟨k2, e, z⟩ | z
    · have hz : k2 < 1 := (List.getElem?_eq_some_iff.mp z).1
      rw [show k2 = 0 by omega] at z
      have ex : x = (q.1, e) := Option.some.inj z
      have := hD.1 k wr.length q x (inl k q hq) hx (by rw [ex])
      have hk2 := (List.getElem?_eq_some_iff.mp hq).1
      omega
    · omega
  refine ⟨va_P.app (fun k q hq => ?_) hP1, va_D.app ⟨fun i j a b ha hb => hD.1 i j a b (inl i a ha) (inl j b hb), fun k q hq => hD.2 k q (inl k q hq)⟩ (hD1.weaken (fun k q _ h => hF q.1 h)) (fun i j a b ha hb hab => ?_)⟩
  · obtain ⟨g1, g2⟩ := apart k q hq
    exact (hP k q (inl k q hq)).kept (hk q.1 g1 g2)
  · exact (apart i a ha).2 (by rw [hab]; exact hD1.2 j b hb)
section NM
variable {D : va_G} {ca : Nat → ClassId} {M : MI} {MC MS : Nat} {pc : Nat} {lv : List (Nat × Value)} {st : List Value} {ws : va_W} {cells slots : Nat} {Q : va_W → Prop}
theorem N_aload0 {x : Nat} (hd : decode M.2.1 pc = .ok (.aload_n 0, 1)) (hp : lv[0]? = some (0, .ref x)) (k : WN D ca M MC MS (pc + 1) lv (.ref x :: st) ws cells slots Q) : WN D ca M MC MS pc lv st ws cells slots Q :=
  fun p l e R s m args below meth c A H locs Z ls hc hC hS0 hP hD hS hl hr => lv_aload_n hc.1 hc.2.1 hd rfl (lv_at hl 0 hp) (k p l e R s m args below meth c A H locs Z ls hc hC hS0 hP hD hS hl hr)
theorem N_dup {v : Value} (hd : decode M.2.1 pc = .ok (.dup, 1)) (hv : v.category = 1) (k : WN D ca M MC MS (pc + 1) lv (v :: v :: st) ws cells slots Q) : WN D ca M MC MS pc lv (v :: st) ws cells slots Q :=
  fun p l e R s m args below meth c A H locs Z ls hc hC hS0 hP hD hS hl hr => lv_dup hc.1 hc.2.1 hd hv (k p l e R s m args below meth c A H locs Z ls hc hC hS0 hP hD hS hl hr)
theorem N_iconst {n : Int} (hd : decode M.2.1 pc = .ok (.iconst n, 1)) (k : WN D ca M MC MS (pc + 1) lv (vI n :: st) ws cells slots Q) : WN D ca M MC MS pc lv st ws cells slots Q :=
  fun p l e R s m args below meth c A H locs Z ls hc hC hS0 hP hD hS hl hr => lv_iconst hc.1 hc.2.1 hd rfl (k p l e R s m args below meth c A H locs Z ls hc hC hS0 hP hD hS hl hr)
theorem N_bipush {n : Int} (hd : decode M.2.1 pc = .ok (.bipush n, 2)) (hv : (Int8.ofInt n).toInt32 = Int32.ofInt n) (k : WN D ca M MC MS (pc + 2) lv (vI n :: st) ws cells slots Q) : WN D ca M MC MS pc lv st ws cells slots Q :=
  fun p l e R s m args below meth c A H locs Z ls hc hC hS0 hP hD hS hl hr => lv_bipush hc.1 hc.2.1 hd hv (k p l e R s m args below meth c A H locs Z ls hc hC hS0 hP hD hS hl hr)
theorem N_sipush {n : Int} (hd : decode M.2.1 pc = .ok (.sipush n, 3)) (hv : (Int16.ofInt n).toInt32 = Int32.ofInt n) (k : WN D ca M MC MS (pc + 3) lv (vI n :: st) ws cells slots Q) : WN D ca M MC MS pc lv st ws cells slots Q :=
  fun p l e R s m args below meth c A H locs Z ls hc hC hS0 hP hD hS hl hr => lv_sipush hc.1 hc.2.1 hd hv (k p l e R s m args below meth c A H locs Z ls hc hC hS0 hP hD hS hl hr)
theorem N_ldc {idx : Nat} {x : Int32} {n : Int} (hw : Cond.constant M.1 idx x ∈ TB) (hn : x = Int32.ofInt n) (hd : decode M.2.1 pc = .ok (.ldc idx, 2)) (k : WN D ca M MC MS (pc + 2) lv (vI n :: st) ws cells slots Q) : WN D ca M MC MS pc lv st ws cells slots Q := by
  subst hn
  exact fun p l e R s m args below meth c A H locs Z ls hc hC hS0 hP hD hS hl hr => lv_ldc hc.1 hc.2.1 hc.2.2.2.1 (hc.2.2.2.2.2.1 _ hw) hd (k p l e R s m args below meth c A H locs Z ls hc hC hS0 hP hD hS hl hr)
theorem N_obj {idx x : Nat} (hw1 : Cond.methodLink M.1 idx Lib.objectInit ∈ TB) (hw2 : Cond.instanceMethod Lib.objectInit ∈ TB) (hw3 : Cond.code Lib.objectInit ⟨#[0xb1]⟩ 1 none ∈ TB) (hroom : 1 ≤ M.2.2.2.1 ∧ 12 ≤ M.2.2.2.2.1) (hd : decode M.2.1 pc = .ok (.invokespecial idx, 3)) (k : WN D ca M MC MS (pc + 3) lv [] ws cells slots Q) : WN D ca M MC MS pc lv [.ref x] ws cells slots Q :=
  fun p l e R s m args below meth c A H locs Z ls hc hC hS0 hP hD hS hl hr => W.objInit hc.1 hc.2.1 hc.2.2.2.1 (hc.2.2.2.2.2.1 _ hw1) (hc.2.2.2.2.2.1 _ hw2) (hc.2.2.2.2.2.1 _ hw3) rfl (hl.1.trans hc.2.2.1.symm) rfl hd (Nat.le_trans hroom.1 hc.2.2.2.2.2.2.1) (Nat.le_trans hroom.2 hc.2.2.2.2.2.2.2.1) (k p l e R s m args below meth c A H locs Z ls hc hC hS0 hP hD hS hl hr)
theorem N_newI {n : Int} {N' : Nat} (hw : Cond.arrayClass .int ∈ TB) (hn : ¬ Int32.ofInt n < 0) (hN : (Int32.ofInt n).toNatClampNeg = N') (hb : N' * componentBytes .int ≤ 536870912) (hc1 : cells + 1 ≤ MC) (hs1 : slots + N' ≤ MS) (hd : decode M.2.1 pc = .ok (.newarray .int, 2)) (k : ∀ q : Nat, WN D ca M MC MS (pc + 2) lv (.ref q :: st) (ws ++ [(q, .inl (ca 0, aI N' (fun _ => 0)))]) (cells + 1) (slots + N') Q) : WN D ca M MC MS pc lv (vI n :: st) ws cells slots Q := by
  intro p l e R s m args below meth c A H locs Z ls hc hC hS0 hP hD hS hl hr
  have hK := hc.2.2.2.2.2.2.2.2.1
  refine va_newa (atype := .int) (ty := .int) (a0 := aI N' (fun _ => 0)) hc.1 hc.2.1 (hc.2.2.2.2.2.1 _ hw) rfl hK hP hD hS hc.2.2.2.2.2.2.2.2.2.1 (fun cA => rfl) hn hN hb (Nat.le_trans hc1 hC) (Nat.le_trans hs1 hS0) hd (fun q cA H1 hK2 hP1 hD1 hS1 => ?_)
  obtain rfl : cA = ca 0 := Option.some.inj (((hK2.2 3 (cA, .int) rfl).2).symm.trans (hK.2 0 (ca 0, .int) rfl).2)
  exact k q p l e R s m args below meth c A H1 locs Z ls hc hC hS0 hP1 hD1 hS1 hl hr
theorem N_newZ {n : Int} {N' : Nat} (hw : Cond.arrayClass .boolean ∈ TB) (hn : ¬ Int32.ofInt n < 0) (hN : (Int32.ofInt n).toNatClampNeg = N') (hb : N' * componentBytes .boolean ≤ 536870912) (hc1 : cells + 1 ≤ MC) (hs1 : slots + N' ≤ MS) (hd : decode M.2.1 pc = .ok (.newarray .boolean, 2)) (k : ∀ q : Nat, WN D ca M MC MS (pc + 2) lv (.ref q :: st) (ws ++ [(q, .inl (ca 1, aI N' (fun _ => 0)))]) (cells + 1) (slots + N') Q) : WN D ca M MC MS pc lv (vI n :: st) ws cells slots Q := by
  intro p l e R s m args below meth c A H locs Z ls hc hC hS0 hP hD hS hl hr
  have hK := hc.2.2.2.2.2.2.2.2.1
  refine va_newa (atype := .boolean) (ty := .boolean) (a0 := aI N' (fun _ => 0)) hc.1 hc.2.1 (hc.2.2.2.2.2.1 _ hw) rfl hK hP hD hS hc.2.2.2.2.2.2.2.2.2.1 (fun cA => rfl) hn hN hb (Nat.le_trans hc1 hC) (Nat.le_trans hs1 hS0) hd (fun q cA H1 hK2 hP1 hD1 hS1 => ?_)
  obtain rfl : cA = ca 1 := Option.some.inj (((hK2.2 3 (cA, .boolean) rfl).2).symm.trans (hK.2 1 (ca 1, .boolean) rfl).2)
  exact k q p l e R s m args below meth c A H1 locs Z ls hc hC hS0 hP1 hD1 hS1 hl hr
theorem N_newJ {n : Int} {N' : Nat} (hw : Cond.arrayClass .long ∈ TB) (hn : ¬ Int32.ofInt n < 0) (hN : (Int32.ofInt n).toNatClampNeg = N') (hb : N' * componentBytes .long ≤ 536870912) (hc1 : cells + 1 ≤ MC) (hs1 : slots + N' ≤ MS) (hd : decode M.2.1 pc = .ok (.newarray .long, 2)) (k : ∀ q : Nat, WN D ca M MC MS (pc + 2) lv (.ref q :: st) (ws ++ [(q, .inl (ca 2, aL N' (fun _ => 0)))]) (cells + 1) (slots + N') Q) : WN D ca M MC MS pc lv (vI n :: st) ws cells slots Q := by
  intro p l e R s m args below meth c A H locs Z ls hc hC hS0 hP hD hS hl hr
  have hK := hc.2.2.2.2.2.2.2.2.1
  refine va_newa (atype := .long) (ty := .long) (a0 := aL N' (fun _ => 0)) hc.1 hc.2.1 (hc.2.2.2.2.2.1 _ hw) rfl hK hP hD hS hc.2.2.2.2.2.2.2.2.2.1 (fun cA => rfl) hn hN hb (Nat.le_trans hc1 hC) (Nat.le_trans hs1 hS0) hd (fun q cA H1 hK2 hP1 hD1 hS1 => ?_)
  obtain rfl : cA = ca 2 := Option.some.inj (((hK2.2 3 (cA, .long) rfl).2).symm.trans (hK.2 2 (ca 2, .long) rfl).2)
  exact k q p l e R s m args below meth c A H1 locs Z ls hc hC hS0 hP1 hD1 hS1 hl hr
theorem N_get {x ci idx N j : Nat} {C : String} {T : u_T} {fs : List Value} {v : Value} (q0 : Nat) (he : ws[q0]? = some (x, .inr (ci, fs))) (hcl : classes[ci]? = some (C, T, N)) (hin : ∀ w ∈ u_ws C T N, w ∈ TB) (hj : j < N) (hC1 : (T j).1 = C) (hv : fs[j]? = some v) (hw : Cond.fieldLink M.1 idx C (T j).2.1 (T j).2.2.1 ∈ TB) (hd : decode M.2.1 pc = .ok (.getfield idx, 3)) (k : WN D ca M MC MS (pc + 3) lv (v :: st) ws cells slots Q) : WN D ca M MC MS pc lv (.ref x :: st) ws cells slots Q := by
  intro p l e R s m args below meth c A H locs Z ls hc hC hS0 hP hD hS hl hr
  exact va_get (D := D) (ci := ci) (v := v) (C := C) (T := T) (N := N) (fs := fs) hc.1 hc.2.1 hc.2.2.2.2.2.1 hin hc.2.2.2.1 hc.2.2.2.2.2.2.2.2.1 hP q0 he hcl j hj (hc.2.2.2.2.2.1 _ hw) (fun x hx => by rw [← hC1]; exact hx) hv hd (k p l e R s m args below meth c A H locs Z ls hc hC hS0 hP hD hS hl hr)
theorem N_putF {x ci idx N j : Nat} {C : String} {T : u_T} {fs : List Value} {v : Value} {ty : FieldType} {ty0 : Nat → FieldType} {ws' : va_W} (q0 : Nat) (he : ws[q0]? = some (x, .inr (ci, fs))) (hcl : classes[ci]? = some (C, T, N)) (hin : ∀ w ∈ u_ws C T N, w ∈ TB) (hty : ∀ k, k < N → parseFieldDescriptor (T k).2.2.1 = some (ty0 k)) (hnm : ∀ a, a < N → ∀ b, b < N → a ≠ b → (T a).2.1 ≠ (T b).2.1) (hj : j < N) (hC1 : (T j).1 = C) (hfin : (T j).2.2.2 = true) (hdecl : (T j).1 = M.1) (hd1 : parseFieldDescriptor (T j).2.2.1 = some ty) (hn : narrow ty v = v) (hfit : fits ty v = true) (hlen : j < fs.length) (hw : Cond.fieldLink M.1 idx C (T j).2.1 (T j).2.2.1 ∈ TB) (hd : decode M.2.1 pc = .ok (.putfield idx, 3)) (hws : ws.set q0 (x, .inr (ci, fs.set j v)) = ws') (k : WN D ca M MC MS (pc + 3) lv st ws' cells slots Q) : WN D ca M MC MS pc lv (v :: .ref x :: st) ws cells slots Q := by
  subst hws
  intro p l e R s m args below meth c A H locs Z ls hc hC hS0 hP hD hS hl hr
  exact va_putF (D := D) (ci := ci) (C := C) (T := T) (N := N) (fs := fs) (ty := ty) hc.1 hc.2.1 hc.2.2.2.2.2.1 hin ty0 hty hnm hc.2.2.2.1 hc.2.2.2.2.2.2.2.2.1 hP hD hS q0 he hcl j hj (hc.2.2.2.2.2.1 _ hw) (fun x hx => by rw [← hC1]; exact hx) hfin hc.2.2.2.2.1 hdecl hd1 hn hfit hlen hd (fun H1 locs1 hP1 hD1 hS1 => k p l e R s m args below meth c A H1 locs1 Z ls hc hC hS0 hP1 hD1 hS1 hl hr)
theorem N_put {x ci idx N j : Nat} {C : String} {T : u_T} {fs : List Value} {v : Value} {ty : FieldType} {ty0 : Nat → FieldType} {ws' : va_W} (q0 : Nat) (he : ws[q0]? = some (x, .inr (ci, fs))) (hcl : classes[ci]? = some (C, T, N)) (hin : ∀ w ∈ u_ws C T N, w ∈ TB) (hty : ∀ k, k < N → parseFieldDescriptor (T k).2.2.1 = some (ty0 k)) (hnm : ∀ a, a < N → ∀ b, b < N → a ≠ b → (T a).2.1 ≠ (T b).2.1) (hj : j < N) (hC1 : (T j).1 = C) (hfin : (T j).2.2.2 = false) (hd1 : parseFieldDescriptor (T j).2.2.1 = some ty) (hn : narrow ty v = v) (hfit : fits ty v = true) (hlen : j < fs.length) (hw : Cond.fieldLink M.1 idx C (T j).2.1 (T j).2.2.1 ∈ TB) (hd : decode M.2.1 pc = .ok (.putfield idx, 3)) (hws : ws.set q0 (x, .inr (ci, fs.set j v)) = ws') (k : WN D ca M MC MS (pc + 3) lv st ws' cells slots Q) : WN D ca M MC MS pc lv (v :: .ref x :: st) ws cells slots Q := by
  subst hws
  intro p l e R s m args below meth c A H locs Z ls hc hC hS0 hP hD hS hl hr
  exact va_put (D := D) (ci := ci) (C := C) (T := T) (N := N) (fs := fs) (ty := ty) hc.1 hc.2.1 hc.2.2.2.2.2.1 hin ty0 hty hnm hc.2.2.2.1 hc.2.2.2.2.2.2.2.2.1 hP hD hS q0 he hcl j hj (hc.2.2.2.2.2.1 _ hw) (fun x hx => by rw [← hC1]; exact hx) hfin hd1 hn hfit hlen hd (fun H1 locs1 hP1 hD1 hS1 => k p l e R s m args below meth c A H1 locs1 Z ls hc hC hS0 hP1 hD1 hS1 hl hr)
theorem N_iast {x n : Nat} {f : Int → Int} {i y : Int} {ws' : va_W} (q0 : Nat) (he : ws[q0]? = some (x, .inl (ca 0, aI n f))) (hn : n ≤ 100000) (hi : 0 ≤ i ∧ i < n) (hd : decode M.2.1 pc = .ok (.iastore, 1)) (hws : ws.set q0 (x, .inl (ca 0, aI n (upf f i y))) = ws') (k : WN D ca M MC MS (pc + 1) lv st ws' cells slots Q) : WN D ca M MC MS pc lv (vI y :: vI i :: .ref x :: st) ws cells slots Q := by
  subst hws
  intro p l e R s m args below meth c A H locs Z ls hc hC hS0 hP hD hS hl hr
  obtain ⟨h1, h2⟩ := ofI_nat (n := n) hi.1 hi.2 hn
  refine va_iast hc.1 hc.2.1 hc.2.2.2.2.2.2.2.2.1 hP hD hS q0 0 (n := n) (f := fun j => Int32.ofInt (f (j : Int))) he rfl h1 hd (fun H1 locs1 hP1 hD1 hS1 => ?_)
  rw [h2, upd_upf f n hi.1] at hP1 hD1
  exact k p l e R s m args below meth c A H1 locs1 Z ls hc hC hS0 hP1 hD1 hS1 hl hr
theorem N_ret (hd : decode M.2.1 pc = .ok (.return_, 1)) (hc1 : cells ≤ MC) (hs1 : slots ≤ MS) (k : Q ws) : WN D ca M MC MS pc lv [] ws cells slots Q :=
  fun p l e R s m args below meth c A H locs Z ls hc hC hS0 hP hD hS hl hr => W.widen hc1 hs1 (hr ws H locs ls pc k hP hD hS hd)
theorem N_new {ci idx N : Nat} {C : String} {T : u_T} {fs : List Value} {ty0 : Nat → FieldType} (hcl : classes[ci]? = some (C, T, N)) (hin : ∀ w ∈ u_ws C T N, w ∈ TB) (hty : ∀ k, k < N → parseFieldDescriptor (T k).2.2.1 = some (ty0 k)) (hfs : ∀ j, j < N → defaultValue (ty0 j) = vp_V fs j) (hw1 : Cond.classLink M.1 idx C ∈ TB) (hw2 : Cond.instantiable C N ∈ TB) (hw3 : Cond.initialized C ∈ TB) (hc1 : cells + 1 ≤ MC) (hs1 : slots + N ≤ MS) (hd : decode M.2.1 pc = .ok (.new idx, 3)) (k : ∀ q : Nat, WN D ca M MC MS (pc + 3) lv (.ref q :: st) (ws ++ [(q, .inr (ci, fs))]) (cells + 1) (slots + N) Q) : WN D ca M MC MS pc lv st ws cells slots Q := by
  intro p l e R s m args below meth c A H locs Z ls hc hC hS0 hP hD hS hl hr
  refine va_new (ci := ci) (fs := fs) (C := C) (T := T) (N := N) hc.1 hc.2.1 hc.2.2.2.2.2.1 hin ty0 hty hc.2.2.2.1 (hc.2.2.2.2.2.1 _ hw1) (hc.2.2.2.2.2.1 _ hw2) (hc.2.2.2.2.2.1 _ hw3) hc.2.2.2.2.2.2.2.2.1 hP hD hS hc.2.2.2.2.2.2.2.2.2.1 hcl hfs (Nat.le_trans hc1 hC) (Nat.le_trans hs1 hS0) hd (fun q H1 hP1 hD1 hS1 => ?_)
  exact k q p l e R s m args below meth c A H1 locs Z ls hc hC hS0 hP1 hD1 hS1 hl hr
end NM
/-! a constructor's contract -/
def rmN (Mc : MI) (mc ms : Nat) : Room := { frames := Mc.2.2.2.1, cells := mc, slots := ms, locals := Mc.2.2.2.2.1 }
def PcN (D : va_G) (ca : Nat → ClassId) (q sz : Nat) (x : va_E) : Array Value → State → Prop := va_Pc [.ref q] (fun U => U.heap.size = sz ∧ va_P D classes [(q, x)] U.heap ∧ va_K D classes (tysC ca) U ∧ va_D (fun _ => True) [(q, x)] ∧ NWn U)
def QcN (D : va_G) (Q : va_W → Prop) (A : Nat → Prop) : Array Value → State → Outcome → State → Prop := va_Qv Q (fun ws' t => va_P D classes ws' t.heap ∧ va_D A ws') A
theorem NWn.same {u U : State} (h : u.vm = U.vm) (z : NWn u) : NWn U := ⟨z.1.same rfl h, z.2.1.same rfl h, z.2.2.same rfl h⟩
theorem NWn.warm {s U : State} (hW : s.WarmedH U.vm) (z : NWn s) : NWn U := ⟨z.1.warmM hW, z.2.1.warmM hW, z.2.2.warmM hW⟩
theorem PcN_blind {D : va_G} {ca : Nat → ClassId} (q sz : Nat) (x : va_E) : FrameBlind (PcN D ca q sz x) := by
  intro a U g mk z
  obtain ⟨z0, z1, zP, zK, zD, zN⟩ := z
  exact ⟨z0, z1, zP, va_K.moved (u := U) (U := U.calling g mk a) (Vm.Alike.refl U.vm) zK, zD, zN.same (U := U.calling g mk a) rfl⟩
theorem metN_of {D : va_G} {ca : Nat → ClassId} {Mc : MI} {y : MethodName} {q sz mc ms : Nat} {x : va_E} {Q : va_W → Prop} (l : Launch) (hy : plainName y.cls = true) (hyc : y.cls = Mc.1) (hyn : y.name = "<init>") (hml1 : Mc.2.2.1 = 1) (hrt : Mc.2.2.2.2.2 = none)
    (hw : WN D ca Mc mc ms 0 [(0, .ref q)] [] [(q, x)] 0 0 Q) : Met l y (wsM y Mc) (rmN Mc mc ms) (PcN D ca q sz x) (QcN D Q (va_A [(q, x)] sz)) mc ms (va_A [(q, x)] sz) := by
  refine Met.ofW (cc := Mc.2.1) (maxL := Mc.2.2.1) (ret := Mc.2.2.2.2.2) hy rfl ?_
  intro p e s m args below meth c s₁ B hml hv
  obtain ⟨rfl, hsz, hP, hK, hD0, hN⟩ := hv
  have hts := atoms_spec (ws := wsM y Mc) B.pre
  have hown : s.vm.findClass Mc.1 = some m.cls := by rw [← hyc]; exact findClass_of_methodNamed B.named
  have hin : meth.name = "<init>" := (name_of_methodNamed B.named B.method).1.trans hyn
  subst hsz
  have hD := hD0.self (sz := s.heap.size)
  have hl := lv_entry [.ref q] (n := Mc.2.2.1) (by rw [hml1]; exact Nat.le_of_ble_eq_true rfl)
  rw [lg_entry_eq]
  refine hw p l e _ s m _ below meth c (va_A [(q, x)] s.heap.size) s.heap [] _ _ ⟨B.exec, B.bytes, hml, hown, hin, fun w hw => hts w (List.mem_cons_of_mem _ hw), Nat.le_refl _, Nat.le_refl _, hK, fun z h => Or.inr h, hN⟩ (Nat.le_refl _) (Nat.le_refl _) hP hD va_S.rf hl ?_
  intro ws' H' locs' ls' pc' hq hP' hD' hS' hd
  exact W.vret (hlocks := B.notSynchronized) B.exec B.bytes (B.returns.trans hrt) (fun t ht hW => ⟨⟨ws', rfl, hq, by rw [ht]; exact hP', hD'⟩, hS'.F ht⟩) hS'.2.2 hd
section NM2
variable {D : va_G} {ca : Nat → ClassId} {M : MI} {MC MS : Nat} {pc : Nat} {lv : List (Nat × Value)} {st : List Value} {wr : va_W} {cells slots : Nat} {Q : va_W → Prop}
/-- a constructor called on the cell that was made last; 'nest' where it is private -/
theorem N_callI {q idx mc ms : Nat} {x : va_E} {Mc : MI} {y : MethodName} {Q1 : va_W → Prop} (hw1 : Cond.methodLink M.1 idx y ∈ TB) (hw2 : Cond.instanceMethod y ∈ TB) (hw3 : Cond.initialized y.cls ∈ TB) (hw4 : Cond.code y Mc.2.1 Mc.2.2.1 Mc.2.2.2.2.2 ∈ TB)
    (hy : plainName y.cls = true ∧ y.cls = Mc.1 ∧ y.name = "<init>") (hm : Mc.2.2.1 = 1 ∧ Mc.2.2.2.2.2 = none) (hd2 : y.cls ≠ "java/lang/invoke/MethodHandle" ∧ y.cls ≠ "java/lang/invoke/VarHandle" ∧ (parseMethodDescriptor y.desc).map (fun d => d.parameters.length) = some 0) (hroom : Mc.2.2.2.1 + 1 ≤ M.2.2.2.1 ∧ 8 + (Mc.2.2.1 + 11) + Mc.2.2.2.2.1 ≤ M.2.2.2.2.1) (hrest : (st.map fun v => v.category).sum ≤ 8) (hc1 : cells + mc ≤ MC) (hs1 : slots + ms ≤ MS)
    (hd : decode M.2.1 pc = .ok (.invokespecial idx, 3)) (kc : WN D ca Mc mc ms 0 [(0, .ref q)] [] [(q, x)] 0 0 Q1) (k : ∀ w1, Q1 w1 → WN D ca M MC MS (pc + 3) lv st (wr ++ w1) (cells + mc) (slots + ms) Q) : WN D ca M MC MS pc lv (.ref q :: st) (wr ++ [(q, x)]) cells slots Q := by
  intro p l e R s m args below meth c A H locs Z ls hc hC hS0 hP hD hS hl hr
  have hts := hc.2.2.2.2.2.1
  have hK := hc.2.2.2.2.2.2.2.2.1
  have hA := hc.2.2.2.2.2.2.2.2.2.1
  have hlast : (wr ++ [(q, x)])[wr.length]? = some (q, x) := by simp
  have hPc : va_P D classes [(q, x)] H := hP.sub [wr.length] (by simp)
  have hDc : va_D A [(q, x)] := hD.sub [wr.length] (by simp [va_nd]) (by simp)
  have hFc : ∀ z, va_A [(q, x)] H.size z → A z := va_free (wc := [(q, x)]) hD hS hA [wr.length] (by simp)
  have hG : GoodIn TB (wsM y Mc) := fun w hw => TB_good w (by
    rcases List.mem_cons.mp hw with e | h
    · rw [e]; exact hw4
    · exact h)
  have hret : Mc.2.2.2.2.2 = none := hm.2
  have hwm : wsM y Mc = Cond.code y Mc.2.1 Mc.2.2.1 none :: TB := by unfold wsM; rw [hret]
  refine va_callv (va_runI (cc := M.2.1) (nL := M.2.2.1) (Ts := TB) (own := M.1) (As := []) (rest := st) (b := q) (n := 0) (bytes := Mc.2.1) (maxL := Mc.2.2.1) ⟨hc.1, hc.2.1, hc.2.2.1, hc.2.2.2.1, hts⟩ (metN_of (sz := H.size) l hy.1 hy.2.1 hy.2.2 hm.1 hm.2 kc) (cwI 0 hts hG hwm rfl rfl (hts _ hw3) (hts _ hw1) (hts _ hw2) hy.2.2 hd2 ⟨Nat.le_trans hroom.1 hc.2.2.2.2.2.2.1, Nat.le_trans hroom.2 hc.2.2.2.2.2.2.2.1⟩) ⟨PcN_blind _ _ _, fun U hU hW => ⟨rfl, by rw [hU], by rw [hU]; exact hPc, va_K.moved hW.alike hK, hDc.weaken (fun _ _ _ _ => trivial), hc.2.2.2.2.2.2.2.2.2.2.warm hW⟩⟩ rfl rfl hl.1 rfl (lv_room hrest) hd ⟨Nat.le_trans hc1 hC, Nat.le_trans hs1 hS0⟩) hS (fun z _ h => hFc z h) hFc (fun u t H1 locs1 ht hvm hq hB hz1 hk1 hS1 => ?_)
  obtain ⟨hP1, hD1⟩ := hB
  rw [ht] at hP1
  obtain ⟨hP2, hD2⟩ := nj hP hD hk1 hFc hP1 hD1
  exact k u hq p l e R s m args below meth c A H1 locs1 Z ls hc hC hS0 hP2 hD2 hS1 hl hr
theorem N_callIN {q idx mc ms : Nat} {x : va_E} {Mc : MI} {y : MethodName} {host : String} {Q1 : va_W → Prop} (hw1 : ∀ s, NWn s → va_Nw (.methodLinkNest M.1 idx y host) s) (hw2 : Cond.instanceMethod y ∈ TB) (hw3 : Cond.initialized y.cls ∈ TB) (hw4 : Cond.code y Mc.2.1 Mc.2.2.1 Mc.2.2.2.2.2 ∈ TB)
    (hy : plainName y.cls = true ∧ y.cls = Mc.1 ∧ y.name = "<init>") (hm : Mc.2.2.1 = 1 ∧ Mc.2.2.2.2.2 = none) (hd2 : y.cls ≠ "java/lang/invoke/MethodHandle" ∧ y.cls ≠ "java/lang/invoke/VarHandle" ∧ (parseMethodDescriptor y.desc).map (fun d => d.parameters.length) = some 0) (hroom : Mc.2.2.2.1 + 1 ≤ M.2.2.2.1 ∧ 8 + (Mc.2.2.1 + 11) + Mc.2.2.2.2.1 ≤ M.2.2.2.2.1) (hrest : (st.map fun v => v.category).sum ≤ 8) (hc1 : cells + mc ≤ MC) (hs1 : slots + ms ≤ MS)
    (hd : decode M.2.1 pc = .ok (.invokespecial idx, 3)) (kc : WN D ca Mc mc ms 0 [(0, .ref q)] [] [(q, x)] 0 0 Q1) (k : ∀ w1, Q1 w1 → WN D ca M MC MS (pc + 3) lv st (wr ++ w1) (cells + mc) (slots + ms) Q) : WN D ca M MC MS pc lv (.ref q :: st) (wr ++ [(q, x)]) cells slots Q := by
  intro p l e R s m args below meth c A H locs Z ls hc hC hS0 hP hD hS hl hr
  have hts := hc.2.2.2.2.2.1
  have hK := hc.2.2.2.2.2.2.2.2.1
  have hA := hc.2.2.2.2.2.2.2.2.2.1
  have hNw := hc.2.2.2.2.2.2.2.2.2.2
  have hPc : va_P D classes [(q, x)] H := hP.sub [wr.length] (by simp)
  have hDc : va_D A [(q, x)] := hD.sub [wr.length] (by simp [va_nd]) (by simp)
  have hFc : ∀ z, va_A [(q, x)] H.size z → A z := va_free (wc := [(q, x)]) hD hS hA [wr.length] (by simp)
  have hG : GoodIn TB (wsM y Mc) := fun w hw => TB_good w (by
    rcases List.mem_cons.mp hw with e | h
    · rw [e]; exact hw4
    · exact h)
  have hret : Mc.2.2.2.2.2 = none := hm.2
  have hwm : wsM y Mc = Cond.code y Mc.2.1 Mc.2.2.1 none :: TB := by unfold wsM; rw [hret]
  refine va_callv (va_runIN (cc := M.2.1) (nL := M.2.2.1) (Ts := TB) (own := M.1) (As := []) (rest := st) (b := q) (n := 0) (bytes := Mc.2.1) (maxL := Mc.2.2.1) (host := host) ⟨hc.1, hc.2.1, hc.2.2.1, hc.2.2.2.1, hts⟩ (metN_of (sz := H.size) l hy.1 hy.2.1 hy.2.2 hm.1 hm.2 kc) ⟨va_cnB 0 hts hG hwm rfl rfl (hw1 s hNw) (hts _ hw3) hd2 ⟨Nat.le_trans hroom.1 hc.2.2.2.2.2.2.1, Nat.le_trans hroom.2 hc.2.2.2.2.2.2.2.1⟩, hy.2.2, hts _ hw2⟩ ⟨PcN_blind _ _ _, fun U hU hW => ⟨rfl, by rw [hU], by rw [hU]; exact hPc, va_K.moved hW.alike hK, hDc.weaken (fun _ _ _ _ => trivial), hNw.warm hW⟩⟩ rfl rfl hl.1 rfl (lv_room hrest) hd ⟨Nat.le_trans hc1 hC, Nat.le_trans hs1 hS0⟩) hS (fun z _ h => hFc z h) hFc (fun u t H1 locs1 ht hvm hq hB hz1 hk1 hS1 => ?_)
  obtain ⟨hP1, hD1⟩ := hB
  rw [ht] at hP1
  obtain ⟨hP2, hD2⟩ := nj hP hD hk1 hFc hP1 hD1
  exact k u hq p l e R s m args below meth c A H1 locs1 Z ls hc hC hS0 hP2 hD2 hS1 hl hr
end NM2
