section PH
variable {D : va_G} {ad : Nat → Nat} {ca : Nat → ClassId} {sc : SC} {M : MI} {pc : Nat} {lv : List (Nat × Value)} {st : List Value} {h : Hp} {Q Q' : Option Value → Hp → Prop}
theorem up_eq (h : Hp) (k : Nat) (i v : Int) : up h k i v = fun k2 => if k2 = k then upf (h k) i v else h k2 := rfl
theorem HR_up {h : Hp} (hh : HR h) {k : Nat} {i v : Int} (hv : InL v ∧ (k ≠ 44 → InR v)) : HR (up h k i v) := by
  intro k2 j
  unfold up upf
  by_cases hk : k2 = k
  · subst hk
    simp only [if_true]
    by_cases hj : j = i
    · simp only [hj, if_true]; exact hv
    · simp only [hj, if_false]; exact hh k2 j
  · simp only [hk, if_false]; exact hh k2 j
theorem Cx.D1 {D : va_G} {ad : Nat → Nat} {ca : Nat → ClassId} {sc : SC} {M : MI} {p : Program} {R : Room} {s : State} {m : MethodId} {args : Array Value} {meth : Method} {c : Code} {A : Nat → Prop} {cells slots : Nat} (hc : Cx D ad ca sc M p R s m args meth c A cells slots) (h : Hp) : va_D A (wsH ad ca h) := wsH_D hc.2.2.2.2.2.2.2.2.2.2.2.2.1 hc.2.2.2.2.2.2.2.2.2.2.2.2.2.1
theorem P_getf {k ci j idx N : Nat} {C : String} {T : u_T} {fs : List Value} {v : Value} (hk : k < 46) (he : wE ad ca k (h k) = .inr (ci, fs)) (hcl : classes[ci]? = some (C, T, N)) (hin : ∀ w ∈ u_ws C T N, w ∈ TB) (hj : j < N) (hC : (T j).1 = C) (hv : fs[j]? = some v)
    (hw : Cond.fieldLink M.1 idx C (T j).2.1 (T j).2.2.1 ∈ TB) (hd : decode M.2.1 pc = .ok (.getfield idx, 3)) (kk : WP D ad ca sc M (pc + 3) lv (v :: st) h Q) : WP D ad ca sc M pc lv (.ref (ad k) :: st) h Q := by
  intro p l e R s m args below meth c A H locs cells slots Z ls hc hR hS hl hr
  refine va_get (D := D) (ci := ci) (v := v) (C := C) (T := T) (N := N) (fs := fs) hc.1 hc.2.1 hc.2.2.2.2.2.2.1 hin hc.2.2.2.1 hc.2.2.2.2.2.2.2.2.2.2.2.1 hR.1 k (by rw [wsH_at hk, he]) hcl j hj (hc.2.2.2.2.2.2.1 _ hw) (fun x hx => by rw [← hC]; exact hx) hv hd ?_
  exact kk p l e R s m args below meth c A H locs cells slots Z ls hc hR hS hl hr
theorem P_putf {k ci j idx N : Nat} {C : String} {T : u_T} {fs : List Value} {x : Int} {ty : FieldType} {ty0 : Nat → FieldType} (hk : k < 46) (he : wE ad ca k (h k) = .inr (ci, fs)) (he2 : (.inr (ci, fs.set j (vI x)) : va_E) = wE ad ca k (upf (h k) (j : Int) x)) (hcl : classes[ci]? = some (C, T, N)) (hin : ∀ w ∈ u_ws C T N, w ∈ TB) (hty : ∀ k, k < N → parseFieldDescriptor (T k).2.2.1 = some (ty0 k)) (hnm : ∀ a, a < N → ∀ b, b < N → a ≠ b → (T a).2.1 ≠ (T b).2.1) (hj : j < N) (hC : (T j).1 = C) (hfin : (T j).2.2.2 = false)
    (hd1 : parseFieldDescriptor (T j).2.2.1 = some ty) (hn : narrow ty (vI x) = vI x) (hfit : fits ty (vI x) = true) (hlen : j < fs.length) (h44 : k ≠ 44) (hx : InR x)
    (hw : Cond.fieldLink M.1 idx C (T j).2.1 (T j).2.2.1 ∈ TB) (hd : decode M.2.1 pc = .ok (.putfield idx, 3)) (kk : WP D ad ca sc M (pc + 3) lv st (up h k (j : Int) x) Q) : WP D ad ca sc M pc lv (vI x :: .ref (ad k) :: st) h Q := by
  intro p l e R s m args below meth c A H locs cells slots Z ls hc hR hS hl hr
  refine va_put (D := D) (ci := ci) (C := C) (T := T) (N := N) (fs := fs) (ty := ty) hc.1 hc.2.1 hc.2.2.2.2.2.2.1 hin ty0 hty hnm hc.2.2.2.1 hc.2.2.2.2.2.2.2.2.2.2.2.1 hR.1 (hc.D1 h) hS k (by rw [wsH_at hk, he]) hcl j hj (hc.2.2.2.2.2.2.1 _ hw) (fun x hx => by rw [← hC]; exact hx) hfin hd1 hn hfit hlen hd (fun H1 locs1 hP1 hD1 hS1 => ?_)
  rw [wsH_set he2] at hP1
  exact kk p l e R s m args below meth c A H1 locs1 cells slots Z ls hc ⟨hP1, HR_up hR.2 ⟨hx.toL, fun _ => hx⟩⟩ hS1 hl hr
theorem P_iald {k n : Nat} {i : Int} (hk : k < 46) (he : wE ad ca k (h k) = .inl (ca 0, aI n (h k))) (h44 : k ≠ 44) (hn : n ≤ 100000) (hd : decode M.2.1 pc = .ok (.iaload, 1)) (hi : 0 ≤ i ∧ i < n) (kk : InR (h k i) → WP D ad ca sc M (pc + 1) lv (vI (h k i) :: st) h Q) : WP D ad ca sc M pc lv (vI i :: .ref (ad k) :: st) h Q := by
  intro p l e R s m args below meth c A H locs cells slots Z ls hc hR hS hl hr
  obtain ⟨h1, h2⟩ := ofI_nat (n := n) hi.1 hi.2 hn
  refine va_iald hc.1 hc.2.1 hc.2.2.2.2.2.2.2.2.2.2.2.1 hR.1 k 0 (n := n) (f := fun j => Int32.ofInt (h k (j : Int))) (by rw [wsH_at hk, he]; rfl) rfl h1 hd ?_
  rw [h2]
  show W p l e R s m args below meth c H locs cells slots Z (F0 m (pc + 1) ls (Value.int (Int32.ofInt (h k ((i.toNat : Nat) : Int))) :: st))
  rw [Int.toNat_of_nonneg hi.1]
  exact kk ((hR.2 k i).2 h44) p l e R s m args below meth c A H locs cells slots Z ls hc hR hS hl hr
theorem P_zald {k n : Nat} {i : Int} (hk : k < 46) (he : wE ad ca k (h k) = .inl (ca 1, aI n (h k))) (h44 : k ≠ 44) (hn : n ≤ 100000) (hd : decode M.2.1 pc = .ok (.baload, 1)) (hi : 0 ≤ i ∧ i < n) (kk : InR (h k i) → WP D ad ca sc M (pc + 1) lv (vI (h k i) :: st) h Q) : WP D ad ca sc M pc lv (vI i :: .ref (ad k) :: st) h Q := by
  intro p l e R s m args below meth c A H locs cells slots Z ls hc hR hS hl hr
  obtain ⟨h1, h2⟩ := ofI_nat (n := n) hi.1 hi.2 hn
  refine va_zald hc.1 hc.2.1 hc.2.2.2.2.2.2.2.2.2.2.2.1 hR.1 k 1 (n := n) (f := fun j => Int32.ofInt (h k (j : Int))) (by rw [wsH_at hk, he]; rfl) rfl h1 hd ?_
  rw [h2]
  show W p l e R s m args below meth c H locs cells slots Z (F0 m (pc + 1) ls (Value.int (Int32.ofInt (h k ((i.toNat : Nat) : Int))) :: st))
  rw [Int.toNat_of_nonneg hi.1]
  exact kk ((hR.2 k i).2 h44) p l e R s m args below meth c A H locs cells slots Z ls hc hR hS hl hr
theorem P_lald {k n : Nat} {i : Int} (hk : k < 46) (he : wE ad ca k (h k) = .inl (ca 2, aL n (h k))) (hn : n ≤ 100000) (hd : decode M.2.1 pc = .ok (.laload, 1)) (hi : 0 ≤ i ∧ i < n) (kk : InL (h k i) → WP D ad ca sc M (pc + 1) lv (vL (h k i) :: st) h Q) : WP D ad ca sc M pc lv (vI i :: .ref (ad k) :: st) h Q := by
  intro p l e R s m args below meth c A H locs cells slots Z ls hc hR hS hl hr
  obtain ⟨h1, h2⟩ := ofI_nat (n := n) hi.1 hi.2 hn
  refine va_lald hc.1 hc.2.1 hc.2.2.2.2.2.2.2.2.2.2.2.1 hR.1 k 2 (n := n) (f := fun j => Int64.ofInt (h k (j : Int))) (by rw [wsH_at hk, he]; rfl) rfl h1 hd ?_
  rw [h2]
  show W p l e R s m args below meth c H locs cells slots Z (F0 m (pc + 1) ls (Value.long (Int64.ofInt (h k ((i.toNat : Nat) : Int))) :: st))
  rw [Int.toNat_of_nonneg hi.1]
  exact kk (hR.2 k i).1 p l e R s m args below meth c A H locs cells slots Z ls hc hR hS hl hr
theorem upd_upf (f : Int → Int) (n : Nat) {i x : Int} (h0 : 0 ≤ i) : ((n, .inl (upd (fun j => Int32.ofInt (f (j : Int))) i.toNat (Int32.ofInt x))) : vp_A) = aI n (upf f i x) := by
  unfold aI
  congr 2
  funext j
  unfold upd upf
  by_cases hj : j = i.toNat
  · have : (j : Int) = i := by omega
    simp [hj, Int.toNat_of_nonneg h0]
  · have : ¬ (j : Int) = i := by omega
    simp [hj, this]
theorem updL_upf (f : Int → Int) (n : Nat) {i x : Int} (h0 : 0 ≤ i) : ((n, .inr (.inl (vp_updL (fun j => Int64.ofInt (f (j : Int))) i.toNat (Int64.ofInt x)))) : vp_A) = aL n (upf f i x) := by
  unfold aL
  congr 3
  funext j
  unfold vp_updL upf
  by_cases hj : j = i.toNat
  · have : (j : Int) = i := by omega
    simp [hj, Int.toNat_of_nonneg h0]
  · have : ¬ (j : Int) = i := by omega
    simp [hj, this]
theorem P_iast {k n : Nat} {i x : Int} (hk : k < 46) (he : ∀ f, wE ad ca k f = .inl (ca 0, aI n f)) (h44 : k ≠ 44) (hn : n ≤ 100000) (hd : decode M.2.1 pc = .ok (.iastore, 1)) (hi : 0 ≤ i ∧ i < n) (hx : InR x) (kk : WP D ad ca sc M (pc + 1) lv st (up h k i x) Q) : WP D ad ca sc M pc lv (vI x :: vI i :: .ref (ad k) :: st) h Q := by
  intro p l e R s m args below meth c A H locs cells slots Z ls hc hR hS hl hr
  obtain ⟨h1, h2⟩ := ofI_nat (n := n) hi.1 hi.2 hn
  refine va_iast hc.1 hc.2.1 hc.2.2.2.2.2.2.2.2.2.2.2.1 hR.1 (hc.D1 h) hS k 0 (n := n) (f := fun j => Int32.ofInt (h k (j : Int))) (by rw [wsH_at hk, he]; rfl) rfl h1 hd (fun H1 locs1 hP1 hD1 hS1 => ?_)
  rw [h2, upd_upf (h k) n hi.1, wsH_set (he _).symm] at hP1
  exact kk p l e R s m args below meth c A H1 locs1 cells slots Z ls hc ⟨hP1, HR_up hR.2 ⟨hx.toL, fun _ => hx⟩⟩ hS1 hl hr
theorem nar_z {x : Int} (hx : x = 0 ∨ x = 1) : vp_nar .boolean (Int32.ofInt x) = Int32.ofInt x := by
  rcases hx with rfl | rfl <;> decide
theorem P_zast {k n : Nat} {i x : Int} (hk : k < 46) (he : ∀ f, wE ad ca k f = .inl (ca 1, aI n f)) (h44 : k ≠ 44) (hn : n ≤ 100000) (hd : decode M.2.1 pc = .ok (.bastore, 1)) (hi : 0 ≤ i ∧ i < n) (hx : x = 0 ∨ x = 1) (kk : WP D ad ca sc M (pc + 1) lv st (up h k i x) Q) : WP D ad ca sc M pc lv (vI x :: vI i :: .ref (ad k) :: st) h Q := by
  intro p l e R s m args below meth c A H locs cells slots Z ls hc hR hS hl hr
  obtain ⟨h1, h2⟩ := ofI_nat (n := n) hi.1 hi.2 hn
  refine va_zast hc.1 hc.2.1 hc.2.2.2.2.2.2.2.2.2.2.2.1 hR.1 (hc.D1 h) hS k 1 (n := n) (f := fun j => Int32.ofInt (h k (j : Int))) (by rw [wsH_at hk, he]; rfl) rfl h1 hd (fun H1 locs1 hP1 hD1 hS1 => ?_)
  rw [h2, nar_z hx, upd_upf (h k) n hi.1, wsH_set (he _).symm] at hP1
  have hxr : InR x := by unfold InR; omega
  exact kk p l e R s m args below meth c A H1 locs1 cells slots Z ls hc ⟨hP1, HR_up hR.2 ⟨hxr.toL, fun _ => hxr⟩⟩ hS1 hl hr
theorem P_last {k n : Nat} {i x : Int} (hk : k < 46) (he : ∀ f, wE ad ca k f = .inl (ca 2, aL n f)) (h44 : k = 44) (hn : n ≤ 100000) (hd : decode M.2.1 pc = .ok (.lastore, 1)) (hi : 0 ≤ i ∧ i < n) (hx : InL x) (kk : WP D ad ca sc M (pc + 1) lv st (up h k i x) Q) : WP D ad ca sc M pc lv (vL x :: vI i :: .ref (ad k) :: st) h Q := by
  intro p l e R s m args below meth c A H locs cells slots Z ls hc hR hS hl hr
  obtain ⟨h1, h2⟩ := ofI_nat (n := n) hi.1 hi.2 hn
  refine va_last hc.1 hc.2.1 hc.2.2.2.2.2.2.2.2.2.2.2.1 hR.1 (hc.D1 h) hS k 2 (n := n) (f := fun j => Int64.ofInt (h k (j : Int))) (by rw [wsH_at hk, he]; rfl) rfl h1 hd (fun H1 locs1 hP1 hD1 hS1 => ?_)
  rw [h2, updL_upf (h k) n hi.1, wsH_set (he _).symm] at hP1
  exact kk p l e R s m args below meth c A H1 locs1 cells slots Z ls hc ⟨hP1, HR_up hR.2 ⟨hx, fun q => absurd h44 q⟩⟩ hS1 hl hr
theorem P_sld {b L : Nat} {xs : Nat → Int32} {i : Int} (hsc : sc = some (b, L, xs)) (hL : L ≤ 100000) (hd : decode M.2.1 pc = .ok (.iaload, 1)) (hi : 0 ≤ i ∧ i < L) (kk : WP D ad ca sc M (pc + 1) lv (vI (xs i.toNat).toInt :: st) h Q) : WP D ad ca sc M pc lv (vI i :: .ref b :: st) h Q := by
  intro p l e R s m args below meth c A H locs cells slots Z ls hc hR hS hl hr
  obtain ⟨h1, h2⟩ := ofI_nat (n := L) hi.1 hi.2 hL
  obtain ⟨x1, x2, x3⟩ := hc.2.2.2.2.2.2.2.2.2.2.2.2.2.2 b L xs hsc
  refine va_sld hc.1 hc.2.1 x1 x2 x3 hS h1 hd ?_
  rw [h2, ← Int32.ofInt_toInt (xs i.toNat)]
  exact kk p l e R s m args below meth c A H locs cells slots Z ls hc hR hS hl hr
theorem P_slen {b L : Nat} {xs : Nat → Int32} (hsc : sc = some (b, L, xs)) (hd : decode M.2.1 pc = .ok (.arraylength, 1)) (kk : WP D ad ca sc M (pc + 1) lv (vI (L : Int) :: st) h Q) : WP D ad ca sc M pc lv (.ref b :: st) h Q := by
  intro p l e R s m args below meth c A H locs cells slots Z ls hc hR hS hl hr
  obtain ⟨x1, x2, x3⟩ := hc.2.2.2.2.2.2.2.2.2.2.2.2.2.2 b L xs hsc
  refine va_slen hc.1 hc.2.1 x1 x2 x3 hS hd ?_
  exact kk p l e R s m args below meth c A H locs cells slots Z ls hc hR hS hl hr
theorem P_iret {x : Int} (hd : decode M.2.1 pc = .ok (.ireturn, 1)) (ht : M.2.2.2.2.2 = some .int) (k : Q (some (vI x)) h) : WP D ad ca sc M pc lv [vI x] h Q :=
  fun p l e R s m args below meth c A H locs cells slots Z ls hc hR hS hl hr => hr (some (vI x)) h H locs ls pc k hR hS (Or.inl ⟨_, .int, rfl, hd, ht, rfl⟩)
theorem P_zret {x : Int} (hd : decode M.2.1 pc = .ok (.ireturn, 1)) (ht : M.2.2.2.2.2 = some .boolean) (hx : x = 0 ∨ x = 1) (k : Q (some (vI x)) h) : WP D ad ca sc M pc lv [vI x] h Q :=
  fun p l e R s m args below meth c A H locs cells slots Z ls hc hR hS hl hr => hr (some (vI x)) h H locs ls pc k hR hS (Or.inl ⟨_, .boolean, rfl, hd, ht, by rcases hx with rfl | rfl <;> decide⟩)
theorem P_lret {x : Int} (hd : decode M.2.1 pc = .ok (.lreturn, 1)) (ht : M.2.2.2.2.2 = some .long) (k : Q (some (vL x)) h) : WP D ad ca sc M pc lv [vL x] h Q :=
  fun p l e R s m args below meth c A H locs cells slots Z ls hc hR hS hl hr => hr (some (vL x)) h H locs ls pc k hR hS (Or.inr (Or.inl ⟨_, rfl, hd, ht⟩))
theorem P_vret (hd : decode M.2.1 pc = .ok (.return_, 1)) (ht : M.2.2.2.2.2 = none) (k : Q none h) : WP D ad ca sc M pc lv [] h Q :=
  fun p l e R s m args below meth c A H locs cells slots Z ls hc hR hS hl hr => hr none h H locs ls pc k hR hS (Or.inr (Or.inr ⟨rfl, hd, ht⟩))
/-! long compares, division by a written number, switches -/
def lc (x y : Int) : Int := if y < x then 1 else if x = y then 0 else -1
theorem lc_I {x y : Int} (hx : InL x) (hy : InL y) : lg_cmp (Int64.ofInt x) (Int64.ofInt y) = Int32.ofInt (lc x y) := by
  unfold lg_cmp lc
  have e1 : (Int64.ofInt x > Int64.ofInt y) ↔ y < x := by
    show Int64.ofInt y < Int64.ofInt x ↔ _
    rw [Int64.lt_iff_toInt_lt, toInt_L hx, toInt_L hy]
  have e2 : (Int64.ofInt x = Int64.ofInt y) ↔ x = y := by
    rw [← Int64.toInt_inj, toInt_L hx, toInt_L hy]
  by_cases h1 : y < x
  · rw [if_pos (e1.mpr h1), if_pos h1]; rfl
  · rw [if_neg (fun z => h1 (e1.mp z)), if_neg h1]
    by_cases h2 : x = y
    · rw [if_pos (e2.mpr h2), if_pos h2]; rfl
    · rw [if_neg (fun z => h2 (e2.mp z)), if_neg h2]; rfl
theorem lc_R (x y : Int) : InR (lc x y) := by
  unfold lc InR; split <;> (try split) <;> omega
theorem P_lcmp {x y : Int} (hx : InL x) (hy : InL y) (hd : decode M.2.1 pc = .ok (.lcmp, 1)) (k : WP D ad ca sc M (pc + 1) lv (vI (lc x y) :: st) h Q) : WP D ad ca sc M pc lv (vL y :: vL x :: st) h Q :=
  fun p l e R s m args below meth c A H locs cells slots Z ls hc hR hS hl hr => W.lcmp hc.1 hc.2.1 hd (by rw [lc_I hx hy]; exact k p l e R s m args below meth c A H locs cells slots Z ls hc hR hS hl hr)
theorem lc_lt {x y : Int} : lc x y < 0 ↔ x < y := by unfold lc; split <;> (try split) <;> omega
theorem lc_le {x y : Int} : lc x y ≤ 0 ↔ x ≤ y := by unfold lc; split <;> (try split) <;> omega
theorem lc_gt {x y : Int} : 0 < lc x y ↔ y < x := by unfold lc; split <;> (try split) <;> omega
theorem lc_ge {x y : Int} : 0 ≤ lc x y ↔ y ≤ x := by unfold lc; split <;> (try split) <;> omega
theorem ofL_div {x y : Int} (hx : 0 ≤ x ∧ InL x) (hy : 0 < y ∧ InL y) : Int64.ofInt x / Int64.ofInt y = Int64.ofInt (x / y) := by
  rw [← Int64.toInt_inj]
  have hq : InL (x / y) := by
    have h1 : 0 ≤ x / y := Int.ediv_nonneg hx.1 (by omega)
    have h2 : x / y ≤ x := Int.ediv_le_self y hx.1
    unfold InL at *
    omega
  rw [Int64.toInt_div, toInt_L hx.2, toInt_L hy.2, toInt_L hq, Int.tdiv_eq_ediv_of_nonneg hx.1]
  unfold InL at hq
  apply Int.bmod_eq_of_le <;> simp <;> omega
theorem P_ldiv {x y : Int} (hx : 0 ≤ x ∧ InL x) (hy : 0 < y ∧ InL y) (hd : decode M.2.1 pc = .ok (.ldiv, 1)) (k : WP D ad ca sc M (pc + 1) lv (vL (x / y) :: st) h Q) : WP D ad ca sc M pc lv (vL y :: vL x :: st) h Q :=
  fun p l e R s m args below meth c A H locs cells slots Z ls hc hR hS hl hr => lv_ldiv hc.1 hc.2.1 hd (fun z => by
    have : y = 0 := by rw [← toInt_L hy.2, z]; rfl
    omega) (by rw [ofL_div hx hy]; exact k p l e R s m args below meth c A H locs cells slots Z ls hc hR hS hl hr)
theorem P_lrem {x y : Int} (hx : 0 ≤ x ∧ InL x) (hy : 0 < y ∧ InL y) (hd : decode M.2.1 pc = .ok (.lrem, 1)) (k : WP D ad ca sc M (pc + 1) lv (vL (x % y) :: st) h Q) : WP D ad ca sc M pc lv (vL y :: vL x :: st) h Q :=
  fun p l e R s m args below meth c A H locs cells slots Z ls hc hR hS hl hr => lv_lrem hc.1 hc.2.1 hd (fun z => by
    have : y = 0 := by rw [← toInt_L hy.2, z]; rfl
    omega) (by
      rw [ofL_div hx hy, ofL_mul, ofL_sub]
      have e9 : x - x / y * y = x % y := by have := Int.emod_def x y; rw [Int.mul_comm] at this; omega
      rw [e9]
      exact k p l e R s m args below meth c A H locs cells slots Z ls hc hR hS hl hr)
theorem P_tabOut {dflt lo hi : Int} {offs : Array Int} {len : Nat} {x : Int} (tgt : Nat) (hd : decode M.2.1 pc = .ok (.tableswitch dflt lo hi offs, len)) (hx : InR x) (ho : x < lo ∨ hi < x) (ht : (pc : Int) + dflt = (tgt : Int)) (k : WP D ad ca sc M tgt lv st h Q) : WP D ad ca sc M pc lv (vI x :: st) h Q :=
  fun p l e R s m args below meth c A H locs cells slots Z ls hc hR hS hl hr => lv_tableOut hc.1 hc.2.1 hd (by rw [toInt_I hx]; exact ho) ht (k p l e R s m args below meth c A H locs cells slots Z ls hc hR hS hl hr)
theorem P_tabIn {dflt lo hi : Int} {offs : Array Int} {len : Nat} {x : Int} {off : Int} (tgt : Nat) (v : Int) (hd : decode M.2.1 pc = .ok (.tableswitch dflt lo hi offs, len)) (hx : x = v) (hv : InR v) (h1 : ¬ v < lo) (h2 : ¬ hi < v) (ho : offs[(v - lo).toNat]? = some off) (ht : (pc : Int) + off = (tgt : Int)) (k : WP D ad ca sc M tgt lv st h Q) : WP D ad ca sc M pc lv (vI x :: st) h Q := by
  subst hx
  exact fun p l e R s m args below meth c A H locs cells slots Z ls hc hR hS hl hr => lv_tableIn hc.1 hc.2.1 hd (by rw [toInt_I hv]; exact h1) (by rw [toInt_I hv]; exact h2) (by rw [toInt_I hv]; exact ho) ht (k p l e R s m args below meth c A H locs cells slots Z ls hc hR hS hl hr)
end PH
