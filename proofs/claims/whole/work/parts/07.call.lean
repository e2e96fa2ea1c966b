/-! calls: a method's contract out of its WP, and a call out of the contract -/
def adS (ad : Nat → Nat) : Nat → Prop := fun q => ∃ k, k < 46 ∧ q = ad k
def wsM (y : MethodName) (Mc : MI) : List Cond := .code y Mc.2.1 Mc.2.2.1 Mc.2.2.2.2.2 :: TB
def rmM (Mc : MI) : Room := { frames := Mc.2.2.2.1, cells := 0, slots := 0, locals := Mc.2.2.2.2.1 }
def QcM (D : va_G) (ad : Nat → Nat) (ca : Nat → ClassId) (Q : Option Value → Hp → Prop) : Array Value → State → Outcome → State → Prop := fun _ st o t => (∃ (v : Option Value) (h' : Hp), o = .returned v ∧ Q v h' ∧ Rl D ad ca h' t.heap) ∧ va_F (adS ad) st t
def PcM (D : va_G) (ad : Nat → Nat) (ca : Nat → ClassId) (av : List Value) (h : Hp) : Array Value → State → Prop := va_Pc av (fun U => Rl D ad ca h U.heap ∧ va_K D classes (tysC ca) U)
theorem met_of {D : va_G} {ad : Nat → Nat} {ca : Nat → ClassId} {Mc : MI} {y : MethodName} {av : List Value} {h : Hp} {Q : Option Value → Hp → Prop} (l : Launch) (hy : plainName y.cls = true) (hyc : y.cls = Mc.1) (hav : (lg_sl av).length ≤ Mc.2.2.1) (hinj : ∀ i j, i < 46 → j < 46 → ad i = ad j → i = j)
    (hw : WP D ad ca none Mc 0 (lv_args 0 av) [] h Q) : Met l y (wsM y Mc) (rmM Mc) (PcM D ad ca av h) (QcM D ad ca Q) 0 0 (adS ad) := by
  refine Met.ofW (cc := Mc.2.1) (maxL := Mc.2.2.1) (ret := Mc.2.2.2.2.2) hy rfl ?_
  intro p e s m args below meth c s₁ B hml hv
  obtain ⟨rfl, hR, hK⟩ := hv
  have hts := atoms_spec (ws := wsM y Mc) B.pre
  have hown : s.vm.findClass Mc.1 = some m.cls := by rw [← hyc]; exact findClass_of_methodNamed B.named
  have hl := lv_entry av (n := Mc.2.2.1) hav
  rw [lg_entry_eq]
  refine hw p l e _ s m av.toArray below meth c (adS ad) s.heap [] 0 0 _ _ ⟨B.exec, B.bytes, hml, hown, B.returns, B.notSynchronized, fun w hw => hts w (List.mem_cons_of_mem _ hw), Nat.le_refl _, Nat.le_refl _, Nat.zero_le _, Nat.zero_le _, hK, hinj, fun k hk => ⟨k, hk, rfl⟩, fun b L xs q => by cases q⟩ hR va_S.rf hl ?_
  intro v h' H' locs' ls' pc' hq hR' hS' hrt
  rcases hrt with ⟨x, ty, rfl, hd, ht, hn⟩ | ⟨x, rfl, hd, ht⟩ | ⟨rfl, hd, ht⟩
  · exact W.zret (hlocks := B.notSynchronized) B.exec B.bytes (B.returns.trans ht) hn (fun t ht hW => ⟨⟨_, h', rfl, hq, by rw [ht]; exact hR'⟩, hS'.F ht⟩) hS'.2.2 hd
  · exact W.lret (hlocks := B.notSynchronized) B.exec B.bytes (B.returns.trans ht) (fun t ht hW => ⟨⟨_, h', rfl, hq, by rw [ht]; exact hR'⟩, hS'.F ht⟩) hS'.2.2 hd
  · exact W.vret (hlocks := B.notSynchronized) B.exec B.bytes (B.returns.trans ht) (fun t ht hW => ⟨⟨_, h', rfl, hq, by rw [ht]; exact hR'⟩, hS'.F ht⟩) hS'.2.2 hd
section PC
variable {D : va_G} {ad : Nat → Nat} {ca : Nat → ClassId} {sc : SC} {M : MI} {pc : Nat} {lv : List (Nat × Value)} {st : List Value} {h : Hp} {Q Q' : Option Value → Hp → Prop}
theorem PcM_blind (av : List Value) (h : Hp) : FrameBlind (PcM D ad ca av h) := by
  intro a U g mk q
  obtain ⟨q0, qP, qK⟩ := q
  exact ⟨q0, qP, va_K.moved (u := U) (U := U.calling g mk a) (Vm.Alike.refl U.vm) qK⟩
/-- behind a call -/
theorem P_back {p : Program} {l : Launch} {e : Env} {R : Room} {s : State} {m : MethodId} {args : Array Value} {below : List Frame} {meth : Method} {c : Code} {A : Nat → Prop} {H H0 : Heap} {locs : List Loc} {cells slots : Nat} {Z : State → Prop} {ls : Array Slot} {rest st0 : List Value} {a : Array Value}
    (hr : va_Run p l e R s m args below meth c H locs cells slots 0 0 (F0 m pc ls st0) rest (QcM D ad ca Q a) (adS ad)) (hS : va_S A H0 H locs) (hA : ∀ k, k < 46 → A (ad k))
    (kk : ∀ (v : Option Value) (h' : Hp) (H1 : Heap) (locs1 : List Loc), Q v h' → Rl D ad ca h' H1 → va_S A H0 H1 locs1 → W p l e R s m args below meth c H1 locs1 cells slots Z (F0 m (pc + 3) ls (v.toList ++ rest))) : W p l e R s m args below meth c H locs cells slots Z (F0 m pc ls st0) := by
  intro T hT X
  obtain ⟨v, st₀, t, T', L, h0, X', hL, e1, e2, ⟨⟨v2, h', hv, hq, hR⟩, hz, hk⟩, st⟩ := hr T hT X
  cases hv
  rw [h0] at hz hk
  have hAA : ∀ q, adS ad q → A q := fun q ⟨k, hk, e⟩ => by rw [e]; exact hA k hk
  obtain ⟨t2, a1, b1⟩ := kk v h' T'.heap (locs ++ L) hq (by rw [e1]; exact hR)
    ⟨Nat.le_trans hS.1 (by rw [e1]; exact hz), fun q h1 h2 => by rw [e1, hk q (Nat.lt_of_lt_of_le h1 hS.1) (fun z => h2 (hAA q z))]; exact hS.2.1 q h1 h2, fun q hq => by
      rcases List.mem_append.mp hq with h | h
      · exact hS.2.2 q h
      · exact hAA _ (hL q h)⟩ T' rfl X'
  exact ⟨t2, st t2 a1, b1⟩
theorem good_V {own C : String} {idx : Nat} {y : MethodName} {Mc : MI} (h1 : Cond.methodLink own idx y ∈ TB) (h2 : Cond.instanceMethod y ∈ TB) (h3 : Cond.selects C y y ∈ TB) (h4 : Cond.initialized C ∈ TB) (h5 : Cond.code y Mc.2.1 Mc.2.2.1 Mc.2.2.2.2.2 ∈ TB) : GoodIn TB (wsV own idx C y (wsM y Mc)) := by
  intro w hw
  unfold wsV wsM at hw
  refine TB_good w ?_
  simp only [List.cons_append, List.nil_append, List.mem_cons] at hw
  rcases hw with rfl | rfl | rfl | rfl | rfl | hw
  · exact h1
  · exact h2
  · exact h3
  · exact h4
  · exact h5
  · exact hw
theorem good_S {own : String} {idx : Nat} {y : MethodName} {Mc : MI} (h1 : Cond.methodLink own idx y ∈ TB) (h2 : Cond.static y ∈ TB) (h4 : Cond.initialized y.cls ∈ TB) (h5 : Cond.code y Mc.2.1 Mc.2.2.1 Mc.2.2.2.2.2 ∈ TB) : GoodIn TB (va_wsS own idx y (wsM y Mc)) := by
  intro w hw
  unfold va_wsS wsM at hw
  refine TB_good w ?_
  simp only [List.cons_append, List.nil_append, List.mem_cons] at hw
  rcases hw with rfl | rfl | rfl | rfl | hw
  · exact h1
  · exact h2
  · exact h4
  · exact h5
  · exact hw
theorem P_invV {k ci idx n N : Nat} {T : u_T} {fs : List Value} {Mc : MI} {y : MethodName} {As rest : List Value} (hk : k < 46) (he : wE ad ca k (h k) = .inr (ci, fs)) (hcl : classes[ci]? = some (y.cls, T, N)) (g : GoodIn TB (wsV M.1 idx y.cls y (wsM y Mc)))
    (hy : plainName y.cls = true ∧ y.cls = Mc.1) (hd2 : y.cls = y.cls ∧ y.cls ≠ "java/lang/invoke/MethodHandle" ∧ y.cls ≠ "java/lang/invoke/VarHandle" ∧ (parseMethodDescriptor y.desc).map (fun d => d.parameters.length) = some n) (hroom : Mc.2.2.2.1 + 1 ≤ M.2.2.2.1 ∧ 8 + (Mc.2.2.1 + 11) + Mc.2.2.2.2.1 ≤ M.2.2.2.2.1)
    (hn : As.length = n) (hst : st = As.reverse ++ .ref (ad k) :: rest) (hrest : (rest.map fun v => v.category).sum ≤ 8) (hav : (lg_sl (.ref (ad k) :: As)).length ≤ Mc.2.2.1)
    (hd : decode M.2.1 pc = .ok (.invokevirtual idx, 3)) (kk : WP D ad ca none Mc 0 (lv_args 0 (.ref (ad k) :: As)) [] h (fun v h' => WP D ad ca sc M (pc + 3) lv (v.toList ++ rest) h' Q)) : WP D ad ca sc M pc lv st h Q := by
  subst hst
  intro p l e R s m args below meth c A H locs cells slots Z ls hc hR hS hl hr
  have hK := hc.2.2.2.2.2.2.2.2.2.2.2.1
  refine P_back (va_runV (cc := M.2.1) (nL := M.2.2.1) (Ts := TB) (own := M.1) (As := As) (rest := rest) (b := ad k) (C := y.cls) (n := n) (bytes := Mc.2.1) (maxL := Mc.2.2.1) (ret := Mc.2.2.2.2.2) ⟨hc.1, hc.2.1, hc.2.2.1, hc.2.2.2.1, hc.2.2.2.2.2.2.1⟩ (met_of l hy.1 hy.2 hav hc.2.2.2.2.2.2.2.2.2.2.2.2.1 kk) (cwV n hc.2.2.2.2.2.2.1 g rfl rfl rfl hd2 ⟨Nat.le_trans hroom.1 hc.2.2.2.2.2.2.2.1, Nat.le_trans hroom.2 hc.2.2.2.2.2.2.2.2.1⟩) ⟨PcM_blind _ _, va_recv hK hR.1 hcl (by rw [wsH_at hk, he]), fun U hU hW => ⟨rfl, by rw [hU]; exact hR, va_K.moved hW.alike hK⟩⟩ rfl hn hl.1 rfl (lv_room hrest) hd ⟨hc.2.2.2.2.2.2.2.2.2.1, hc.2.2.2.2.2.2.2.2.2.2.1⟩) hS hc.2.2.2.2.2.2.2.2.2.2.2.2.2.1 ?_
  intro v h' H1 locs1 hq hR1 hS1
  exact hq p l e R s m args below meth c A H1 locs1 cells slots Z ls hc hR1 hS1 hl hr
theorem P_invS {idx n : Nat} {Mc : MI} {y : MethodName} {As rest : List Value} (g : GoodIn TB (va_wsS M.1 idx y (wsM y Mc)))
    (hy : plainName y.cls = true ∧ y.cls = Mc.1) (hd2 : y.cls ≠ "java/lang/invoke/MethodHandle" ∧ y.cls ≠ "java/lang/invoke/VarHandle" ∧ (parseMethodDescriptor y.desc).map (fun d => d.parameters.length) = some n) (hroom : Mc.2.2.2.1 + 1 ≤ M.2.2.2.1 ∧ 8 + (Mc.2.2.1 + 11) + Mc.2.2.2.2.1 ≤ M.2.2.2.2.1)
    (hn : As.length = n) (hst : st = As.reverse ++ rest) (hrest : (rest.map fun v => v.category).sum ≤ 8) (hav : (lg_sl As).length ≤ Mc.2.2.1)
    (hd : decode M.2.1 pc = .ok (.invokestatic idx, 3)) (kk : WP D ad ca none Mc 0 (lv_args 0 As) [] h (fun v h' => WP D ad ca sc M (pc + 3) lv (v.toList ++ rest) h' Q)) : WP D ad ca sc M pc lv st h Q := by
  subst hst
  intro p l e R s m args below meth c A H locs cells slots Z ls hc hR hS hl hr
  have hK := hc.2.2.2.2.2.2.2.2.2.2.2.1
  refine P_back (va_runS (cc := M.2.1) (nL := M.2.2.1) (Ts := TB) (own := M.1) (As := As) (rest := rest) (n := n) (bytes := Mc.2.1) (maxL := Mc.2.2.1) (ret := Mc.2.2.2.2.2) ⟨hc.1, hc.2.1, hc.2.2.1, hc.2.2.2.1, hc.2.2.2.2.2.2.1⟩ (met_of l hy.1 hy.2 hav hc.2.2.2.2.2.2.2.2.2.2.2.2.1 kk) (va_cwS n hc.2.2.2.2.2.2.1 g rfl rfl rfl hd2 ⟨Nat.le_trans hroom.1 hc.2.2.2.2.2.2.2.1, Nat.le_trans hroom.2 hc.2.2.2.2.2.2.2.2.1⟩) ⟨PcM_blind _ _, fun U hU hW => ⟨rfl, by rw [hU]; exact hR, va_K.moved hW.alike hK⟩⟩ rfl hn hl.1 rfl (lv_room hrest) hd ⟨hc.2.2.2.2.2.2.2.2.2.1, hc.2.2.2.2.2.2.2.2.2.2.1⟩) hS hc.2.2.2.2.2.2.2.2.2.2.2.2.2.1 ?_
  intro v h' H1 locs1 hq hR1 hS1
  exact hq p l e R s m args below meth c A H1 locs1 cells slots Z ls hc hR1 hS1 hl hr
/-! what a caller takes of an answer -/
def RI (K : Int → Hp → Prop) : Option Value → Hp → Prop := fun v h' => ∃ r : Int, v = some (vI r) ∧ InR r ∧ K r h'
def RL (K : Int → Hp → Prop) : Option Value → Hp → Prop := fun v h' => ∃ r : Int, v = some (vL r) ∧ InL r ∧ K r h'
def RV (K : Hp → Prop) : Option Value → Hp → Prop := fun v h' => v = none ∧ K h'
theorem P_contI {rest : List Value} (v : Option Value) (h' : Hp) {K : Int → Hp → Prop} (hk : ∀ r h', InR r → K r h' → WP D ad ca sc M pc lv (vI r :: rest) h' Q) (q : RI K v h') : WP D ad ca sc M pc lv (v.toList ++ rest) h' Q := by
  obtain ⟨r, rfl, hr, q⟩ := q
  exact hk r h' hr q
theorem P_contL {rest : List Value} (v : Option Value) (h' : Hp) {K : Int → Hp → Prop} (hk : ∀ r h', InL r → K r h' → WP D ad ca sc M pc lv (vL r :: rest) h' Q) (q : RL K v h') : WP D ad ca sc M pc lv (v.toList ++ rest) h' Q := by
  obtain ⟨r, rfl, hr, q⟩ := q
  exact hk r h' hr q
theorem P_contV {rest : List Value} (v : Option Value) (h' : Hp) {K : Hp → Prop} (hk : ∀ h', K h' → WP D ad ca sc M pc lv rest h' Q) (q : RV K v h') : WP D ad ca sc M pc lv (v.toList ++ rest) h' Q := by
  obtain ⟨rfl, q⟩ := q
  exact hk h' q
end PC
