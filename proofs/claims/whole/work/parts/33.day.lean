/-! the next day -/
def dayC (c : Hp) : Hp := up (up c 0 5 (c 0 5 + 1)) 8 (c 0 5 + 1) (c 8 (c 0 5 + 1 - 1))
def dayM (h : Hp) : Hp := up h 28 0 (h 28 0 + 1)
/-- calm, as it is counted -/
def cl (c : Hp) : Int := if wn c < c 0 6 then c 0 7 + 1 else 0
section DY
variable {D : va_G} {ad : Nat → Nat} {ca : Nat → ClassId} {sc : SC} {h c x : Hp} {Q : Option Value → Hp → Prop} {N n : Int}
theorem inv_day (I : Inv2 N c h) (ht : c 0 5 < 999) : Inv2 N (dayC c) (dayM h) := by
  have A := I.1
  have R := I.2.2.1
  have e := A.1
  have bt := A.2.1
  refine ⟨?_, I.2.1, ⟨fun d d0 d1 => ?_, fun d d0 d1 => ?_, R.2.2⟩, I.2.2.2.1, I.2.2.2.2.1, I.2.2.2.2.2⟩
  · simp [IvA, up, upf, dayC, dayM] at A ⊢
    omega
  · have d1 : d ≤ c 0 5 + 1 := d1
    show upf (c 8) (c 0 5 + 1) (c 8 (c 0 5 + 1 - 1)) d = TAn (h 32) (h 33) d.toNat
    by_cases q : d = c 0 5 + 1
    · rw [q, upf_same, show c 0 5 + 1 - 1 = c 0 5 by omega, R.1 (c 0 5) (by omega) (by omega)]
      obtain ⟨k, ek⟩ : ∃ k : Nat, (k : Int) = c 0 5 := ⟨(c 0 5).toNat, Int.toNat_of_nonneg bt.1⟩
      rw [← ek, show ((k : Int) + 1).toNat = k + 1 by omega, show ((k : Int)).toNat = k by omega]
      show _ = if h 32 ((k + 1 : Nat) : Int) = 0 then TAn (h 32) (h 33) k else _
      rw [if_pos ((R.2.1 ((k + 1 : Nat) : Int) (by omega) (by omega)).2.1 (by omega))]
    · rw [upf_ne _ _ q]
      exact R.1 d d0 (by omega)
  · have q := R.2.1 d d0 d1
    exact ⟨q.1, fun z => q.2.1 (by have z : c 0 5 + 1 < d := z; omega), q.2.2⟩
theorem inv_calm (I : Inv2 N c h) {s : Int} (hs : 0 ≤ s ∧ s ≤ N + 1) : Inv2 (N + 1) (up c 0 7 s) (up h 28 17 s) := by
  have A := I.1
  refine ⟨?_, I.2.1, I.2.2.1, I.2.2.2.1, I.2.2.2.2.1.step, I.2.2.2.2.2⟩
  simp [IvA, up, upf] at A ⊢
  omega
theorem sp_carry {E : Hp} (ht : 0 ≤ E 0 5 ∧ E 0 5 < 999) {K : Hp → Prop} (k : K (dayC E)) : WP D ad ca sc M_RE_carryTiltTo 0 [(0, .ref (ad 7)), (1, vI (E 0 5 + 1))] [] (up E 0 5 (E 0 5 + 1)) (RV K) :=
  F_RE_carryTiltTo_0 (E 0 5 + 1) (by omega) ⟨fun z => absurd z (by omega), fun _ => ⟨fun z => absurd z (by omega), fun _ => ⟨by omega, by omega, RV_mk k⟩⟩⟩
theorem cl_bd (I : Inv2 N h x) : 0 ≤ cl h ∧ cl h ≤ N + 1 := by
  have A := I.1
  unfold IvA at A
  unfold cl
  split <;> omega
theorem sp_endToday (I : Inv2 N h x) (hN : 0 ≤ N ∧ N ≤ 100000)
    (kR1 : h 0 6 < wn h → h 15 5 + h 15 6 < 200 → ∀ g, Q none (msg0 (lv0 (sw h 6 g) (wn h)) (h 0 5) (wn h) (rsA h (wn h) (h 10 4).toNat 0)))
    (kR2 : h 0 6 < wn h → 200 ≤ h 15 5 + h 15 6 → ∀ g, Q none (up (lv0 (sw h 6 g) (wn h)) 15 3 (h 15 3 + 1)))
    (kC : wn h ≤ h 0 6 → (cl h < h 0 8 ∨ h 0 6 ≤ 0) → ∀ g, Q none (up (sw h 6 g) 0 7 (cl h)))
    (kL1 : wn h ≤ h 0 6 → h 0 8 ≤ cl h → 0 < h 0 6 → h 15 5 + h 15 6 < 200 → ∀ g, Q none (msg0 (lv0 (up (sw h 6 g) 0 7 (cl h)) (h 0 6 - 1)) (h 0 5) (h 0 6 - 1) 21))
    (kL2 : wn h ≤ h 0 6 → h 0 8 ≤ cl h → 0 < h 0 6 → 200 ≤ h 15 5 + h 15 6 → ∀ g, Q none (up (lv0 (up (sw h 6 g) 0 7 (cl h)) (h 0 6 - 1)) 15 3 (h 15 3 + 1))) :
    WP D ad ca sc M_MW_endToday 0 [(0, .ref (ad 0))] [] h Q := by
  have A := I.1
  unfold IvA at A
  have wb := wn_bd I
  have cb := cl_bd I
  have bn := I.2.2.2.1.2.1
  have rb := rsA_bd h (wn h) (h 10 4).toNat 0 (by omega) (by omega)
  obtain ⟨m1, m2, m3, m4, m5, m6⟩ := I.2.2.2.2.1.facts
  have low : wn h ≤ h 0 6 → ∀ g s, s = cl h → WP D ad ca sc M_MW_endToday 44 [(0, .ref (ad 0))] [vI s, .ref (ad 0)] (sw h 6 g) Q := by
    intro q g s hs
    subst hs
    refine F_MW_endToday_44 (cl h) (by omega) ⟨fun c1 => kC q (Or.inl c1) g, fun c1 => ⟨fun c2 => kC q (Or.inr c2) g, fun c2 => ?_⟩⟩
    refine sp_MW_setLevel (h := up (sw h 6 g) 0 7 (cl h)) (v1 := h 0 6 - 1) (v2 := 21) (by omega) (by omega) ?_ ?_ ?_ (fun z => ?_) (fun z => RI_mk ?_ (kL1 q c1 c2 z g)) (fun z => RI_mk ?_ (kL2 q c1 c2 z g))
    · show InR (h 0 5)
      omega
    · show 0 ≤ h 15 3 ∧ h 15 3 ≤ 1000000
      omega
    · show 0 ≤ h 15 5 ∧ 0 ≤ h 15 6 ∧ h 15 5 + h 15 6 ≤ 200
      omega
    · have z : h 15 5 + h 15 6 < 200 := z
      exact (m6 (by omega)).1
    · show InR (h 15 3 + 1)
      omega
    · show InR (h 15 3 + 1)
      omega
  refine F_MW_endToday_0 (sp_wantedToday I (fun g => RI_mk (by omega) ⟨fun q => ⟨fun q2 => ?_, fun q2 => ?_⟩, fun q => ?_⟩))
  · have q : wn h ≤ h 0 6 := q
    have q2 : h 0 6 ≤ wn h := q2
    refine low q g 0 ?_
    unfold cl; rw [if_neg (by omega)]
  · have q2 : wn h < h 0 6 := q2
    refine low q g _ ?_
    unfold cl; rw [if_pos q2]; rfl
  · have q : h 0 6 < wn h := q
    have I2 : Inv2 N (sw h 6 g) x := I
    refine sp_reason I2 (by omega) (fun g2 => ?_)
    have er : rsA (sw h 6 g) (wn h) ((sw h 6 g) 10 4).toNat 0 = rsA h (wn h) (h 10 4).toNat 0 := rsA_sw h g (wn h) _ 0
    rw [er, sw_sw]
    refine RI_mk (by omega) (sp_MW_setLevel (h := sw h 6 g2) (v1 := wn h) (by omega) (by omega) ?_ ?_ ?_ (fun z => ?_) (fun z => RI_mk ?_ (kR1 q z g2)) (fun z => RI_mk ?_ (kR2 q z g2)))
    · show InR (h 0 5)
      omega
    · show 0 ≤ h 15 3 ∧ h 15 3 ≤ 1000000
      omega
    · show 0 ≤ h 15 5 ∧ 0 ≤ h 15 6 ∧ h 15 5 + h 15 6 ≤ 200
      omega
    · have z : h 15 5 + h 15 6 < 200 := z
      exact (m6 (by omega)).1
    · show InR (h 15 3 + 1)
      omega
    · show InR (h 15 3 + 1)
      omega
theorem sp_MOnext (I : Inv2 N c h) (hN : 0 ≤ N ∧ N ≤ 100000) (ht : c 0 5 < 999)
    (kR1 : c 0 6 < wn c → h 28 20 < 200 → ∀ h', Mk c h h' → Q (some (vI (wn c))) (dayM (mtl (trn h' (wn c)) 0 (h' 28 22 + 1) (wn c) (rsA c (wn c) (c 10 4).toNat 0))))
    (kR2 : c 0 6 < wn c → 200 ≤ h 28 20 → ∀ h', Mk c h h' → Q (some (vI (wn c))) (dayM (trn h' (wn c))))
    (kC : wn c ≤ c 0 6 → (cl c < c 0 8 ∨ c 0 6 ≤ 0) → ∀ h', Mk c h h' → Q (some (vI (c 0 6))) (dayM (up h' 28 17 (cl c))))
    (kL1 : wn c ≤ c 0 6 → c 0 8 ≤ cl c → 0 < c 0 6 → h 28 20 < 200 → ∀ h', Mk c h h' → Q (some (vI (c 0 6 - 1))) (dayM (mtl (trn (up h' 28 17 (cl c)) (c 0 6 - 1)) 0 (h' 28 22 + 1) (c 0 6 - 1) 21)))
    (kL2 : wn c ≤ c 0 6 → c 0 8 ≤ cl c → 0 < c 0 6 → 200 ≤ h 28 20 → ∀ h', Mk c h h' → Q (some (vI (c 0 6 - 1))) (dayM (trn (up h' 28 17 (cl c)) (c 0 6 - 1)))) :
    WP D ad ca sc M_MO_next 0 [(0, .ref (ad 28))] [] h Q := by
  have A := I.1
  unfold IvA at A
  have wb := wn_bd I
  have cb := cl_bd I
  have bn := I.2.2.2.1.2.1
  have rb := rsA_bd c (wn c) (c 10 4).toNat 0 (by omega) (by omega)
  have keep : ∀ h', Mk c h h' → h' 28 20 = h 28 20 := by
    intro h' mk
    rcases mk with rfl | ⟨g, hg, rfl⟩ <;> rfl
  have low : wn c ≤ c 0 6 → ∀ h' s, Mk c h h' → s = cl c → WP D ad ca sc M_MO_next 103 [(0, .ref (ad 28))] [vI s, .ref (ad 28)] h' Q := by
    intro q h' s mk hs
    subst hs
    have I1 := mk.inv I
    have A1 := I1.1
    unfold IvA at A1
    have ek := keep h' mk
    obtain ⟨m1, m2, m3, m4, m5, m6⟩ := I1.2.2.2.2.1.facts
    have calm : (cl c < c 0 8 ∨ c 0 6 ≤ 0) → Q (some (vI (h' 28 16))) (up (up h' 28 17 (cl c)) 28 0 (h' 28 0 + 1)) := by
      intro z
      have := kC q z h' mk
      rw [A1.2.2.1] at this
      exact this
    refine F_MO_next_103 (cl c) (by omega) ⟨fun c1 => ⟨by omega, calm (Or.inl (by omega))⟩, fun c1 => ⟨fun c2 => ⟨by omega, calm (Or.inr (by omega))⟩, fun c2 => ?_⟩⟩
    have e6 : c 0 6 = h' 28 16 := A1.2.2.1
    refine sp_MO_turns (h := up h' 28 17 (cl c)) (v1 := h' 28 16 - 1) (v2 := 21) (by omega) (by omega) ?_ ?_ (fun z => RI_mk ?_ ⟨?_, ?_⟩) (fun z => RI_mk ?_ ⟨?_, ?_⟩)
    · show 0 ≤ h' 28 22 ∧ h' 28 22 ≤ 1000000
      omega
    · show 0 ≤ h' 28 20 ∧ h' 28 20 ≤ 200
      omega
    · show InR (h' 28 22 + 1)
      omega
    · show InR (h' 28 0 + 1)
      omega
    · have z : h' 28 20 < 200 := z
      have := kL1 q (by omega) (by omega) (by omega) h' mk
      rw [e6] at this
      exact this
    · show InR (h' 28 22 + 1)
      omega
    · show InR (h' 28 0 + 1)
      omega
    · have z : 200 ≤ h' 28 20 := z
      have := kL2 q (by omega) (by omega) (by omega) h' mk
      rw [e6] at this
      exact this
  refine F_MO_next_0 ⟨fun _ => sp_MOwanted I (fun h' mk => RI_mk (by omega) ?_), fun z => absurd z (by omega)⟩
  have I1 := mk.inv I
  have A1 := I1.1
  unfold IvA at A1
  refine ⟨fun q => ⟨fun q2 => low (by omega) h' 0 mk (by unfold cl; rw [if_neg (by omega)]), fun q2 => low (by omega) h' _ mk (by unfold cl; rw [if_pos (by omega)]; omega)⟩, fun q => ?_⟩
  have en := I1.2.2.2.1.1
  have go := sp_MOreason_loop (D := D) (ad := ad) (ca := ca) (sc := sc) (Q := Q) (w := wn c) I1 (by omega) (fun h2 m2 => ?_) (c 10 4).toNat h' (Mk.rf c h') (by omega)
  · have e1 : rsA c (wn c) ((c 10 4).toNat - (c 10 4).toNat) (((c 10 4).toNat : Nat) : Int) = 20 := by rw [Nat.sub_self]; rfl
    rw [e1, show (((c 10 4).toNat : Nat) : Int) - 1 = h' 28 10 - 1 by omega] at go
    exact go
  · have mk2 := mk.trans m2
    have I2 := mk2.inv I
    have A2 := I2.1
    unfold IvA at A2
    have ek := keep h2 mk2
    obtain ⟨m1, m2, m3, m4, m5, m6⟩ := I2.2.2.2.2.1.facts
    refine F_MO_next_36 (wn c) _ (-1) (by omega) (by omega) (by omega) ⟨fun _ => sp_MO_turns (v1 := wn c) (by omega) (by omega) (by omega) (by omega) (fun z => RI_mk (by omega) ⟨?_, ?_⟩) (fun z => RI_mk (by omega) ⟨?_, ?_⟩), fun z => absurd z (by omega)⟩
    · show InR (h2 28 0 + 1)
      omega
    · exact kR1 (by omega) (by omega) h2 mk2
    · show InR (h2 28 0 + 1)
      omega
    · exact kR2 (by omega) (by omega) h2 mk2
theorem Mk.cells {h1 h' : Hp} (m : Mk c h1 h') (k : Nat) (hk : k < 28) : h' k = h1 k := by
  rcases m with rfl | ⟨g, hg, rfl⟩
  · rfl
  · simp [mkd, sw, up, show k ≠ 31 by omega, show k ≠ 28 by omega]
theorem Inv2.same {h : Hp} (I : Inv2 N c h) (e : ∀ k, k < 28 → h k = c k) : Inv N h := by
  unfold Inv Inv2 at *
  rw [e 0 (by omega), e 1 (by omega), e 2 (by omega), e 3 (by omega), e 4 (by omega), e 5 (by omega), e 8 (by omega), e 9 (by omega), e 10 (by omega), e 11 (by omega), e 12 (by omega), e 13 (by omega), e 14 (by omega), e 15 (by omega), e 16 (by omega), e 17 (by omega), e 18 (by omega), e 19 (by omega), e 20 (by omega), e 21 (by omega), e 22 (by omega), e 23 (by omega), e 24 (by omega), e 25 (by omega)]
  exact I
theorem pa_next (hN : 0 ≤ N ∧ N ≤ 100000) (I : Inv N h) : WP D ad ca none M_MW_next 0 [(0, .ref (ad 0))] [] h (RI (fun r h1 => WP D ad ca none M_MO_next 0 [(0, .ref (ad 28))] [] h1 (RI (SameA N r)))) := by
  have A := I.1
  unfold IvA at A
  have wb := wn_bd I
  have cb := cl_bd I
  obtain ⟨m1, m2, m3, m4, m5, m6⟩ := I.2.2.2.2.1.facts
  have mki : ∀ {g h1 h'}, (∀ k, 28 ≤ k → h1 k = h k) → Mk h h1 h' → Inv2 N (sw h 6 g) h' := by
    intro g h1 h' e mk
    have e28 := e 28 (by omega)
    have I1 : Inv2 N h h1 := by
      unfold Inv2 Inv at *
      unfold Inv2 at I
      rw [e28, e 29 (by omega), e 30 (by omega), e 31 (by omega), e 32 (by omega), e 33 (by omega), e 34 (by omega), e 35 (by omega), e 36 (by omega), e 37 (by omega), e 38 (by omega), e 39 (by omega), e 40 (by omega), e 41 (by omega), e 42 (by omega), e 43 (by omega)]
      exact I
    exact mk.inv I1
  refine F_MW_next_0 ⟨fun ht => sp_endToday I hN (fun q z g => RV_mk ⟨?_, sp_carry ?_ (RI_mk ?_ (sp_MOnext (c := h) I hN ht (fun q2 z2 h' mk => ?_) (fun q2 z2 h' mk => ?_) (fun q2 z2 h' mk => ?_) (fun q2 z2 z3 z4 h' mk => ?_) (fun q2 z2 z3 z4 h' mk => ?_)))⟩) (fun q z g => RV_mk ⟨?_, sp_carry ?_ (RI_mk ?_ (sp_MOnext (c := h) I hN ht (fun q2 z2 h' mk => ?_) (fun q2 z2 h' mk => ?_) (fun q2 z2 h' mk => ?_) (fun q2 z2 z3 z4 h' mk => ?_) (fun q2 z2 z3 z4 h' mk => ?_)))⟩) (fun q z g => RV_mk ⟨?_, sp_carry ?_ (RI_mk ?_ (sp_MOnext (c := h) I hN ht (fun q2 z2 h' mk => ?_) (fun q2 z2 h' mk => ?_) (fun q2 z2 h' mk => ?_) (fun q2 z2 z3 z4 h' mk => ?_) (fun q2 z2 z3 z4 h' mk => ?_)))⟩) (fun q y1 y2 z g => RV_mk ⟨?_, sp_carry ?_ (RI_mk ?_ (sp_MOnext (c := h) I hN ht (fun q2 z2 h' mk => ?_) (fun q2 z2 h' mk => ?_) (fun q2 z2 h' mk => ?_) (fun q2 z2 z3 z4 h' mk => ?_) (fun q2 z2 z3 z4 h' mk => ?_)))⟩) (fun q y1 y2 z g => RV_mk ⟨?_, sp_carry ?_ (RI_mk ?_ (sp_MOnext (c := h) I hN ht (fun q2 z2 h' mk => ?_) (fun q2 z2 h' mk => ?_) (fun q2 z2 h' mk => ?_) (fun q2 z2 z3 z4 h' mk => ?_) (fun q2 z2 z3 z4 h' mk => ?_)))⟩), fun ht => RI_mk (by omega) (F_MO_next_0 ⟨fun z => absurd (by omega) z, fun z => done (by omega) I.step⟩)⟩
  -- raised, kept
  · show InR (h 0 5 + 1)
    omega
  · show 0 ≤ h 0 5 ∧ h 0 5 < 999
    omega
  · show InR (wn h)
    omega
  · have J : Inv2 (N + 1) (dayC (msg0 (lv0 (sw h 6 g) (wn h)) (h 0 5) (wn h) (rsA h (wn h) (h 10 4).toNat 0))) (dayM (mtl (trn h' (wn h)) 0 (h' 28 22 + 1) (wn h) (rsA h (wn h) (h 10 4).toNat 0))) := inv_day (inv_lev1 (c := sw h 6 g) (mki (g := g) (fun k hk => by simp [dayC, msg0, lv0, up, sw, show k ≠ 8 by omega, show k ≠ 0 by omega, show k ≠ 15 by omega, show k ≠ 16 by omega, show k ≠ 17 by omega, show k ≠ 18 by omega, show k ≠ 6 by omega]) mk) (by
      have : h' 28 20 = h 28 20 := by rcases mk with rfl | ⟨g9, hg9, rfl⟩ <;> rfl
      rw [this]; exact z2) (by omega) hN.1) ht
    exact done2 (r := wn h) (by omega) rfl (J.same (fun k hk => by rw [← mk.cells k hk]; simp [dayM, mtl, trn, up, show k ≠ 28 by omega, show k ≠ 39 by omega]))
  · have z2 : 200 ≤ h 28 20 := z2
    omega
  · omega
  · omega
  · omega
  -- raised, not kept
  · show InR (h 0 5 + 1)
    omega
  · show 0 ≤ h 0 5 ∧ h 0 5 < 999
    omega
  · show InR (wn h)
    omega
  · have z2 : h 28 20 < 200 := z2
    omega
  · have J : Inv2 (N + 1) (dayC (up (lv0 (sw h 6 g) (wn h)) 15 3 (h 15 3 + 1))) (dayM (trn h' (wn h))) := inv_day (inv_lev2 (c := sw h 6 g) (mki (g := g) (fun k hk => by simp [dayC, lv0, up, sw, show k ≠ 8 by omega, show k ≠ 0 by omega, show k ≠ 15 by omega, show k ≠ 6 by omega]) mk) (by
      have : h' 28 20 = h 28 20 := by rcases mk with rfl | ⟨g9, hg9, rfl⟩ <;> rfl
      rw [this]; exact z2) (by omega) hN.1) ht
    exact done2 (r := wn h) (by omega) rfl (J.same (fun k hk => by rw [← mk.cells k hk]; simp [dayM, trn, up, show k ≠ 28 by omega]))
  · omega
  · omega
  · omega
  -- calm
  · show InR (h 0 5 + 1)
    omega
  · show 0 ≤ h 0 5 ∧ h 0 5 < 999
    omega
  · show InR (h 0 6)
    omega
  · omega
  · omega
  · have J : Inv2 (N + 1) (dayC (up (sw h 6 g) 0 7 (cl h))) (dayM (up h' 28 17 (cl h))) := inv_day (inv_calm (mki (g := g) (fun k hk => by simp [dayC, up, sw, show k ≠ 8 by omega, show k ≠ 0 by omega, show k ≠ 6 by omega]) mk) cb) ht
    exact done2 (r := h 0 6) (by omega) rfl (J.same (fun k hk => by rw [← mk.cells k hk]; simp [dayM, up, show k ≠ 28 by omega]))
  · omega
  · omega
  -- let down, kept
  · show InR (h 0 5 + 1)
    omega
  · show 0 ≤ h 0 5 ∧ h 0 5 < 999
    omega
  · show InR (h 0 6 - 1)
    omega
  · omega
  · omega
  · omega
  · have I1 := mki (g := g) (fun k hk => by simp [dayC, msg0, lv0, up, sw, show k ≠ 8 by omega, show k ≠ 0 by omega, show k ≠ 15 by omega, show k ≠ 16 by omega, show k ≠ 17 by omega, show k ≠ 18 by omega, show k ≠ 6 by omega]) mk
    have e20 : h' 28 20 = h 28 20 := by rcases mk with rfl | ⟨g9, hg9, rfl⟩ <;> rfl
    have I2 : Inv2 N (up (sw h 6 g) 0 7 0) (up h' 28 17 0) := by
      have A9 := I1.1
      refine ⟨?_, I1.2.1, I1.2.2.1, I1.2.2.2.1, I1.2.2.2.2.1, I1.2.2.2.2.2⟩
      simp [IvA, up, upf, sw] at A9 ⊢
      omega
    have I3 := inv_lev1 (v := h 0 6 - 1) (r := 21) I2 (by show h' 28 20 < 200; rw [e20]; exact z4) (by omega) hN.1
    have J : Inv2 (N + 1) (dayC (msg0 (lv0 (up (sw h 6 g) 0 7 (cl h)) (h 0 6 - 1)) (h 0 5) (h 0 6 - 1) 21)) (dayM (mtl (trn (up h' 28 17 (cl h)) (h 0 6 - 1)) 0 (h' 28 22 + 1) (h 0 6 - 1) 21)) := inv_day (by
      have ec : msg0 (lv0 (up (sw h 6 g) 0 7 (cl h)) (h 0 6 - 1)) (h 0 5) (h 0 6 - 1) 21 = msg0 (lv0 (up (sw h 6 g) 0 7 0) (h 0 6 - 1)) (h 0 5) (h 0 6 - 1) 21 := by
        have : lv0 (up (sw h 6 g) 0 7 (cl h)) (h 0 6 - 1) = lv0 (up (sw h 6 g) 0 7 0) (h 0 6 - 1) := by
          unfold lv0
          funext k
          by_cases e0 : k = 0
          · subst e0
            funext i
            simp [up, upf]
            by_cases e7 : i = 7 <;> simp [e7]
          · simp [up, e0]
        rw [this]
      have em : mtl (trn (up h' 28 17 (cl h)) (h 0 6 - 1)) 0 (h' 28 22 + 1) (h 0 6 - 1) 21 = mtl (trn (up h' 28 17 0) (h 0 6 - 1)) 0 (h' 28 22 + 1) (h 0 6 - 1) 21 := by
        have : trn (up h' 28 17 (cl h)) (h 0 6 - 1) = trn (up h' 28 17 0) (h 0 6 - 1) := by
          unfold trn
          funext k
          by_cases e0 : k = 28
          · subst e0
            funext i
            simp [up, upf]
            by_cases e7 : i = 17 <;> simp [e7]
          · simp [up, e0]
        rw [this]
      rw [ec, em]
      exact I3) ht
    exact done2 (r := h 0 6 - 1) (by omega) rfl (J.same (fun k hk => by rw [← mk.cells k hk]; simp [dayM, mtl, trn, up, show k ≠ 28 by omega, show k ≠ 39 by omega]))
  · have z4 : 200 ≤ h 28 20 := z4
    omega
  -- let down, not kept
  · show InR (h 0 5 + 1)
    omega
  · show 0 ≤ h 0 5 ∧ h 0 5 < 999
    omega
  · show InR (h 0 6 - 1)
    omega
  · omega
  · omega
  · omega
  · have z4 : h 28 20 < 200 := z4
    omega
  · have I1 := mki (g := g) (fun k hk => by simp [dayC, lv0, up, sw, show k ≠ 8 by omega, show k ≠ 0 by omega, show k ≠ 15 by omega, show k ≠ 6 by omega]) mk
    have e20 : h' 28 20 = h 28 20 := by rcases mk with rfl | ⟨g9, hg9, rfl⟩ <;> rfl
    have I2 : Inv2 N (up (sw h 6 g) 0 7 0) (up h' 28 17 0) := by
      have A9 := I1.1
      refine ⟨?_, I1.2.1, I1.2.2.1, I1.2.2.2.1, I1.2.2.2.2.1, I1.2.2.2.2.2⟩
      simp [IvA, up, upf, sw] at A9 ⊢
      omega
    have I3 := inv_lev2 (v := h 0 6 - 1) I2 (by show 200 ≤ h' 28 20; rw [e20]; exact z4) (by omega) hN.1
    have J : Inv2 (N + 1) (dayC (up (lv0 (up (sw h 6 g) 0 7 (cl h)) (h 0 6 - 1)) 15 3 (h 15 3 + 1))) (dayM (trn (up h' 28 17 (cl h)) (h 0 6 - 1))) := inv_day (by
      have ec : lv0 (up (sw h 6 g) 0 7 (cl h)) (h 0 6 - 1) = lv0 (up (sw h 6 g) 0 7 0) (h 0 6 - 1) := by
        unfold lv0
        funext k
        by_cases e0 : k = 0
        · subst e0
          funext i
          simp [up, upf]
          by_cases e7 : i = 7 <;> simp [e7]
        · simp [up, e0]
      have em : trn (up h' 28 17 (cl h)) (h 0 6 - 1) = trn (up h' 28 17 0) (h 0 6 - 1) := by
        unfold trn
        funext k
        by_cases e0 : k = 28
        · subst e0
          funext i
          simp [up, upf]
          by_cases e7 : i = 17 <;> simp [e7]
        · simp [up, e0]
      rw [ec, em]
      exact I3) ht
    exact done2 (r := h 0 6 - 1) (by omega) rfl (J.same (fun k hk => by rw [← mk.cells k hk]; simp [dayM, trn, up, show k ≠ 28 by omega]))
end DY
