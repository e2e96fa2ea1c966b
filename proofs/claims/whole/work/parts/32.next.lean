/-! what is wanted, and the next day -/
/-- wanted, from law k on, m laws -/
def wnR (c : Hp) : Nat → Int → Int → Int
  | 0, w, _ => w
  | m + 1, w, k => wnR c m (if w < c 11 k ∧ c 13 k ≤ mv c k (c 0 5) then c 11 k else w) (k + 1)
def wn (c : Hp) : Int := wnR c (c 10 4).toNat (if c 0 5 < c 0 10 then c 0 9 else 0) 0
/-- the least law that raises to w, from law k on -/
def rsA (c : Hp) (w : Int) : Nat → Int → Int
  | 0, _ => 20
  | m + 1, k => if c 11 k = w ∧ c 13 k ≤ mv c k (c 0 5) then k else rsA c w m (k + 1)
theorem wnR_sw (h : Hp) (g : Int → Int) : ∀ (m : Nat) (w k : Int), wnR (sw h 6 g) m w k = wnR h m w k
  | 0, _, _ => rfl
  | m + 1, w, k => wnR_sw h g m (if w < h 11 k ∧ h 13 k ≤ mv h k (h 0 5) then h 11 k else w) (k + 1)
theorem rsA_sw (h : Hp) (g : Int → Int) (w : Int) : ∀ (m : Nat) (k : Int), rsA (sw h 6 g) w m k = rsA h w m k
  | 0, _ => rfl
  | m + 1, k => by
    show (if h 11 k = w ∧ h 13 k ≤ mv h k (h 0 5) then k else rsA (sw h 6 g) w m (k + 1)) = (if h 11 k = w ∧ h 13 k ≤ mv h k (h 0 5) then k else rsA h w m (k + 1))
    rw [rsA_sw h g w m (k + 1)]
theorem wnR_bd {N : Int} {c x : Hp} (I : Inv2 N c x) : ∀ (m : Nat) (w k : Int), 0 ≤ w → w ≤ 4 → 0 ≤ k → k + m = c 10 4 → 0 ≤ wnR c m w k ∧ wnR c m w k ≤ 4
  | 0, w, k, h0, h1, _, _ => ⟨h0, h1⟩
  | m + 1, w, k, h0, h1, hk, hm => by
    have l := I.2.2.2.1.2.2 k hk (by omega)
    refine wnR_bd I m _ (k + 1) ?_ ?_ (by omega) (by omega)
    · split <;> omega
    · split <;> omega
theorem wn_bd {N : Int} {c x : Hp} (I : Inv2 N c x) : 0 ≤ wn c ∧ wn c ≤ 4 := by
  obtain ⟨e1, e2, e3⟩ := held_eq I.1
  have bn := I.2.2.2.1.2.1
  exact wnR_bd I _ _ _ e2 e3 (by omega) (by omega)
theorem rsA_bd (c : Hp) (w : Int) : ∀ (m : Nat) (k : Int), 0 ≤ k → k + m ≤ 8 → 0 ≤ rsA c w m k ∧ rsA c w m k ≤ 20
  | 0, _, _, _ => by unfold rsA; omega
  | m + 1, k, h0, h1 => by
    have := rsA_bd c w m (k + 1) (by omega) (by omega)
    unfold rsA; split <;> omega
section NX
variable {D : va_G} {ad : Nat → Nat} {ca : Nat → ClassId} {sc : SC} {h c x : Hp} {Q : Option Value → Hp → Prop} {N n : Int}
theorem sp_holdsTrue {k d : Int} (I : Inv2 N h x) (hk : 0 ≤ k ∧ k < h 10 4) (hd : 0 ≤ d ∧ d ≤ h 0 5) (k1 : h 13 k ≤ mv h k d → ∀ g, Q (some (vI 1)) (sw h 6 g)) (k0 : ¬ h 13 k ≤ mv h k d → ∀ g, Q (some (vI 0)) (sw h 6 g)) : WP D ad ca sc M_MW_holdsTrue 0 [(0, .ref (ad 0)), (1, vI k), (2, vI d)] [] h Q := by
  have bt := I.1.2.1
  have bn := I.2.2.2.1.2.1
  have mb := mv_bd I hk hd
  refine F_MW_holdsTrue_0 k d (by omega) (by omega) (sp_measured I hk hd (fun g => RI_mk (by omega) ⟨by omega, fun q => ?_, fun q => ?_⟩))
  · have q : mv h k d < h 13 k := q
    exact k0 (by omega) g
  · exact k1 q g
theorem sp_holdsOn {k d : Int} (I : Inv2 N c h) (hk : 0 ≤ k ∧ k < c 10 4) (hd : 0 ≤ d ∧ d ≤ c 0 5) (k1 : c 13 k ≤ mv c k d → ∀ h', Mk c h h' → Q (some (vI 1)) h') (k0 : ¬ c 13 k ≤ mv c k d → ∀ h', Mk c h h' → Q (some (vI 0)) h') : WP D ad ca sc M_MO_holdsOn 0 [(0, .ref (ad 28)), (1, vI k), (2, vI d)] [] h Q := by
  have bt := I.1.2.1
  have bn := I.2.2.2.1.2.1
  have mb := mv_bd I hk hd
  refine F_MO_holdsOn_0 k d (by omega) (by omega) (sp_measureOf I hk hd (fun h' m => RI_mk (by omega) ?_))
  have l := (m.inv I).2.2.2.1.2.2 k hk.1 hk.2
  exact ⟨by omega, fun q => k0 (by omega) h' m, fun q => k1 (by omega) h' m⟩
theorem sp_wanted_loop (I : Inv2 N h x) (k : ∀ g, Q (some (vI (wn h))) (sw h 6 g)) : ∀ (m : Nat) (w j : Int) (g : Int → Int), 0 ≤ w → w ≤ 4 → 0 ≤ j → j + m = h 10 4 → wnR h m w j = wn h →
    WP D ad ca sc M_MW_wantedToday 7 [(0, .ref (ad 0)), (1, vI w), (2, vI j)] [] (sw h 6 g) Q := by
  have bn := I.2.2.2.1.2.1
  have bt := I.1.2.1
  intro m
  induction m with
  | zero =>
    intro w j g w0 w1 j0 hm e
    refine F_MW_wantedToday_7 w j (by omega) (by omega) ⟨fun c => ?_, fun c => ?_⟩
    · have := k g
      rw [← e] at this
      exact this
    · have c : j < h 10 4 := c
      omega
  | succ m ih =>
    intro w j g w0 w1 j0 hm e
    have l := I.2.2.2.1.2.2 j j0 (by omega)
    have e : wnR h m (if w < h 11 j ∧ h 13 j ≤ mv h j (h 0 5) then h 11 j else w) (j + 1) = wn h := e
    refine F_MW_wantedToday_7 w j (by omega) (by omega) ⟨fun c => ?_, fun c => ⟨by omega, fun c1 => ?_, fun c1 => ?_⟩⟩
    · have c : h 10 4 ≤ j := c
      omega
    · have c1 : h 11 j ≤ w := c1
      rw [if_neg (by omega)] at e
      exact ih w (j + 1) g w0 w1 (by omega) (by omega) e
    · have c1 : w < h 11 j := c1
      have I2 : Inv2 N (sw h 6 g) x := I
      refine sp_holdsTrue I2 ⟨j0, by show j < h 10 4; omega⟩ ⟨by show 0 ≤ h 0 5; omega, Int.le_refl _⟩ (fun q g2 => rb1 ⟨by omega, ?_⟩) (fun q g2 => rb0 ?_)
      · rw [if_pos ⟨c1, q⟩] at e
        rw [sw_sw]
        exact ih (h 11 j) (j + 1) g2 (by omega) (by omega) (by omega) (by omega) e
      · rw [if_neg (fun z => q z.2)] at e
        rw [sw_sw]
        exact ih w (j + 1) g2 w0 w1 (by omega) (by omega) e
theorem sp_wantedToday (I : Inv2 N h x) (k : ∀ g, Q (some (vI (wn h))) (sw h 6 g)) : WP D ad ca sc M_MW_wantedToday 0 [(0, .ref (ad 0))] [] h Q := by
  obtain ⟨e1, e2, e3⟩ := held_eq I.1
  have bn := I.2.2.2.1.2.1
  refine F_MW_wantedToday_0 (sp_MW_held (RI_mk (by omega) ?_))
  have := sp_wanted_loop (D := D) (ad := ad) (ca := ca) (sc := sc) I k (h 10 4).toNat _ 0 (h 6) e2 e3 (by omega) (by omega) rfl
  rw [sw_self] at this
  exact this
theorem sp_MOwanted_loop (I : Inv2 N c h) (k : ∀ h', Mk c h h' → Q (some (vI (wn c))) h') : ∀ (m : Nat) (w j : Int) (h1 : Hp), Mk c h h1 → 0 ≤ w → w ≤ 4 → 0 ≤ j → j + m = c 10 4 → wnR c m w j = wn c →
    WP D ad ca sc M_MO_wanted 7 [(0, .ref (ad 28)), (1, vI w), (2, vI j)] [] h1 Q := by
  have bn := I.2.2.2.1.2.1
  have bt := I.1.2.1
  intro m
  induction m with
  | zero =>
    intro w j h1 mk w0 w1 j0 hm e
    have I1 := mk.inv I
    have en := I1.2.2.2.1.1
    refine F_MO_wanted_7 w j (by omega) (by omega) ⟨fun c => ?_, fun c => absurd c (by omega)⟩
    have := k h1 mk
    rw [← e] at this
    exact this
  | succ m ih =>
    intro w j h1 mk w0 w1 j0 hm e
    have I1 := mk.inv I
    have en := I1.2.2.2.1.1
    have et := I1.1.1
    have l := I1.2.2.2.1.2.2 j j0 (by omega)
    have e : wnR c m (if w < c 11 j ∧ c 13 j ≤ mv c j (c 0 5) then c 11 j else w) (j + 1) = wn c := e
    refine F_MO_wanted_7 w j (by omega) (by omega) ⟨fun z => absurd z (by omega), fun z => ⟨by omega, fun c1 => ?_, fun c1 => ?_⟩⟩
    · rw [if_neg (by omega)] at e
      exact ih w (j + 1) h1 mk w0 w1 (by omega) (by omega) e
    · rw [← et]
      refine sp_holdsOn I1 ⟨j0, by omega⟩ ⟨bt.1, Int.le_refl _⟩ (fun q h2 m2 => rb1 ⟨by omega, ?_⟩) (fun q h2 m2 => rb0 ?_)
      · rw [if_pos ⟨by omega, q⟩] at e
        have l2 := ((mk.trans m2).inv I).2.2.2.1.2.2 j j0 (by omega)
        rw [← l2.1.1]
        exact ih (c 11 j) (j + 1) h2 (mk.trans m2) (by omega) (by omega) (by omega) (by omega) e
      · rw [if_neg (fun z => q z.2)] at e
        exact ih w (j + 1) h2 (mk.trans m2) w0 w1 (by omega) (by omega) e
theorem sp_MOwanted (I : Inv2 N c h) (k : ∀ h', Mk c h h' → Q (some (vI (wn c))) h') : WP D ad ca sc M_MO_wanted 0 [(0, .ref (ad 28))] [] h Q := by
  obtain ⟨e1, e2, e3⟩ := held_eq I.1
  have bn := I.2.2.2.1.2.1
  refine F_MO_wanted_0 (sp_MO_holdNow (RI_mk (by omega) ?_))
  rw [← e1]
  exact sp_MOwanted_loop I k (c 10 4).toNat _ 0 h (Mk.rf c h) e2 e3 (by omega) (by omega) rfl
theorem sp_reason_loop {w : Int} (I : Inv2 N h x) (gw : InR w) (k : ∀ g, Q (some (vI (rsA h w (h 10 4).toNat 0))) (sw h 6 g)) : ∀ (m : Nat) (j : Int) (g : Int → Int), 0 ≤ j → j + m = h 10 4 → rsA h w m j = rsA h w (h 10 4).toNat 0 →
    WP D ad ca sc M_MW_reasonToRaise 2 [(0, .ref (ad 0)), (1, vI w), (2, vI j)] [] (sw h 6 g) Q := by
  have bn := I.2.2.2.1.2.1
  have bt := I.1.2.1
  intro m
  induction m with
  | zero =>
    intro j g j0 hm e
    refine F_MW_reasonToRaise_2 w j gw (by omega) ⟨fun c => ?_, fun c => ?_⟩
    · have := k g
      rw [← e] at this
      exact this
    · have c : j < h 10 4 := c
      omega
  | succ m ih =>
    intro j g j0 hm e
    have l := I.2.2.2.1.2.2 j j0 (by omega)
    have e : (if h 11 j = w ∧ h 13 j ≤ mv h j (h 0 5) then j else rsA h w m (j + 1)) = rsA h w (h 10 4).toNat 0 := e
    refine F_MW_reasonToRaise_2 w j gw (by omega) ⟨fun c => ?_, fun c => ⟨by omega, fun c1 => ?_, fun c1 => ?_⟩⟩
    · have c : h 10 4 ≤ j := c
      omega
    · have c1 : ¬ h 11 j = w := c1
      rw [if_neg (fun z => c1 z.1)] at e
      exact ih (j + 1) g (by omega) (by omega) e
    · have c1 : h 11 j = w := c1
      have I2 : Inv2 N (sw h 6 g) x := I
      refine sp_holdsTrue I2 ⟨j0, by show j < h 10 4; omega⟩ ⟨by show 0 ≤ h 0 5; omega, Int.le_refl _⟩ (fun q g2 => rb1 ?_) (fun q g2 => rb0 ?_)
      · rw [if_pos ⟨c1, q⟩] at e
        rw [sw_sw, e]
        exact k g2
      · rw [if_neg (fun z => q z.2)] at e
        rw [sw_sw]
        exact ih (j + 1) g2 (by omega) (by omega) e
theorem sp_reason {w : Int} (I : Inv2 N h x) (gw : InR w) (k : ∀ g, Q (some (vI (rsA h w (h 10 4).toNat 0))) (sw h 6 g)) : WP D ad ca sc M_MW_reasonToRaise 0 [(0, .ref (ad 0)), (1, vI w)] [] h Q := by
  have bn := I.2.2.2.1.2.1
  have := sp_reason_loop (D := D) (ad := ad) (ca := ca) (sc := sc) I gw k (h 10 4).toNat 0 (h 6) (by omega) (by omega) rfl
  rw [sw_self] at this
  exact F_MW_reasonToRaise_0 w gw this
/-- the reference looks at the laws from the last one down -/
theorem sp_MOreason_loop {w : Int} (I : Inv2 N c h) (gw : InR w) (k : ∀ h', Mk c h h' → WP D ad ca sc M_MO_next 36 [(0, .ref (ad 28)), (1, vI w), (2, vI (rsA c w (c 10 4).toNat 0)), (3, vI (-1))] [] h' Q) : ∀ (m : Nat) (h1 : Hp), Mk c h h1 → (m : Int) ≤ c 10 4 →
    WP D ad ca sc M_MO_next 36 [(0, .ref (ad 28)), (1, vI w), (2, vI (rsA c w ((c 10 4).toNat - m) m)), (3, vI ((m : Int) - 1))] [] h1 Q := by
  have bn := I.2.2.2.1.2.1
  have bt := I.1.2.1
  intro m
  induction m with
  | zero =>
    intro h1 mk hm
    exact k h1 mk
  | succ m ih =>
    intro h1 mk hm
    have I1 := mk.inv I
    have et := I1.1.1
    have l := I1.2.2.2.1.2.2 m (by omega) (by omega)
    have rb := rsA_bd c w ((c 10 4).toNat - (m + 1)) ((m + 1 : Nat) : Int) (by omega) (by omega)
    have er : rsA c w ((c 10 4).toNat - m) m = if c 11 m = w ∧ c 13 m ≤ mv c m (c 0 5) then (m : Int) else rsA c w ((c 10 4).toNat - (m + 1)) ((m + 1 : Nat) : Int) := by
      have e : (c 10 4).toNat - m = ((c 10 4).toNat - (m + 1)) + 1 := by omega
      rw [e]
      rfl
    have ej : ((m + 1 : Nat) : Int) - 1 = (m : Int) := by omega
    have ej2 : (m : Int) + -1 = (m : Int) - 1 := by omega
    rw [ej]
    refine F_MO_next_36 w _ m gw (by omega) (by omega) ⟨fun z => absurd z (by omega), fun _ => ⟨by omega, fun c1 => ?_, fun c1 => ?_⟩⟩
    · have nx := ih h1 mk (by omega)
      rw [er, if_neg (fun z => c1 (by omega))] at nx
      rw [ej2]
      exact nx
    · rw [← et]
      refine sp_holdsOn I1 ⟨by omega, by omega⟩ ⟨bt.1, Int.le_refl _⟩ (fun q h2 m2 => rb1 ?_) (fun q h2 m2 => rb0 ?_)
      · have nx := ih h2 (mk.trans m2) (by omega)
        rw [er, if_pos ⟨by omega, q⟩] at nx
        rw [ej2]
        exact nx
      · have nx := ih h2 (mk.trans m2) (by omega)
        rw [er, if_neg (fun z => q z.2)] at nx
        rw [ej2]
        exact nx
theorem pa_measure {v1 v2 : Int} (g1 : InR v1) (g2 : InR v2) (I : Inv N h) : WP D ad ca none M_MW_measure 0 [(0, .ref (ad 0)), (1, vI v1), (2, vI v2)] [] h (RI (fun r h1 => WP D ad ca none M_MO_measure 0 [(0, .ref (ad 28)), (1, vI v1), (2, vI v2)] [] h1 (RI (SameA N r)))) := by
  have et := I.1.1
  have bt := I.1.2.1
  have en := I.2.2.2.1.1
  have bn := I.2.2.2.1.2.1
  refine F_MW_measure_0 v1 v2 g1 g2 (sp_LA_has g1 (fun c1 => rb1 (sp_MW_isDay g2 (by omega) (fun c2 => rb1 (sp_measured I c1 c2 (fun g => ?_))) (fun c2 => rb0 (RI_mk (by omega) ?_)))) (fun c1 => rb0 (RI_mk (by omega) ?_)))
  · have mb := mv_bd I c1 c2
    have I1 : Inv2 N h (sw h 6 g) := I
    refine RI_mk (by omega) (RI_mk (by omega) (F_MO_measure_0 v1 v2 g1 g2 (sp_MO_isLaw g1 ?_ (fun _ => rb1 (sp_MO_isDay g2 ?_ (fun _ => rb1 (sp_measureOf I1 c1 c2 (fun h' mk => RI_mk (by omega) (done (by omega) ?_)))) (fun z => absurd ?_ z))) (fun z => absurd ?_ z))))
    · show 0 ≤ h 28 10 ∧ h 28 10 ≤ 8
      omega
    · show InR (h 28 0)
      omega
    · rcases mk with rfl | ⟨g3, hg3, rfl⟩
      · exact I.step
      · exact (I.mark hg3).step
    · show 0 ≤ v2 ∧ v2 ≤ h 28 0
      omega
    · show 0 ≤ v1 ∧ v1 < h 28 10
      omega
  · exact F_MO_measure_0 v1 v2 g1 g2 (sp_MO_isLaw g1 (by omega) (fun _ => rb1 (sp_MO_isDay g2 (by omega) (fun z => absurd (by omega) c2) (fun _ => rb0 (done (by omega) I.step)))) (fun z => absurd (by omega) z))
  · exact F_MO_measure_0 v1 v2 g1 g2 (sp_MO_isLaw g1 (by omega) (fun z => absurd (by omega) c1) (fun _ => rb0 (done (by omega) I.step)))
theorem pa_isTrue {v1 v2 : Int} (g1 : InR v1) (g2 : InR v2) (I : Inv N h) : WP D ad ca none M_MW_isTrue 0 [(0, .ref (ad 0)), (1, vI v1), (2, vI v2)] [] h (RI (fun r h1 => WP D ad ca none M_MO_isTrue 0 [(0, .ref (ad 28)), (1, vI v1), (2, vI v2)] [] h1 (RI (SameA N r)))) := by
  have et := I.1.1
  have bt := I.1.2.1
  have en := I.2.2.2.1.1
  have bn := I.2.2.2.1.2.1
  have mkI : ∀ (g : Int → Int) (h' : Hp), Mk h (sw h 6 g) h' → Inv (N + 1) h' := by
    intro g h' mk
    rcases mk with rfl | ⟨g3, hg3, rfl⟩
    · exact I.step
    · exact (I.mark hg3).step
  refine F_MW_isTrue_0 v1 v2 g1 g2 (sp_LA_has g1 (fun c1 => rb1 (sp_MW_isDay g2 (by omega) (fun c2 => rb1 (sp_holdsTrue I c1 c2 (fun q g => RI_mk i1 (sp_MW_oneIf (Or.inr rfl) (RI_mk i1 (RI_mk i1 ?_)))) (fun q g => RI_mk i0 (sp_MW_oneIf (Or.inl rfl) (RI_mk i0 (RI_mk i0 ?_)))))) (fun c2 => rb0 (RI_mk (by omega) ?_)))) (fun c1 => rb0 (RI_mk (by omega) ?_)))
  · have I1 : Inv2 N h (sw h 6 g) := I
    refine F_MO_isTrue_0 v1 v2 g1 g2 (sp_MO_isLaw g1 ?_ (fun _ => rb1 (sp_MO_isDay g2 ?_ (fun _ => rb1 (sp_holdsOn I1 c1 c2 (fun q2 h' mk => rb1 (done i1 (mkI g h' mk))) (fun q2 h' mk => absurd q q2))) (fun z => absurd ?_ z))) (fun z => absurd ?_ z))
    · show 0 ≤ h 28 10 ∧ h 28 10 ≤ 8
      omega
    · show InR (h 28 0)
      omega
    · show 0 ≤ v2 ∧ v2 ≤ h 28 0
      omega
    · show 0 ≤ v1 ∧ v1 < h 28 10
      omega
  · have I1 : Inv2 N h (sw h 6 g) := I
    refine F_MO_isTrue_0 v1 v2 g1 g2 (sp_MO_isLaw g1 ?_ (fun _ => rb1 (sp_MO_isDay g2 ?_ (fun _ => rb1 (sp_holdsOn I1 c1 c2 (fun q2 h' mk => absurd q2 q) (fun q2 h' mk => rb0 (done i0 (mkI g h' mk))))) (fun z => absurd ?_ z))) (fun z => absurd ?_ z))
    · show 0 ≤ h 28 10 ∧ h 28 10 ≤ 8
      omega
    · show InR (h 28 0)
      omega
    · show 0 ≤ v2 ∧ v2 ≤ h 28 0
      omega
    · show 0 ≤ v1 ∧ v1 < h 28 10
      omega
  · exact F_MO_isTrue_0 v1 v2 g1 g2 (sp_MO_isLaw g1 (by omega) (fun _ => rb1 (sp_MO_isDay g2 (by omega) (fun z => absurd (by omega) c2) (fun _ => rb0 (done (by omega) I.step)))) (fun z => absurd (by omega) z))
  · exact F_MO_isTrue_0 v1 v2 g1 g2 (sp_MO_isLaw g1 (by omega) (fun z => absurd (by omega) c1) (fun _ => rb0 (done (by omega) I.step)))
theorem pa_told {v1 : Int} (g1 : InR v1) (hN : 0 ≤ N ∧ N ≤ 100000) (I : Inv N h) : WP D ad ca none M_MW_told 0 [(0, .ref (ad 0)), (1, vI v1)] [] h (RI (fun r h1 => WP D ad ca none M_MO_told 0 [(0, .ref (ad 28)), (1, vI v1)] [] h1 (RI (SameA N r)))) := by
  have A := I.1
  have A' := I.1
  unfold IvA at A'
  have L := I.2.2.2.1
  have lb := L.2.1
  have le := L.1
  obtain ⟨s1, s2, s3, s4, s5⟩ := I.2.1.facts
  obtain ⟨m1, m2, m3, m4, m5, m6⟩ := I.2.2.2.2.1.facts
  have te := I.2.2.2.2.2.1
  have tb := I.2.2.2.2.2.2.1
  obtain ⟨e1, e2, e3⟩ := held_eq A
  have wb := wn_bd I
  have pick : ∀ {r : Int}, InR r → (∀ {Q : Option Value → Hp → Prop}, (∀ h', Mk h h h' → Q (some (vI r)) h') → WP D ad ca none M_MO_told 0 [(0, .ref (ad 28)), (1, vI v1)] [] h Q) → RI (fun r h1 => WP D ad ca none M_MO_told 0 [(0, .ref (ad 28)), (1, vI v1)] [] h1 (RI (SameA N r))) (some (vI r)) h := fun hr k => RI_mk hr (k (fun h' mk => done hr (by
    rcases mk with rfl | ⟨g3, hg3, rfl⟩
    · exact I.step
    · exact (I.mark hg3).step)))
  refine F_MW_told_0 v1 g1 ⟨fun e => ?_, fun e => ?_, fun e => ?_, fun e => ?_, fun e => ?_, fun e => ?_, fun e => ?_, fun e => ?_, fun e => ?_, fun e => ?_, fun e => ?_, fun e => ?_⟩
  · refine pick (by omega) (fun k => F_MO_told_0 v1 g1 ⟨fun _ => ?_, fun z => absurd z (by omega), fun z => absurd z (by omega), fun z => absurd z (by omega), fun z => absurd z (by omega), fun z => absurd z (by omega), fun z => absurd z (by omega), fun z => absurd z (by omega), fun z => absurd z (by omega), fun z => absurd z (by omega), fun z => absurd z (by omega), fun z => absurd z (by omega)⟩)
    have := k h (Mk.rf h h); rw [A'.1] at this; exact this
  · refine pick (by omega) (fun k => F_MO_told_0 v1 g1 ⟨fun z => absurd z (by omega), fun _ => ?_, fun z => absurd z (by omega), fun z => absurd z (by omega), fun z => absurd z (by omega), fun z => absurd z (by omega), fun z => absurd z (by omega), fun z => absurd z (by omega), fun z => absurd z (by omega), fun z => absurd z (by omega), fun z => absurd z (by omega), fun z => absurd z (by omega)⟩)
    have := k h (Mk.rf h h); rw [A'.2.2.1] at this; exact this
  · refine pick (by omega) (fun k => F_MO_told_0 v1 g1 ⟨fun z => absurd z (by omega), fun z => absurd z (by omega), fun _ => ?_, fun z => absurd z (by omega), fun z => absurd z (by omega), fun z => absurd z (by omega), fun z => absurd z (by omega), fun z => absurd z (by omega), fun z => absurd z (by omega), fun z => absurd z (by omega), fun z => absurd z (by omega), fun z => absurd z (by omega)⟩)
    have := k h (Mk.rf h h); rw [A'.2.2.2.2.1] at this; exact this
  · refine sp_wantedToday I (fun g => RI_mk (by omega) (RI_mk (by omega) ?_))
    have I1 : Inv2 N h (sw h 6 g) := I
    refine F_MO_told_0 v1 g1 ⟨fun z => absurd z (by omega), fun z => absurd z (by omega), fun z => absurd z (by omega), fun _ => sp_MOwanted I1 (fun h' mk => RI_mk (by omega) (done (by omega) ?_)), fun z => absurd z (by omega), fun z => absurd z (by omega), fun z => absurd z (by omega), fun z => absurd z (by omega), fun z => absurd z (by omega), fun z => absurd z (by omega), fun z => absurd z (by omega), fun z => absurd z (by omega)⟩
    rcases mk with rfl | ⟨g3, hg3, rfl⟩
    · exact I.step
    · exact (I.mark hg3).step
  · refine pick (by omega) (fun k => F_MO_told_0 v1 g1 ⟨fun z => absurd z (by omega), fun z => absurd z (by omega), fun z => absurd z (by omega), fun z => absurd z (by omega), fun _ => ?_, fun z => absurd z (by omega), fun z => absurd z (by omega), fun z => absurd z (by omega), fun z => absurd z (by omega), fun z => absurd z (by omega), fun z => absurd z (by omega), fun z => absurd z (by omega)⟩)
    have := k h (Mk.rf h h); rw [m1] at this; exact this
  · refine pick (by omega) (fun k => F_MO_told_0 v1 g1 ⟨fun z => absurd z (by omega), fun z => absurd z (by omega), fun z => absurd z (by omega), fun z => absurd z (by omega), fun z => absurd z (by omega), fun _ => ?_, fun z => absurd z (by omega), fun z => absurd z (by omega), fun z => absurd z (by omega), fun z => absurd z (by omega), fun z => absurd z (by omega), fun z => absurd z (by omega)⟩)
    have := k h (Mk.rf h h); rw [m2] at this; exact this
  · refine sp_MW_held (RI_mk (by omega) (pick (by omega) (fun k => F_MO_told_0 v1 g1 ⟨fun z => absurd z (by omega), fun z => absurd z (by omega), fun z => absurd z (by omega), fun z => absurd z (by omega), fun z => absurd z (by omega), fun z => absurd z (by omega), fun _ => sp_MO_holdNow (RI_mk (by omega) ?_), fun z => absurd z (by omega), fun z => absurd z (by omega), fun z => absurd z (by omega), fun z => absurd z (by omega), fun z => absurd z (by omega)⟩)))
    have := k h (Mk.rf h h); rw [e1] at this; exact this
  · refine pick (by omega) (fun k => F_MO_told_0 v1 g1 ⟨fun z => absurd z (by omega), fun z => absurd z (by omega), fun z => absurd z (by omega), fun z => absurd z (by omega), fun z => absurd z (by omega), fun z => absurd z (by omega), fun z => absurd z (by omega), fun _ => ?_, fun z => absurd z (by omega), fun z => absurd z (by omega), fun z => absurd z (by omega), fun z => absurd z (by omega)⟩)
    have := k h (Mk.rf h h); rw [s1] at this; exact this
  · refine pick (by omega) (fun k => F_MO_told_0 v1 g1 ⟨fun z => absurd z (by omega), fun z => absurd z (by omega), fun z => absurd z (by omega), fun z => absurd z (by omega), fun z => absurd z (by omega), fun z => absurd z (by omega), fun z => absurd z (by omega), fun z => absurd z (by omega), fun _ => ?_, fun z => absurd z (by omega), fun z => absurd z (by omega), fun z => absurd z (by omega)⟩)
    have := k h (Mk.rf h h); rw [le] at this; exact this
  · refine pick (by omega) (fun k => F_MO_told_0 v1 g1 ⟨fun z => absurd z (by omega), fun z => absurd z (by omega), fun z => absurd z (by omega), fun z => absurd z (by omega), fun z => absurd z (by omega), fun z => absurd z (by omega), fun z => absurd z (by omega), fun z => absurd z (by omega), fun z => absurd z (by omega), fun _ => ?_, fun z => absurd z (by omega), fun z => absurd z (by omega)⟩)
    have := k h (Mk.rf h h); rw [te] at this; exact this
  · refine pick (by omega) (fun k => F_MO_told_0 v1 g1 ⟨fun z => absurd z (by omega), fun z => absurd z (by omega), fun z => absurd z (by omega), fun z => absurd z (by omega), fun z => absurd z (by omega), fun z => absurd z (by omega), fun z => absurd z (by omega), fun z => absurd z (by omega), fun z => absurd z (by omega), fun z => absurd z (by omega), fun _ => ?_, fun z => absurd z (by omega)⟩)
    have := k h (Mk.rf h h); rw [A'.2.2.2.2.2.2.2.2.2.2.2.2.2.1] at this; exact this
  · refine pick (by omega) (fun k => F_MO_told_0 v1 g1 ⟨fun z => absurd z (by omega), fun z => absurd z (by omega), fun z => absurd z (by omega), fun z => absurd z (by omega), fun z => absurd z (by omega), fun z => absurd z (by omega), fun z => absurd z (by omega), fun z => absurd z (by omega), fun z => absurd z (by omega), fun z => absurd z (by omega), fun z => absurd z (by omega), fun _ => ?_⟩)
    exact k h (Mk.rf h h)
end NX
