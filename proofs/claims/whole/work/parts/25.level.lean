/-! the level and its messages -/
def lv0 (h : Hp) (v : Int) : Hp := up (up h 0 6 v) 0 7 0
def trn (h : Hp) (v : Int) : Hp := up (up (up h 28 16 v) 28 17 0) 28 22 (h 28 22 + 1)
section LE
variable {D : va_G} {ad : Nat → Nat} {ca : Nat → ClassId} {sc : SC} {h c : Hp} {Q : Option Value → Hp → Prop} {N : Int}
theorem sp_MW_setLevel {v1 v2 : Int} (g1 : InR v1) (g2 : InR v2) (gt : InR (h 0 5)) (b3 : 0 ≤ h 15 3 ∧ h 15 3 ≤ 1000000) (b5 : 0 ≤ h 15 5 ∧ 0 ≤ h 15 6 ∧ h 15 5 + h 15 6 ≤ 200) (hk : h 15 5 + h 15 6 < 200 → h 15 5 = h 15 3)
    (k1 : h 15 5 + h 15 6 < 200 → Q (some (vI (h 15 3 + 1))) (msg0 (lv0 h v1) (h 0 5) v1 v2)) (k2 : 200 ≤ h 15 5 + h 15 6 → Q (some (vI (h 15 3 + 1))) (up (lv0 h v1) 15 3 (h 15 3 + 1))) : WP D ad ca sc M_MW_setLevel 0 [(0, .ref (ad 0)), (1, vI v1), (2, vI v2)] [] h Q := by
  refine F_MW_setLevel_0 v1 v2 g1 g2 (sp_ME_add0 gt g1 g2 b3 b5 hk (fun q => RI_mk ?_ (k1 q)) (fun q => RI_mk ?_ (k2 q)))
  · show InR (h 15 3 + 1)
    omega
  · show InR (h 15 3 + 1)
    omega
theorem sp_MO_turns {v1 v2 : Int} (g1 : InR v1) (g2 : InR v2) (b3 : 0 ≤ h 28 22 ∧ h 28 22 ≤ 1000000) (b : 0 ≤ h 28 20 ∧ h 28 20 ≤ 200)
    (k1 : h 28 20 < 200 → Q (some (vI (h 28 22 + 1))) (mtl (trn h v1) 0 (h 28 22 + 1) v1 v2)) (k2 : 200 ≤ h 28 20 → Q (some (vI (h 28 22 + 1))) (trn h v1)) : WP D ad ca sc M_MO_turns 0 [(0, .ref (ad 28)), (1, vI v1), (2, vI v2)] [] h Q :=
  F_MO_turns_0 v1 v2 g1 g2 ⟨by omega, sp_MO_tells i0 (by omega) g1 g2 b (fun q => RV_mk (k1 q)) (fun q => RV_mk (k2 q))⟩
theorem inv_lev1 (I : Inv2 N c h) (hK : h 28 20 < 200) {v r : Int} (hv : 0 ≤ v ∧ v ≤ 4) (hN : 0 ≤ N) : Inv2 (N + 1) (msg0 (lv0 c v) (c 0 5) v r) (mtl (trn h v) 0 (h 28 22 + 1) v r) := by
  have A := I.1
  refine ⟨?_, I.2.1, I.2.2.1, I.2.2.2.1, ?_, I.2.2.2.2.2⟩
  · simp [IvA, up, upf, msg0, lv0, mtl, trn] at A ⊢
    omega
  · show IvM (N + 1) (c 15 3 + 1) (c 15 4) (c 15 5 + 1) (c 15 6) (upf (c 16) (c 15 3) (c 0 5)) (upf (c 17) (c 15 3) v) (upf (c 18) (c 15 3) r) (h 28 20 + 1) (h 28 22 + 1) (h 28 23) (put5 (h 39) (h 28 20) 0 (h 28 22 + 1) (h 28 0) v r)
    rw [← A.1]
    exact ivm_add0 I.2.2.2.2.1 hK _ _ _
theorem inv_lev2 (I : Inv2 N c h) (hK : 200 ≤ h 28 20) {v : Int} (hv : 0 ≤ v ∧ v ≤ 4) (hN : 0 ≤ N) : Inv2 (N + 1) (up (lv0 c v) 15 3 (c 15 3 + 1)) (trn h v) := by
  have A := I.1
  refine ⟨?_, I.2.1, I.2.2.1, I.2.2.2.1, ?_, I.2.2.2.2.2⟩
  · simp [IvA, up, upf, lv0, trn] at A ⊢
    omega
  · show IvM (N + 1) (c 15 3 + 1) (c 15 4) (c 15 5) (c 15 6) (c 16) (c 17) (c 18) (h 28 20) (h 28 22 + 1) (h 28 23) (h 39)
    exact ivm_full0 I.2.2.2.2.1 hK
theorem IvM.facts {N cn dc kp kd : Int} {dy lv rs : Int → Int} {K cn' dc' : Int} {g : Int → Int} (M : IvM N cn dc kp kd dy lv rs K cn' dc' g) : cn = cn' ∧ dc = dc' ∧ (0 ≤ cn ∧ cn ≤ N) ∧ (0 ≤ dc ∧ dc ≤ N) ∧ (0 ≤ kp ∧ 0 ≤ kd ∧ kp + kd = K ∧ K ≤ 200) ∧ (K < 200 → kp = cn ∧ kd = dc) := ⟨M.1, M.2.1, M.2.2.1, M.2.2.2.1, M.2.2.2.2.1, M.2.2.2.2.2.2.1⟩
theorem pa_word {v1 : Int} (g1 : InR v1) (hN : 0 ≤ N ∧ N ≤ 100000) (I : Inv N h) : WP D ad ca none M_MW_word 0 [(0, .ref (ad 0)), (1, vI v1)] [] h (RI (fun r h1 => WP D ad ca none M_MO_word 0 [(0, .ref (ad 28)), (1, vI v1)] [] h1 (RI (SameA N r)))) := by
  have A := I.1
  obtain ⟨m1, m2, m3, m4, m5, m6⟩ := I.2.2.2.2.1.facts
  have at0 : InR (h 0 5) := by have := A.2.1; omega
  refine F_MW_word_0 v1 g1 (sp_MW_isLevel g1 (fun c => rb1 (sp_MW_setLevel g1 (by omega) at0 (by omega) (by omega) (fun q => (m6 (by omega)).1) (fun q => RI_mk (by omega) (RI_mk (by omega) ?_)) (fun q => RI_mk (by omega) (RI_mk (by omega) ?_)))) (fun c => rb0 (RI_mk (by omega) ?_)))
  · refine F_MO_word_0 v1 g1 (sp_MO_in g1 i0 (by omega) (fun _ => rb1 (sp_MO_turns g1 (by omega) ?_ ?_ (fun q2 => RI_mk ?_ (done2 (by omega) ?_ ?_)) (fun q2 => ?_))) (fun z => absurd c z))
    · show 0 ≤ h 28 22 ∧ h 28 22 ≤ 1000000
      omega
    · show 0 ≤ h 28 20 ∧ h 28 20 ≤ 200
      omega
    · show InR (h 28 22 + 1)
      omega
    · show h 15 3 + 1 = h 28 22 + 1
      omega
    · exact inv_lev1 (c := h) (h := msg0 (lv0 h v1) (h 0 5) v1 22) I q2 c hN.1
    · have q2 : 200 ≤ h 28 20 := q2
      omega
  · refine F_MO_word_0 v1 g1 (sp_MO_in g1 i0 (by omega) (fun _ => rb1 (sp_MO_turns g1 (by omega) ?_ ?_ (fun q2 => ?_) (fun q2 => RI_mk ?_ (done2 (by omega) ?_ ?_)))) (fun z => absurd c z))
    · show 0 ≤ h 28 22 ∧ h 28 22 ≤ 1000000
      omega
    · show 0 ≤ h 28 20 ∧ h 28 20 ≤ 200
      omega
    · have q2 : h 28 20 < 200 := q2
      omega
    · show InR (h 28 22 + 1)
      omega
    · show h 15 3 + 1 = h 28 22 + 1
      omega
    · exact inv_lev2 (c := h) (h := up (lv0 h v1) 15 3 (h 15 3 + 1)) I q2 c hN.1
  · exact F_MO_word_0 v1 g1 (sp_MO_in g1 i0 (by omega) (fun z => absurd z c) (fun _ => rb0 (done (by omega) I.step)))
theorem pa_drill {v1 : Int} (g1 : InR v1) (hN : 0 ≤ N ∧ N ≤ 100000) (I : Inv N h) : WP D ad ca none M_MW_drill 0 [(0, .ref (ad 0)), (1, vI v1)] [] h (RI (fun r h1 => WP D ad ca none M_MO_drill 0 [(0, .ref (ad 28)), (1, vI v1)] [] h1 (RI (SameA N r)))) := by
  have A := I.1
  obtain ⟨m1, m2, m3, m4, m5, m6⟩ := I.2.2.2.2.1.facts
  have at0 : InR (h 0 5) := by have := A.2.1; omega
  refine F_MW_drill_0 v1 g1 (sp_MW_isLevel g1 (fun c => rc1 (sp_ME_add1 at0 g1 (by omega) ?_ ?_ (fun q => (m6 ?_).2) (fun q => RI_mk ?_ (RI_mk ?_ ?_)) (fun q => RI_mk ?_ (RI_mk ?_ ?_)))) (fun c => rc0 (RI_mk (by omega) ?_)))
  · show 0 ≤ h 15 4 ∧ h 15 4 ≤ 1000000
    omega
  · show 0 ≤ h 15 5 ∧ 0 ≤ h 15 6 ∧ h 15 5 + h 15 6 ≤ 200
    omega
  · have q : h 15 5 + h 15 6 < 200 := q
    omega
  · show InR (h 15 4 + 1)
    omega
  · show InR (h 15 4 + 1)
    omega
  · have q : h 15 5 + h 15 6 < 200 := q
    refine F_MO_drill_0 v1 g1 (sp_MO_in g1 i0 (by omega) (fun _ => rc1 ⟨?_, sp_MO_tells i1 ?_ g1 (by omega) ?_ (fun q2 => RV_mk (done2 ?_ ?_ ?_)) (fun q2 => ?_)⟩) (fun z => absurd c z))
    · show InR (h 28 23 + 1)
      omega
    · show InR (h 28 23 + 1)
      omega
    · show 0 ≤ h 28 20 ∧ h 28 20 ≤ 200
      omega
    · show InR (h 15 4 + 1)
      omega
    · show h 15 4 + 1 = h 28 23 + 1
      omega
    · refine ⟨?_, I.2.1, I.2.2.1, I.2.2.2.1, ?_, I.2.2.2.2.2⟩
      · simp [IvA, up, upf, msg1, mtl] at A ⊢
        omega
      · show IvM (N + 1) (h 15 3) (h 15 4 + 1) (h 15 5) (h 15 6 + 1) (upf (h 16) (199 - h 15 4) (h 0 5)) (upf (h 17) (199 - h 15 4) v1) (upf (h 18) (199 - h 15 4) 23) (h 28 20 + 1) (h 28 22) (h 28 23 + 1) (put5 (h 39) (h 28 20) 1 (h 28 23 + 1) (h 28 0) v1 23)
        rw [← A.1]
        exact ivm_add1 I.2.2.2.2.1 q2 _ _ _
    · have q2 : 200 ≤ h 28 20 := q2
      omega
  · show InR (h 15 4 + 1)
    omega
  · show InR (h 15 4 + 1)
    omega
  · have q : 200 ≤ h 15 5 + h 15 6 := q
    refine F_MO_drill_0 v1 g1 (sp_MO_in g1 i0 (by omega) (fun _ => rc1 ⟨?_, sp_MO_tells i1 ?_ g1 (by omega) ?_ (fun q2 => ?_) (fun q2 => RV_mk (done2 ?_ ?_ ?_))⟩) (fun z => absurd c z))
    · show InR (h 28 23 + 1)
      omega
    · show InR (h 28 23 + 1)
      omega
    · show 0 ≤ h 28 20 ∧ h 28 20 ≤ 200
      omega
    · have q2 : h 28 20 < 200 := q2
      omega
    · show InR (h 15 4 + 1)
      omega
    · show h 15 4 + 1 = h 28 23 + 1
      omega
    · refine ⟨?_, I.2.1, I.2.2.1, I.2.2.2.1, ?_, I.2.2.2.2.2⟩
      · simp [IvA, up, upf] at A ⊢
        omega
      · show IvM (N + 1) (h 15 3) (h 15 4 + 1) (h 15 5) (h 15 6) (h 16) (h 17) (h 18) (h 28 20) (h 28 22) (h 28 23 + 1) (h 39)
        exact ivm_full1 I.2.2.2.2.1 q2
  · exact F_MO_drill_0 v1 g1 (sp_MO_in g1 i0 (by omega) (fun z => absurd z c) (fun _ => rc0 (done (by omega) I.step)))
/-- the reference's search of a message -/
def mMt (g : Int → Int) (s n k : Int) : Prop := g (5 * k) = s ∧ g (5 * k + 1) = n
theorem sp_MO_message_loop {v1 v2 v3 s : Int} (g1 : InR v1) (g2 : InR v2) (g3 : InR v3) (hs : (v1 = 0 ∧ s = 0) ∨ (¬ v1 = 0 ∧ s = 1)) (bK : 0 ≤ h 28 20 ∧ h 28 20 ≤ 200)
    (kN : (∀ k, 0 ≤ k → k < h 28 20 → ¬ mMt (h 39) s v2 k) → Q (some (vI (-1))) h)
    (kO : ∀ k, 0 ≤ k → k < h 28 20 → mMt (h 39) s v2 k → ¬ (0 ≤ v3 ∧ v3 ≤ 2) → Q (some (vI (-2))) h)
    (kY : ∀ k, 0 ≤ k → k < h 28 20 → mMt (h 39) s v2 k → (0 ≤ v3 ∧ v3 ≤ 2) → Q (some (vI (h 39 (5 * k + 2 + v3)))) h) :
    ∀ (m : Nat) (v4 v5 : Int), 0 ≤ v5 → v5 + m = h 28 20 → ((v4 = -6 ∧ ∀ k, 0 ≤ k → k < v5 → ¬ mMt (h 39) s v2 k) ∨ (0 ≤ v4 ∧ v4 < v5 ∧ mMt (h 39) s v2 v4)) →
      WP D ad ca sc M_MO_message 7 [(0, .ref (ad 28)), (1, vI v1), (2, vI v2), (3, vI v3), (4, vI v4), (5, vI v5)] [] h Q := by
  intro m
  induction m with
  | zero =>
    intro v4 v5 h5 hm hv
    refine F_MO_message_7 v1 v2 v3 v4 v5 g1 g2 g3 (by omega) (by omega) ⟨fun c => ⟨fun c4 => ?_, fun c4 => ?_⟩, fun c => absurd c (by omega)⟩
    · rcases hv with ⟨a1, a2⟩ | ⟨a1, a2, a3⟩
      · omega
      · exact sp_MO_in g3 i0 (by omega) (fun q => rb1 ⟨by omega, kY v4 a1 (by omega) a3 q⟩) (fun q => rb0 (kO v4 a1 (by omega) a3 q))
    · rcases hv with ⟨a1, a2⟩ | ⟨a1, a2, a3⟩
      · exact kN (fun k k0 k1 => a2 k k0 (by omega))
      · omega
  | succ m ih =>
    intro v4 v5 h5 hm hv
    have key : ∀ s0, s0 = s → InR s0 → WP D ad ca sc M_MO_message 34 [(0, .ref (ad 28)), (1, vI v1), (2, vI v2), (3, vI v3), (4, vI v4), (5, vI v5)] [vI s0, vI (h 39 (5 * v5))] h Q := by
      intro s0 hs0 q0
      subst hs0
      refine P_HR (fun hh => ?_)
      refine F_MO_message_34 v1 v2 v3 v4 v5 s0 (h 39 (5 * v5)) g1 g2 g3 (by omega) (by omega) q0 ((hh 39 _).2 (by decide)) ⟨fun c => ?_, fun c => ⟨by omega, fun c2 => ?_, fun c2 => ?_⟩⟩
      · refine ih v4 (v5 + 1) (by omega) (by omega) ?_
        rcases hv with ⟨a1, a2⟩ | ⟨a1, a2, a3⟩
        · refine Or.inl ⟨a1, fun k k0 k1 => ?_⟩
          by_cases e : k = v5
          · subst e
            exact fun z => c z.1
          · exact a2 k k0 (by omega)
        · exact Or.inr ⟨a1, by omega, a3⟩
      · refine ih v4 (v5 + 1) (by omega) (by omega) ?_
        rcases hv with ⟨a1, a2⟩ | ⟨a1, a2, a3⟩
        · refine Or.inl ⟨a1, fun k k0 k1 => ?_⟩
          by_cases e : k = v5
          · subst e
            exact fun z => c2 z.2
          · exact a2 k k0 (by omega)
        · exact Or.inr ⟨a1, by omega, a3⟩
      · exact ih v5 (v5 + 1) (by omega) (by omega) (Or.inr ⟨h5, by omega, c, c2⟩)
    refine F_MO_message_7 v1 v2 v3 v4 v5 g1 g2 g3 (by omega) (by omega) ⟨fun c => absurd c (by omega), fun c => ⟨by omega, fun c1 => key 0 (by omega) i0, fun c1 => key 1 (by omega) i1⟩⟩
theorem pa_message {v1 v2 v3 : Int} (hv1 : v1 = 0 ∨ v1 = 1) (g2 : InR v2) (g3 : InR v3) (I : Inv N h) : WP D ad ca none M_MW_message 0 [(0, .ref (ad 0)), (1, vI v1), (2, vI v2), (3, vI v3)] [] h (RI (fun r h1 => WP D ad ca none M_MO_message 0 [(0, .ref (ad 28)), (1, vI v1), (2, vI v2), (3, vI v3)] [] h1 (RI (SameA N r)))) := by
  have M := I.2.2.2.2.1
  obtain ⟨m1, m2, m3, m4, m5, m6, m7, m8, m9, m10⟩ := M
  have g1 : InR v1 := by omega
  refine P_HR (fun hh => ?_)
  have fin : ∀ r : Int, InR r →
      ((∀ k, 0 ≤ k → k < h 28 20 → ¬ mMt (h 39) v1 v2 k) → r = -1) → (∀ k, 0 ≤ k → k < h 28 20 → mMt (h 39) v1 v2 k → ¬ (0 ≤ v3 ∧ v3 ≤ 2) → r = -2) → (∀ k, 0 ≤ k → k < h 28 20 → mMt (h 39) v1 v2 k → (0 ≤ v3 ∧ v3 ≤ 2) → r = h 39 (5 * k + 2 + v3)) →
      RI (fun r h1 => WP D ad ca none M_MO_message 0 [(0, .ref (ad 28)), (1, vI v1), (2, vI v2), (3, vI v3)] [] h1 (RI (SameA N r))) (some (vI r)) h := by
    intro r hr q1 q2 q3
    refine RI_mk hr (F_MO_message_0 v1 v2 v3 g1 g2 g3 (sp_MO_message_loop (s := v1) g1 g2 g3 (by omega) (by omega) (fun z => done2 hr (q1 z) I.step) (fun k k0 k1 k2 k3 => done2 hr (q2 k k0 k1 k2 k3) I.step) (fun k k0 k1 k2 k3 => done2 hr (q3 k k0 k1 k2 k3) I.step) (h 28 20).toNat (-6) 0 (by omega) (by omega) (Or.inl ⟨rfl, fun k k0 k1 => by omega⟩)))
  -- not kept
  have no : ∀ {B : Int}, (v1 = 0 → B = h 15 5) → (v1 = 1 → B = h 15 6) → (v2 < 1 ∨ B < v2) → RI (fun r h1 => WP D ad ca none M_MO_message 0 [(0, .ref (ad 28)), (1, vI v1), (2, vI v2), (3, vI v3)] [] h1 (RI (SameA N r))) (some (vI (-1))) h := by
    intro B b0 b1 hb
    have no1 : ∀ k, 0 ≤ k → k < h 28 20 → ¬ mMt (h 39) v1 v2 k := by
      intro k k0 k1 z
      rcases m8 k k0 k1 with ⟨a1, a2, a3⟩ | ⟨a1, a2, a3⟩
      · have := z.1; have := z.2; omega
      · have := z.1; have := z.2; omega
    exact fin (-1) (by omega) (fun _ => rfl) (fun k k0 k1 k2 => absurd k2 (no1 k k0 k1)) (fun k k0 k1 k2 => absurd k2 (no1 k k0 k1))
  have yes : ∀ pl : Int, 1 ≤ v2 → (v1 = 0 → v2 ≤ h 15 5 ∧ pl = v2 - 1) → (v1 = 1 → v2 ≤ h 15 6 ∧ pl = 200 - v2) → RI (fun r5 h4 => ((v3 = 0 → (0 ≤ r5 ∧ r5 < 200) ∧ RI (fun r h1 => WP D ad ca none M_MO_message 0 [(0, .ref (ad 28)), (1, vI v1), (2, vI v2), (3, vI v3)] [] h1 (RI (SameA N r))) (some (vI (h4 16 r5))) h4) ∧ (v3 = 1 → (0 ≤ r5 ∧ r5 < 200) ∧ RI (fun r h1 => WP D ad ca none M_MO_message 0 [(0, .ref (ad 28)), (1, vI v1), (2, vI v2), (3, vI v3)] [] h1 (RI (SameA N r))) (some (vI (h4 17 r5))) h4) ∧ (v3 = 2 → (0 ≤ r5 ∧ r5 < 200) ∧ RI (fun r h1 => WP D ad ca none M_MO_message 0 [(0, .ref (ad 28)), (1, vI v1), (2, vI v2), (3, vI v3)] [] h1 (RI (SameA N r))) (some (vI (h4 18 r5))) h4) ∧ (v3 < 0 ∨ 2 < v3 → RI (fun r h1 => WP D ad ca none M_MO_message 0 [(0, .ref (ad 28)), (1, vI v1), (2, vI v2), (3, vI v3)] [] h1 (RI (SameA N r))) (some (vI (-2))) h4))) (some (vI pl)) h := by
    intro pl p1 p0 pp
    have ex : ∃ k, (0 ≤ k ∧ k < h 28 20) ∧ mMt (h 39) v1 v2 k := by
      rcases hv1 with e | e
      · obtain ⟨k, b1, b2, b3⟩ := m9 v2 p1 (p0 e).1
        exact ⟨k, b1, by rw [e]; exact b2, b3⟩
      · obtain ⟨k, b1, b2, b3⟩ := m10 v2 p1 (pp e).1
        exact ⟨k, b1, by rw [e]; exact b2, b3⟩
    obtain ⟨k9, b9, c9⟩ := ex
    have ct : ∀ k, 0 ≤ k → k < h 28 20 → mMt (h 39) v1 v2 k → h 39 (5 * k + 2) = h 16 pl ∧ h 39 (5 * k + 3) = h 17 pl ∧ h 39 (5 * k + 4) = h 18 pl := by
      intro k k0 k1 z
      rcases m8 k k0 k1 with ⟨a1, a2, a3⟩ | ⟨a1, a2, a3⟩
      · have z1 := z.1
        have e : v1 = 0 := by omega
        have e2 := (p0 e).2
        rw [z.2, ← e2] at a3
        exact a3
      · have z1 := z.1
        have e : v1 = 1 := by omega
        have e2 := (pp e).2
        rw [z.2, ← e2] at a3
        exact a3
    have bp : 0 ≤ pl ∧ pl < 200 := by
      rcases hv1 with e | e
      · have := p0 e; omega
      · have := pp e; omega
    have hno : ¬ (∀ k, 0 ≤ k → k < h 28 20 → ¬ mMt (h 39) v1 v2 k) := fun z => z k9 b9.1 b9.2 c9
    refine RI_mk (by omega) ⟨fun e => ⟨bp, ?_⟩, fun e => ⟨bp, ?_⟩, fun e => ⟨bp, ?_⟩, fun e => ?_⟩
    · exact fin _ ((hh 16 pl).2 (by decide)) (fun z => absurd z hno) (fun k k0 k1 k2 k3 => absurd (by omega) k3) (fun k k0 k1 k2 k3 => by rw [e, Int.add_zero]; exact (ct k k0 k1 k2).1.symm)
    · exact fin _ ((hh 17 pl).2 (by decide)) (fun z => absurd z hno) (fun k k0 k1 k2 k3 => absurd (by omega) k3) (fun k k0 k1 k2 k3 => by rw [e]; exact (by rw [show 5 * k + 2 + 1 = 5 * k + 3 by omega]; exact (ct k k0 k1 k2).2.1.symm))
    · exact fin _ ((hh 18 pl).2 (by decide)) (fun z => absurd z hno) (fun k k0 k1 k2 k3 => absurd (by omega) k3) (fun k k0 k1 k2 k3 => by rw [e]; exact (by rw [show 5 * k + 2 + 2 = 5 * k + 4 by omega]; exact (ct k k0 k1 k2).2.2.symm))
    · exact fin (-2) (by omega) (fun z => absurd z hno) (fun k k0 k1 k2 k3 => rfl) (fun k k0 k1 k2 k3 => by omega)
  refine F_MW_message_0 v1 v2 v3 g1 g2 g3 (F_ME_isKept_0 v1 v2 g1 g2 ⟨fun c => rc0 ?_, fun c => ⟨fun c1 => ⟨fun c2 => rc0 ?_, fun c2 => rc1 ?_⟩, fun c1 => ⟨fun c2 => rc0 ?_, fun c2 => rc1 ?_⟩⟩⟩)
  · exact no (B := if v1 = 0 then h 15 5 else h 15 6) (fun e => by rw [if_pos e]) (fun e => by rw [if_neg (by omega)]) (Or.inl c)
  · exact no (B := h 15 5) (fun _ => rfl) (fun e => by omega) (Or.inr c2)
  · exact F_ME_place_0 v1 v2 g1 g2 ⟨fun _ => yes _ c (fun _ => ⟨c2, rfl⟩) (fun e => by omega), fun z => absurd c1 z⟩
  · exact no (B := h 15 6) (fun e => by omega) (fun _ => rfl) (Or.inr c2)
  · exact F_ME_place_0 v1 v2 g1 g2 ⟨fun z => absurd z c1, fun _ => yes _ c (fun e => by omega) (fun _ => ⟨c2, rfl⟩)⟩
end LE
