/-! the tree: shape -/
theorem chn_congr {par par' : Int → Int} {n i : Int} (h : ∀ k, 1 ≤ k → k < n → par k = par' k) : chn par n i = chn par' n i := by
  unfold chn
  exact sumR_congr _ _ (fun k k0 k1 => by rw [h k k0 (by omega)])
theorem chn_add {par : Int → Int} {n p i : Int} (hn : 1 ≤ n) : chn (upf par n p) (n + 1) i = chn par n i + (if p = i then 1 else 0) := by
  unfold chn
  have e : (n + 1 - 1).toNat = (n - 1).toNat + 1 := by omega
  rw [e, sumR_snoc]
  have e2 : 1 + (((n - 1).toNat : Nat) : Int) = n := by omega
  rw [e2, upf_same]
  congr 1
  exact sumR_congr _ _ (fun k k0 k1 => by rw [upf_ne _ _ (by omega)])
theorem chn_bd (par : Int → Int) (n i : Int) : 0 ≤ chn par n i ∧ chn par n i ≤ (n - 1).toNat := cnt_bd (p := fun k => par k = i) 1 (n - 1).toNat
theorem chn_none {par : Int → Int} {n i : Int} (h : ∀ k, 1 ≤ k → k < n → ¬ par k = i) : chn par n i = 0 := by
  unfold chn
  rw [sumR_congr (g := fun _ => 0) _ _ (fun k k0 k1 => if_neg (h k k0 (by omega)))]
  have := sumR_bd (f := fun _ => 0) (m := 0) (M := 0) (n - 1).toNat 1 (fun j _ _ => ⟨Int.le_refl 0, Int.le_refl 0⟩)
  omega
section TR
variable {D : va_G} {ad : Nat → Nat} {ca : Nat → ClassId} {sc : SC} {h c x : Hp} {Q : Option Value → Hp → Prop} {N n : Int}
theorem sp_children_loop {v1 : Int} (g1 : InR v1) (hn : 1 ≤ h 28 25 ∧ h 28 25 ≤ 24) : ∀ (m : Nat) (acc w : Int), 1 ≤ w → 0 ≤ acc → acc ≤ w → w + m = h 28 25 → Q (some (vI (acc + sumR (fun k => if h 40 k = v1 then 1 else 0) w m))) h →
    WP D ad ca sc M_MO_children 4 [(0, .ref (ad 28)), (1, vI v1), (2, vI acc), (3, vI w)] [] h Q := by
  intro m
  induction m with
  | zero =>
    intro acc w h0 h2 h3 hm k
    refine F_MO_children_4 v1 acc w g1 (by omega) (by omega) ⟨fun c => ?_, fun c => absurd c (by omega)⟩
    rw [show sumR (fun k => if h 40 k = v1 then (1 : Int) else 0) w 0 = 0 from rfl, Int.add_zero] at k
    exact k
  | succ m ih =>
    intro acc w h0 h2 h3 hm k
    rw [show sumR (fun k => if h 40 k = v1 then (1 : Int) else 0) w (m + 1) = (if h 40 w = v1 then 1 else 0) + sumR (fun k => if h 40 k = v1 then (1 : Int) else 0) (w + 1) m from rfl] at k
    refine F_MO_children_4 v1 acc w g1 (by omega) (by omega) ⟨fun c => absurd c (by omega), fun c => ⟨by omega, fun c1 => ?_, fun c1 => ?_⟩⟩
    · rw [if_neg c1, Int.zero_add] at k
      rw [Int.add_zero]
      exact ih acc (w + 1) (by omega) (by omega) (by omega) (by omega) k
    · rw [if_pos c1, ← Int.add_assoc] at k
      exact ih (acc + 1) (w + 1) (by omega) (by omega) (by omega) (by omega) k
theorem sp_children {v1 : Int} (g1 : InR v1) (hn : 1 ≤ h 28 25 ∧ h 28 25 ≤ 24) (k : Q (some (vI (chn (h 40) (h 28 25) v1))) h) : WP D ad ca sc M_MO_children 0 [(0, .ref (ad 28)), (1, vI v1)] [] h Q :=
  F_MO_children_0 v1 g1 (sp_children_loop g1 hn (h 28 25 - 1).toNat 0 1 (by omega) (by omega) (by omega) (by omega) (by rw [Int.zero_add]; exact k))
theorem sp_depth_loop (T : IvT (c 19 8) (c 20) (c 21) (c 22) (c 23) (c 24) (c 25) (h 28 25) (h 40) (h 41) (h 42) (h 43)) : ∀ (m : Nat) (acc w : Int), 0 ≤ w → w ≤ m → w < c 19 8 → 0 ≤ acc → acc ≤ 100 - w → Q (some (vI (acc + c 23 w))) h →
    WP D ad ca sc M_MO_depth 4 [(0, .ref (ad 28)), (2, vI acc), (3, vI w)] [] h Q := by
  have bn := T.2.1
  intro m
  induction m with
  | zero =>
    intro acc w h0 h1 h2 h3 h4 k
    obtain rfl : w = 0 := by omega
    rw [T.2.2.2.1, Int.add_zero] at k
    exact F_MO_depth_4 acc 0 (by omega) (by omega) ⟨fun _ => k, fun z => absurd z (by omega)⟩
  | succ m ih =>
    intro acc w h0 h1 h2 h3 h4 k
    by_cases e : w = 0
    · subst e
      rw [T.2.2.2.1, Int.add_zero] at k
      exact F_MO_depth_4 acc 0 (by omega) (by omega) ⟨fun _ => k, fun z => absurd z (by omega)⟩
    · have p := T.2.2.2.2.2.1 w (by omega) h2
      have q := (T.2.2.2.2.1 w h0 h2).1.1
      refine F_MO_depth_4 acc w (by omega) (by omega) ⟨fun z => absurd z (by omega), fun _ => ⟨by omega, ?_⟩⟩
      rw [← q]
      refine ih (acc + 1) (c 20 w) p.1.1 (by omega) (by omega) (by omega) (by omega) ?_
      rw [p.2, show acc + (c 23 (c 20 w) + 1) = acc + 1 + c 23 (c 20 w) by omega] at k
      exact k
theorem sp_depth {v1 : Int} (T : IvT (c 19 8) (c 20) (c 21) (c 22) (c 23) (c 24) (c 25) (h 28 25) (h 40) (h 41) (h 42) (h 43)) (hv : 0 ≤ v1 ∧ v1 < c 19 8) (k : Q (some (vI (c 23 v1))) h) : WP D ad ca sc M_MO_depth 0 [(0, .ref (ad 28)), (1, vI v1)] [] h Q := by
  have bn := T.2.1
  exact F_MO_depth_0 v1 (by omega) (sp_depth_loop T v1.toNat 0 v1 hv.1 (by omega) hv.2 (by omega) (by omega) (by rw [Int.zero_add]; exact k))
theorem IvT.chn {n : Int} {par lo hi dep cc fe : Int → Int} {n' : Int} {par' lo' hi' fe' : Int → Int} (T : IvT n par lo hi dep cc fe n' par' lo' hi' fe') {i : Int} (h0 : 0 ≤ i) (h1 : i < n) : cc i = chn par' n' i := by
  rw [(T.2.2.2.2.1 i h0 h1).2.2.2.2.1, ← T.1]
  exact chn_congr (fun k k0 k1 => (T.2.2.2.2.1 k (by omega) k1).1.1)
theorem pa_ofNode {v1 v2 : Int} (g1 : InR v1) (g2 : InR v2) (I : Inv N h) : WP D ad ca none M_MW_ofNode 0 [(0, .ref (ad 0)), (1, vI v1), (2, vI v2)] [] h (RI (fun r h1 => WP D ad ca none M_MO_ofNode 0 [(0, .ref (ad 28)), (1, vI v1), (2, vI v2)] [] h1 (RI (SameA N r)))) := by
  have T := I.2.2.2.2.2
  have te := T.1
  have tb := T.2.1
  have nn : ∀ {Q : Option Value → Hp → Prop}, 0 ≤ v1 ∧ v1 < h 19 8 → ((v2 = 0 → (0 ≤ v1 ∧ v1 < 24) ∧ Q (some (vI (h 40 v1))) h) ∧ (v2 = 1 → (0 ≤ v1 ∧ v1 < 24) ∧ Q (some (vI (h 41 v1))) h) ∧ (v2 = 2 → (0 ≤ v1 ∧ v1 < 24) ∧ Q (some (vI (h 42 v1))) h) ∧ (v2 = 3 → (0 ≤ v1 ∧ v1 < 24) ∧ (((h 43 v1) = 0 → Q (some (vI 0)) h) ∧ (¬ (h 43 v1) = 0 → Q (some (vI 1)) h))) ∧ (v2 = 4 → WP D ad ca none M_MO_children 0 [(0, .ref (ad 28)), (1, vI v1)] [] h (RI (fun r13 h12 => Q (some (vI r13)) h12))) ∧ (v2 = 5 → WP D ad ca none M_MO_depth 0 [(0, .ref (ad 28)), (1, vI v1)] [] h (RI (fun r16 h15 => Q (some (vI r16)) h15))) ∧ (v2 < 0 ∨ 5 < v2 → Q (some (vI (-2))) h)) → WP D ad ca none M_MO_ofNode 0 [(0, .ref (ad 28)), (1, vI v1), (2, vI v2)] [] h Q :=
    fun hv k => F_MO_ofNode_0 v1 v2 g1 g2 (sp_MO_isNode g1 (by omega) (fun _ => rc1 k) (fun z => absurd (by omega) z))
  have op : 0 ≤ v1 ∧ v1 < h 19 8 → InR (h 20 v1) := by
    intro hv
    by_cases e : v1 = 0
    · rw [e, T.2.2.1]; omega
    · have := T.2.2.2.2.2.1 v1 (by omega) hv.2
      omega
  refine F_MW_ofNode_0 v1 v2 g1 g2 (sp_TR_has g1 (fun c1 => rc1 ?_) (fun c1 => rc0 (RI_mk (by omega) ?_)))
  · have t := T.2.2.2.2.1 v1 c1.1 c1.2
    have cb := chn_bd (h 20) (h 19 8) v1
    have ec := T.chn c1.1 c1.2
    refine ⟨fun e => ⟨by omega, RI_mk (op c1) (nn c1 ⟨fun _ => ⟨by omega, done2 (op c1) t.1.1 I.step⟩, fun z => absurd z (by omega), fun z => absurd z (by omega), fun z => absurd z (by omega), fun z => absurd z (by omega), fun z => absurd z (by omega), fun z => absurd z (by omega)⟩)⟩,
      fun e => ⟨by omega, RI_mk (by omega) (nn c1 ⟨fun z => absurd z (by omega), fun _ => ⟨by omega, done2 (by omega) t.1.2.1 I.step⟩, fun z => absurd z (by omega), fun z => absurd z (by omega), fun z => absurd z (by omega), fun z => absurd z (by omega), fun z => absurd z (by omega)⟩)⟩,
      fun e => ⟨by omega, RI_mk (by omega) (nn c1 ⟨fun z => absurd z (by omega), fun z => absurd z (by omega), fun _ => ⟨by omega, done2 (by omega) t.1.2.2.1 I.step⟩, fun z => absurd z (by omega), fun z => absurd z (by omega), fun z => absurd z (by omega), fun z => absurd z (by omega)⟩)⟩,
      fun e => ⟨by omega, sp_MW_oneIf t.2.2.1 (RI_mk (by omega) (RI_mk (by omega) (nn c1 ⟨fun z => absurd z (by omega), fun z => absurd z (by omega), fun z => absurd z (by omega), fun _ => ⟨by omega, fun q => done2 (by omega) (by omega) I.step, fun q => done2 (by omega) (by omega) I.step⟩, fun z => absurd z (by omega), fun z => absurd z (by omega), fun z => absurd z (by omega)⟩)))⟩,
      fun e => ⟨by omega, RI_mk (by omega) (nn c1 ⟨fun z => absurd z (by omega), fun z => absurd z (by omega), fun z => absurd z (by omega), fun z => absurd z (by omega), fun _ => sp_children g1 (by omega) (RI_mk (by omega) (done2 (by omega) ec I.step)), fun z => absurd z (by omega), fun z => absurd z (by omega)⟩)⟩,
      fun e => ⟨by omega, RI_mk (by omega) (nn c1 ⟨fun z => absurd z (by omega), fun z => absurd z (by omega), fun z => absurd z (by omega), fun z => absurd z (by omega), fun z => absurd z (by omega), fun _ => sp_depth T c1 (RI_mk (by omega) (done (by omega) I.step)), fun z => absurd z (by omega)⟩)⟩,
      fun e => RI_mk (by omega) (nn c1 ⟨fun z => absurd z (by omega), fun z => absurd z (by omega), fun z => absurd z (by omega), fun z => absurd z (by omega), fun z => absurd z (by omega), fun z => absurd z (by omega), fun _ => done (by omega) I.step⟩)⟩
  · exact F_MO_ofNode_0 v1 v2 g1 g2 (sp_MO_isNode g1 (by omega) (fun z => absurd (by omega) c1) (fun _ => rc0 (done (by omega) I.step)))
theorem pa_fear {v1 v2 : Int} (g1 : InR v1) (hv2 : v2 = 0 ∨ v2 = 1) (I : Inv N h) : WP D ad ca none M_MW_fear 0 [(0, .ref (ad 0)), (1, vI v1), (2, vI v2)] [] h (RI (fun r h1 => WP D ad ca none M_MO_fear 0 [(0, .ref (ad 28)), (1, vI v1), (2, vI v2)] [] h1 (RI (SameA N r)))) := by
  have T := I.2.2.2.2.2
  have te := T.1
  have tb := T.2.1
  have g2 : InR v2 := by omega
  refine F_MW_fear_0 v1 v2 g1 g2 (sp_TR_has g1 (fun c1 => rc1 ⟨by omega, ?_⟩) (fun c1 => rc0 (RI_mk (by omega) ?_)))
  · have t := T.2.2.2.2.1 v1 c1.1 c1.2
    have fin : Inv (N + 1) (up (up h 25 v1 v2) 43 v1 v2) := by
      refine ⟨I.1.step, I.2.1, I.2.2.1, I.2.2.2.1, I.2.2.2.2.1.step, ⟨te, tb, T.2.2.1, T.2.2.2.1, fun i i0 i1 => ?_, T.2.2.2.2.2.1, fun i i0 i1 => ?_⟩⟩
      · have q := T.2.2.2.2.1 i i0 i1
        show (h 20 i = h 40 i ∧ h 21 i = h 41 i ∧ h 22 i = h 42 i ∧ upf (h 25) v1 v2 i = upf (h 43) v1 v2 i) ∧ (0 ≤ h 21 i ∧ h 21 i ≤ h 22 i ∧ h 22 i ≤ 100) ∧ (upf (h 25) v1 v2 i = 0 ∨ upf (h 25) v1 v2 i = 1) ∧ (0 ≤ h 23 i ∧ h 23 i ≤ 4) ∧ h 24 i = chn (h 20) (h 19 8) i ∧ h 24 i ≤ 6
        refine ⟨⟨q.1.1, q.1.2.1, q.1.2.2.1, ?_⟩, q.2.1, ?_, q.2.2.2⟩
        · have := q.1.2.2.2
          unfold upf; split <;> omega
        · have := q.2.2.1
          unfold upf; split <;> omega
      · have i0 : h 19 8 ≤ i := i0
        show upf (h 25) v1 v2 i = 0 ∧ h 24 i = 0
        rw [upf_ne _ _ (by omega)]
        exact T.2.2.2.2.2.2 i i0 i1
    refine sp_MW_oneIf t.2.2.1 (RI_mk (by omega) ⟨by omega, hv2, RI_mk (by omega) ?_⟩)
    refine F_MO_fear_0 v1 v2 g1 g2 (sp_MO_isNode g1 ?_ (fun _ => rc1 ⟨by omega, fun q => ⟨by omega, hv2, done2 (by omega) ?_ fin⟩, fun q => ⟨by omega, hv2, done2 (by omega) ?_ fin⟩⟩) (fun z => absurd ?_ z))
    · show 0 ≤ h 28 25 ∧ h 28 25 ≤ 24
      omega
    · have q : h 43 v1 = 0 := q
      omega
    · have q : ¬ h 43 v1 = 0 := q
      omega
    · show 0 ≤ v1 ∧ v1 < h 28 25
      omega
  · exact F_MO_fear_0 v1 v2 g1 g2 (sp_MO_isNode g1 (by omega) (fun z => absurd (by omega) c1) (fun _ => rc0 (done (by omega) I.step)))
theorem pa_share {v1 v2 v3 : Int} (g1 : InR v1) (g2 : InR v2) (g3 : InR v3) (I : Inv N h) : WP D ad ca none M_MW_share 0 [(0, .ref (ad 0)), (1, vI v1), (2, vI v2), (3, vI v3)] [] h (RI (fun r h1 => WP D ad ca none M_MO_share 0 [(0, .ref (ad 28)), (1, vI v1), (2, vI v2), (3, vI v3)] [] h1 (RI (SameA N r)))) := by
  have T := I.2.2.2.2.2
  have te := T.1
  have tb := T.2.1
  refine F_MW_share_0 v1 v2 v3 g1 g2 g3 ⟨fun e => RI_mk (by omega) (F_MO_share_0 v1 v2 v3 g1 g2 g3 ⟨fun _ => done (by omega) I.step, fun z => absurd e z⟩), fun e => sp_TR_has g1 (fun c1 => rc1 (sp_MW_areBounds g2 g3 (fun c2 => rc1 ⟨by omega, by omega, RI_mk i1 ?_⟩) (fun c2 => rc0 (RI_mk (by omega) ?_)))) (fun c1 => rc0 (RI_mk (by omega) ?_))⟩
  · refine F_MO_share_0 v1 v2 v3 g1 g2 g3 ⟨fun z => absurd z e, fun _ => sp_MO_isNode g1 ?_ (fun _ => rc1 (sp_MO_isShare g2 g3 (fun _ => rc1 ⟨by omega, by omega, done i1 ⟨I.1.step, I.2.1, I.2.2.1, I.2.2.2.1, I.2.2.2.2.1.step, ⟨te, tb, T.2.2.1, T.2.2.2.1, fun i i0 i1 => ?_, T.2.2.2.2.2.1, T.2.2.2.2.2.2⟩⟩⟩) (fun z => absurd c2 z))) (fun z => absurd ?_ z)⟩
    · show 0 ≤ h 28 25 ∧ h 28 25 ≤ 24
      omega
    · have q := T.2.2.2.2.1 i i0 i1
      show (h 20 i = h 40 i ∧ upf (h 21) v1 v2 i = upf (h 41) v1 v2 i ∧ upf (h 22) v1 v3 i = upf (h 42) v1 v3 i ∧ h 25 i = h 43 i) ∧ (0 ≤ upf (h 21) v1 v2 i ∧ upf (h 21) v1 v2 i ≤ upf (h 22) v1 v3 i ∧ upf (h 22) v1 v3 i ≤ 100) ∧ (h 25 i = 0 ∨ h 25 i = 1) ∧ (0 ≤ h 23 i ∧ h 23 i ≤ 4) ∧ h 24 i = chn (h 20) (h 19 8) i ∧ h 24 i ≤ 6
      have q1 := q.1
      have q2 := q.2.1
      refine ⟨⟨q1.1, ?_, ?_, q1.2.2.2⟩, ?_, q.2.2⟩
      · unfold upf; split <;> omega
      · unfold upf; split <;> omega
      · unfold upf; split <;> omega
    · show 0 ≤ v1 ∧ v1 < h 28 25
      omega
  · exact F_MO_share_0 v1 v2 v3 g1 g2 g3 ⟨fun z => absurd z e, fun _ => sp_MO_isNode g1 (by omega) (fun _ => rc1 (sp_MO_isShare g2 g3 (fun z => absurd z c2) (fun _ => rc0 (done (by omega) I.step)))) (fun z => absurd (by omega) z)⟩
  · exact F_MO_share_0 v1 v2 v3 g1 g2 g3 ⟨fun z => absurd z e, fun _ => sp_MO_isNode g1 (by omega) (fun z => absurd (by omega) c1) (fun _ => rc0 (done (by omega) I.step))⟩
theorem pa_node {v1 v2 v3 : Int} (g1 : InR v1) (g2 : InR v2) (g3 : InR v3) (I : Inv N h) : WP D ad ca none M_MW_node 0 [(0, .ref (ad 0)), (1, vI v1), (2, vI v2), (3, vI v3)] [] h (RI (fun r h1 => WP D ad ca none M_MO_node 0 [(0, .ref (ad 28)), (1, vI v1), (2, vI v2), (3, vI v3)] [] h1 (RI (SameA N r)))) := by
  have T := I.2.2.2.2.2
  have te := T.1
  have tb := T.2.1
  -- the reference, once bounds are right and there is room
  have md : ∀ {Q : Option Value → Hp → Prop} {h1 : Hp}, (∀ k, 28 ≤ k → h1 k = h k) → 0 ≤ v1 ∧ v1 < h 19 8 → 0 ≤ v2 ∧ v2 ≤ v3 ∧ v3 ≤ 100 → h 19 8 < 24 → (h 23 v1 < 4 ∧ h 24 v1 < 6 → Q (some (vI (h 28 25))) (up (up (up (up (up h1 40 (h 28 25) v1) 41 (h 28 25) v2) 42 (h 28 25) v3) 43 (h 28 25) 0) 28 25 (h 28 25 + 1))) → (¬ (h 23 v1 < 4 ∧ h 24 v1 < 6) → Q (some (vI (-5))) h1) → WP D ad ca none M_MO_node 0 [(0, .ref (ad 28)), (1, vI v1), (2, vI v2), (3, vI v3)] [] h1 Q := by
    intro Q h1 he c1 c2 c3 k1 k2
    have e28 := he 28 (by omega)
    have e40 := he 40 (by omega)
    have e41 := he 41 (by omega)
    have e42 := he 42 (by omega)
    have e43 := he 43 (by omega)
    have t := T.2.2.2.2.1 v1 c1.1 c1.2
    have cb := chn_bd (h 20) (h 19 8) v1
    have ec := T.chn c1.1 c1.2
    have T1 : IvT (h 19 8) (h 20) (h 21) (h 22) (h 23) (h 24) (h 25) (h1 28 25) (h1 40) (h1 41) (h1 42) (h1 43) := by rw [e28, e40, e41, e42, e43]; exact T
    refine F_MO_node_0 v1 v2 v3 g1 g2 g3 (sp_MO_isNode g1 (by rw [e28]; omega) (fun _ => rc1 (sp_MO_isShare g2 g3 (fun _ => rc1 ⟨fun c4 => sp_depth T1 c1 (RI_mk (by omega) ⟨fun q => k2 (by omega), fun q => sp_children g1 (by rw [e28]; omega) (RI_mk (by rw [e40, e28]; omega) ⟨fun q2 => ?_, fun q2 => k2 (by rw [e40, e28] at q2; omega)⟩)⟩), fun c4 => absurd c4 (by rw [e28]; omega)⟩) (fun z => absurd c2 z))) (fun z => absurd (by rw [e28]; omega) z))
    rw [e40, e28] at q2
    rw [e28]
    refine ⟨by omega, by omega, by omega, by omega, by omega, ?_⟩
    rw [show h 28 25 + 1 - 1 = h 28 25 by omega]
    exact k1 (by omega)
  refine F_MW_node_0 v1 v2 v3 g1 g2 g3 (sp_TR_has g1 (fun c1 => rc1 (sp_MW_areBounds g2 g3 (fun c2 => rc1 ⟨fun c3 => ?_, fun c3 => RI_mk (by omega) ?_⟩) (fun c2 => rc0 (RI_mk (by omega) ?_)))) (fun c1 => rc0 (RI_mk (by omega) ?_)))
  · have t := T.2.2.2.2.1 v1 c1.1 c1.2
    have cb := chn_bd (h 20) (h 19 8) v1
    have no : ¬ (h 23 v1 < 4 ∧ h 24 v1 < 6) → RI (fun r h1 => WP D ad ca none M_MO_node 0 [(0, .ref (ad 28)), (1, vI v1), (2, vI v2), (3, vI v3)] [] h1 (RI (SameA N r))) (some (vI (-5))) h := fun q => RI_mk (by omega) (md (fun _ _ => rfl) c1 c2 c3 (fun z => absurd z q) (fun _ => done (by omega) I.step))
    refine F_TR_takesChild_0 v1 g1 ⟨by omega, fun q => rc0 (no (by omega)), fun q => ⟨by omega, fun q2 => rc0 (no (by omega)), fun q2 => rc1 ?_⟩⟩
    refine F_TR_add_0 v1 v2 v3 g1 g2 g3 ⟨by omega, by omega, by omega, by omega, by omega, by omega, by omega, by omega, by omega, by omega, RI_mk (by omega) (RI_mk (by omega) ?_)⟩
    refine md (fun k hk => by simp [up, show k ≠ 20 by omega, show k ≠ 21 by omega, show k ≠ 22 by omega, show k ≠ 23 by omega, show k ≠ 24 by omega, show k ≠ 19 by omega]) c1 c2 c3 (fun _ => done2 (by omega) te ?_) (fun z => absurd ⟨q, q2⟩ z)
    refine ⟨I.1.step, I.2.1, I.2.2.1, I.2.2.2.1, I.2.2.2.2.1.step, ?_⟩
    show IvT (h 19 8 + 1) (upf (h 20) (h 19 8) v1) (upf (h 21) (h 19 8) v2) (upf (h 22) (h 19 8) v3) (upf (h 23) (h 19 8) (h 23 v1 + 1)) (upf (h 24) v1 (h 24 v1 + 1)) (h 25) (h 28 25 + 1) (upf (h 40) (h 28 25) v1) (upf (h 41) (h 28 25) v2) (upf (h 42) (h 28 25) v3) (upf (h 43) (h 28 25) 0)
    rw [← te]
    refine ⟨rfl, by omega, by rw [upf_ne _ _ (by omega)]; exact T.2.2.1, by rw [upf_ne _ _ (by omega)]; exact T.2.2.2.1, fun i i0 i1 => ?_, fun i i0 i1 => ?_, fun i i0 i1 => ?_⟩
    · rw [chn_add (by omega)]
      by_cases e : i = h 19 8
      · rw [e, upf_same, upf_same, upf_same, upf_same, upf_same, upf_same, upf_same, upf_same]
        have z := T.2.2.2.2.2.2 (h 19 8) (by omega) (by omega)
        rw [upf_ne _ _ (by omega : ¬ h 19 8 = v1), z.2, z.1, if_neg (by omega : ¬ v1 = h 19 8), chn_none (fun k k0 k1 => by
          have := (T.2.2.2.2.2.1 k k0 k1).1
          omega)]
        exact ⟨⟨rfl, rfl, rfl, rfl⟩, c2, Or.inl rfl, by omega, rfl, by omega⟩
      · have q9 := T.2.2.2.2.1 i i0 (by omega)
        rw [upf_ne _ _ e, upf_ne _ _ e, upf_ne _ _ e, upf_ne _ _ e, upf_ne _ _ e, upf_ne _ _ e, upf_ne _ _ e, upf_ne _ _ e]
        refine ⟨q9.1, q9.2.1, q9.2.2.1, q9.2.2.2.1, ?_⟩
        by_cases e1 : i = v1
        · rw [e1, upf_same, if_pos rfl]
          rw [e1] at q9
          omega
        · rw [upf_ne _ _ e1, if_neg (fun z => e1 z.symm), Int.add_zero]
          exact q9.2.2.2.2
    · by_cases e : i = h 19 8
      · rw [e, upf_same, upf_same, upf_ne _ _ (by omega)]
        exact ⟨by omega, rfl⟩
      · have q9 := T.2.2.2.2.2.1 i i0 (by omega)
        rw [upf_ne _ _ e, upf_ne _ _ e, upf_ne _ _ (by omega)]
        exact q9
    · rw [upf_ne _ _ (by omega)]
      exact T.2.2.2.2.2.2 i (by omega) i1
  · exact F_MO_node_0 v1 v2 v3 g1 g2 g3 (sp_MO_isNode g1 (by omega) (fun _ => rc1 (sp_MO_isShare g2 g3 (fun _ => rc1 ⟨fun z => absurd (by omega) z, fun _ => done (by omega) I.step⟩) (fun z => absurd c2 z))) (fun z => absurd (by omega) z))
  · exact F_MO_node_0 v1 v2 v3 g1 g2 g3 (sp_MO_isNode g1 (by omega) (fun _ => rc1 (sp_MO_isShare g2 g3 (fun z => absurd z c2) (fun _ => rc0 (done (by omega) I.step)))) (fun z => absurd (by omega) z))
  · exact F_MO_node_0 v1 v2 v3 g1 g2 g3 (sp_MO_isNode g1 (by omega) (fun z => absurd (by omega) c1) (fun _ => rc0 (done (by omega) I.step)))
end TR
