/-! calls on shakes -/
/-- six digits of x, base 101, from place b on -/
def wr6 (B : Int → Int) (b x : Int) : Int → Int := upf (upf (upf (upf (upf (upf B (b + 0) (x % 101)) (b + 1) (x / 101 % 101)) (b + 2) (x / 101 / 101 % 101)) (b + 3) (x / 101 / 101 / 101 % 101)) (b + 4) (x / 101 / 101 / 101 / 101 % 101)) (b + 5) (x / 101 / 101 / 101 / 101 / 101 % 101)
theorem wr6_old (B : Int → Int) {b x i : Int} (h : i < b) : wr6 B b x i = B i := by
  unfold wr6
  rw [upf_ne _ _ (by omega), upf_ne _ _ (by omega), upf_ne _ _ (by omega), upf_ne _ _ (by omega), upf_ne _ _ (by omega), upf_ne _ _ (by omega)]
theorem wr6_new (B B' : Int → Int) {b x i : Int} (h : b ≤ i) (h2 : i < b + 6) : wr6 B b x i = wr6 B' b x i ∧ (0 ≤ wr6 B b x i ∧ wr6 B b x i ≤ 100) := by
  unfold wr6 upf
  by_cases e5 : i = b + 5
  · simp only [if_pos e5, true_and]; omega
  · simp only [if_neg e5]
    by_cases e4 : i = b + 4
    · simp only [if_pos e4, true_and]; omega
    · simp only [if_neg e4]
      by_cases e3 : i = b + 3
      · simp only [if_pos e3, true_and]; omega
      · simp only [if_neg e3]
        by_cases e2 : i = b + 2
        · simp only [if_pos e2, true_and]; omega
        · simp only [if_neg e2]
          by_cases e1 : i = b + 1
          · simp only [if_pos e1, true_and]; omega
          · simp only [if_neg e1]
            have e0 : i = b + 0 := by omega
            simp only [if_pos e0, true_and]; omega
section SK
variable {D : va_G} {ad : Nat → Nat} {ca : Nat → ClassId} {sc : SC} {h : Hp} {Q : Option Value → Hp → Prop} {N n : Int}
theorem SH_add_step {v3 v4 x i : Int} {B : Int → Int} (g3 : InR v3) (h4 : 0 ≤ v4 ∧ v4 < 80) (hx : 0 ≤ x ∧ InL x) (hi : 0 ≤ i ∧ i < 6) (k : WP D ad ca sc M_SH_add 12 [(0, .ref (ad 1)), (3, vI v3), (4, vI v4), (5, vL (x / 101)), (7, vI (i + 1))] [] (sw h 2 (upf B (6 * v4 + i) (x % 101))) Q) : WP D ad ca sc M_SH_add 12 [(0, .ref (ad 1)), (3, vI v3), (4, vI v4), (5, vL x), (7, vI i)] [] (sw h 2 B) Q := by
  refine F_SH_add_12 v3 v4 x i g3 (by omega) (by omega) ⟨fun c => absurd c (by omega), fun c => ⟨hx, by omega, by omega, hx, ?_⟩⟩
  rw [up_sw_self, show v4 * 6 + i = 6 * v4 + i by omega]
  exact k
theorem div_ok {x : Int} (hx : 0 ≤ x ∧ InL x) : 0 ≤ x / 101 ∧ InL (x / 101) := by omega
theorem sp_SH_add {x t : Int} (gt : InR t) (hn : 0 ≤ h 1 5 ∧ h 1 5 < 80) (hx : 0 ≤ x ∧ InL x) (hB : Bnd (h 2) (h 1 5)) (hq : 1 ≤ h 1 6 ∧ h 1 6 ≤ 100) (L : IsLab (alk (h 2) (h 1 6)) (h 1 5) (h 5))
    (k : ∀ g, IsLab (alk (wr6 (h 2) (6 * h 1 5) x) (h 1 6)) (h 1 5 + 1) g → Q (some (vI (h 1 5))) (up (sw (up (up (sw h 2 (wr6 (h 2) (6 * h 1 5) x)) 3 (h 1 5) t) 4 (h 1 5) (kdf (wr6 (h 2) (6 * h 1 5) x) (h 1 5))) 5 g) 1 5 (h 1 5 + 1))) : WP D ad ca sc M_SH_add 0 [(0, .ref (ad 1)), (1, vL x), (3, vI t)] [] h Q := by
  refine F_SH_add_0 x t hx.2 gt ?_
  have e : WP D ad ca sc M_SH_add 12 [(0, .ref (ad 1)), (3, vI t), (4, vI (h 1 5)), (5, vL x), (7, vI 0)] [] (sw h 2 (h 2)) Q := by
    have x1 := div_ok hx
    have x2 := div_ok x1
    have x3 := div_ok x2
    have x4 := div_ok x3
    have x5 := div_ok x4
    refine SH_add_step gt hn hx (by omega) ?_
    refine SH_add_step gt hn x1 (by omega) ?_
    refine SH_add_step gt hn x2 (by omega) ?_
    refine SH_add_step gt hn x3 (by omega) ?_
    refine SH_add_step gt hn x4 (by omega) ?_
    refine SH_add_step gt hn x5 (by omega) ?_
    simp only [Int.reduceAdd, Int.zero_add]
    have hB' : Bnd (wr6 (h 2) (6 * h 1 5) x) (h 1 5 + 1) := by
      intro i i0 i1
      by_cases q : i < 6 * h 1 5
      · rw [wr6_old _ q]; exact hB i i0 q
      · exact (wr6_new (h 2) (h 2) (by omega) (by omega)).2
    refine F_SH_add_12 t (h 1 5) _ 6 gt (by omega) (by omega) ⟨fun c => ⟨by omega, ?_⟩, fun c => absurd c (by omega)⟩
    have kb := kdf_bd (wr6 (h 2) (6 * h 1 5) x) (h 1 5)
    refine sp_SH_kindOf (n := h 1 5 + 1) (h := up (sw h 2 (wr6 (h 2) (6 * h 1 5) x)) 3 (h 1 5) t) (by omega) hB' (by omega) (RI_mk ?_ ⟨by omega, ?_⟩)
    · show InR (kdf (wr6 (h 2) (6 * h 1 5) x) (h 1 5))
      omega
    · refine sp_join (h := up (up (sw h 2 (wr6 (h 2) (6 * h 1 5) x)) 3 (h 1 5) t) 4 (h 1 5) (kdf (wr6 (h 2) (6 * h 1 5) x) (h 1 5))) hn hB' hq ?_ (fun g hg => RV_mk ⟨by omega, k g hg⟩)
      exact IsLab.congr (fun a b a0 a1 b0 b1 => alk_congr (fun i i0 i1 => (wr6_old _ i1).symm) a0 a1 b0 b1) (fun _ _ _ => rfl) L
  rw [sw_self] at e
  exact e
theorem MO_shake_step {x i : Int} {B : Int → Int} (h4 : 0 ≤ h 28 1 ∧ h 28 1 < 80) (hx : 0 ≤ x ∧ InL x) (hi : 0 ≤ i ∧ i < 6) (k : WP D ad ca sc M_MO_shake 34 [(0, .ref (ad 28)), (3, vL (x / 101)), (5, vI (i + 1))] [] (sw h 30 (upf B (6 * h 28 1 + i) (x % 101))) Q) : WP D ad ca sc M_MO_shake 34 [(0, .ref (ad 28)), (3, vL x), (5, vI i)] [] (sw h 30 B) Q := by
  refine F_MO_shake_34 x i (by omega) ⟨fun c => absurd c (by omega), fun c => ⟨hx, ?_, by omega, hx, ?_⟩⟩
  · show 0 ≤ 6 * h 28 1 + i ∧ 6 * h 28 1 + i < 480
    omega
  · rw [up_sw_self]
    exact k
theorem sp_MO_shake {x : Int} (hn : 0 ≤ h 28 1 ∧ h 28 1 < 80) (hx : 0 ≤ x ∧ InL x) (k : Q (some (vI (h 28 1))) (up (up (up (sw h 30 (wr6 (h 30) (6 * h 28 1) x)) 29 (h 28 1) (h 28 0)) 28 1 (h 28 1 + 1)) 28 5 0)) : WP D ad ca sc M_MO_shake 34 [(0, .ref (ad 28)), (3, vL x), (5, vI 0)] [] h Q := by
  have e : WP D ad ca sc M_MO_shake 34 [(0, .ref (ad 28)), (3, vL x), (5, vI 0)] [] (sw h 30 (h 30)) Q := by
    have x1 := div_ok hx
    have x2 := div_ok x1
    have x3 := div_ok x2
    have x4 := div_ok x3
    have x5 := div_ok x4
    refine MO_shake_step hn hx (by omega) ?_
    refine MO_shake_step hn x1 (by omega) ?_
    refine MO_shake_step hn x2 (by omega) ?_
    refine MO_shake_step hn x3 (by omega) ?_
    refine MO_shake_step hn x4 (by omega) ?_
    refine MO_shake_step hn x5 (by omega) ?_
    simp only [Int.reduceAdd, Int.zero_add]
    refine F_MO_shake_34 _ 6 (by omega) ⟨fun c => ⟨?_, ?_, ?_⟩, fun c => absurd c (by omega)⟩
    · show 0 ≤ h 28 1 ∧ h 28 1 < 80
      omega
    · show InR (h 28 1 + 1)
      omega
    · show Q (some (vI (h 28 1 + 1 - 1))) (up (up (up (sw h 30 (wr6 (h 30) (6 * h 28 1) x)) 29 (h 28 1) (h 28 0)) 28 1 (h 28 1 + 1)) 28 5 0)
      rw [show h 28 1 + 1 - 1 = h 28 1 by omega]
      exact k
  rw [sw_self] at e
  exact e
theorem pa_shake {v1 : Int} (g1 : InL v1) (I : Inv N h) : WP D ad ca none M_MW_shake 0 [(0, .ref (ad 0)), (1, vL v1)] [] h (RI (fun r h1 => WP D ad ca none M_MO_shake 0 [(0, .ref (ad 28)), (1, vL v1)] [] h1 (RI (SameA N r)))) := by
  have A := I.1
  have S := I.2.1
  obtain ⟨s1, s2, s3, s4, s5⟩ := S.facts
  have t0 := A.1
  have t1 := A.2.1
  have bad : (v1 < 1 ∨ 1061520150600 < v1) → RI (fun r h1 => WP D ad ca none M_MO_shake 0 [(0, .ref (ad 28)), (1, vL v1)] [] h1 (RI (SameA N r))) (some (vI (-2))) h := by
    intro q
    refine RI_mk (by omega) (F_MO_shake_0 v1 g1 ⟨fun c => done (by omega) I.step, fun c => ⟨fun c2 => absurd c2 (by omega), fun c2 => done (by omega) I.step⟩⟩)
  refine F_MW_shake_0 v1 g1 ⟨fun c => bad (Or.inl c), fun c => ⟨fun c2 => ⟨fun c3 => ?_, fun c3 => ?_⟩, fun c2 => bad (Or.inr c2)⟩⟩
  · refine sp_SH_add (by omega) (by omega) (by omega) S.2.2.2.2.2.1 s4 S.2.2.2.2.2.2.2.1 (fun g hg => RI_mk (by omega) (RI_mk (by omega) ?_))
    refine F_MO_shake_0 v1 g1 ⟨fun z => absurd z (by omega), fun _ => ⟨fun _ => ⟨fun c4 => ?_, fun c4 => ?_⟩, fun z => absurd z (by omega)⟩⟩
    · refine sp_MO_shake ?_ (by omega) (done2 (by omega) ?_ ⟨A.step, ⟨?_, ?_, s3, s4, ?_, ?_, ?_, hg, Or.inl rfl, ?_⟩, I.2.2.1, I.2.2.2.1, I.2.2.2.2.1.step, I.2.2.2.2.2⟩)
      · show 0 ≤ h 28 1 ∧ h 28 1 < 80
        omega
      · exact s1
      · show h 1 5 + 1 = h 28 1 + 1
        omega
      · show 0 ≤ h 1 5 + 1 ∧ h 1 5 + 1 ≤ 80
        omega
      · intro i i0 i1
        have i1 : i < 6 * (h 1 5 + 1) := i1
        show wr6 (h 2) (6 * h 1 5) v1 i = wr6 (h 30) (6 * h 28 1) v1 i
        rw [← s1]
        by_cases q : i < 6 * h 1 5
        · rw [wr6_old _ q, wr6_old _ q]; exact S.2.2.2.2.1 i i0 q
        · exact (wr6_new _ _ (by omega) (by omega)).1
      · intro i i0 i1
        have i1 : i < 6 * (h 1 5 + 1) := i1
        show 0 ≤ wr6 (h 2) (6 * h 1 5) v1 i ∧ wr6 (h 2) (6 * h 1 5) v1 i ≤ 100
        by_cases q : i < 6 * h 1 5
        · rw [wr6_old _ q]; exact S.2.2.2.2.2.1 i i0 q
        · exact (wr6_new (h 2) (h 2) (by omega) (by omega)).2
      · intro i i0 i1
        have i1 : i < h 1 5 + 1 := i1
        show upf (h 3) (h 1 5) (h 0 5) i = upf (h 29) (h 28 1) (h 28 0) i ∧ (0 ≤ upf (h 3) (h 1 5) (h 0 5) i ∧ upf (h 3) (h 1 5) (h 0 5) i ≤ 999) ∧ upf (h 4) (h 1 5) (kdf (wr6 (h 2) (6 * h 1 5) v1) (h 1 5)) i = kdf (wr6 (h 2) (6 * h 1 5) v1) i
        rw [← s1, ← t0]
        by_cases q : i = h 1 5
        · rw [q, upf_same, upf_same, upf_same]
          exact ⟨rfl, by omega, rfl⟩
        · rw [upf_ne _ _ q, upf_ne _ _ q, upf_ne _ _ q]
          obtain ⟨a1, a2, a3⟩ := S.2.2.2.2.2.2.1 i i0 (by omega)
          exact ⟨a1, a2, a3.trans (kdf_congr (n := h 1 5) (fun j j0 j1 => (wr6_old _ j1).symm) i0 (by omega))⟩
      · intro z
        exact absurd (show (0 : Int) = 1 from z) (by decide)
    · have c4 : h 28 1 = 80 := c4
      omega
  · refine RI_mk (by omega) (F_MO_shake_0 v1 g1 ⟨fun z => absurd z (by omega), fun _ => ⟨fun _ => ⟨fun c4 => absurd (by omega) c4, fun c4 => done (by omega) I.step⟩, fun z => absurd z (by omega)⟩⟩)
theorem pa_likeness {v1 : Int} (g1 : InR v1) (I : Inv N h) : WP D ad ca none M_MW_likeness 0 [(0, .ref (ad 0)), (1, vI v1)] [] h (RI (fun r h1 => WP D ad ca none M_MO_likeness 0 [(0, .ref (ad 28)), (1, vI v1)] [] h1 (RI (SameA N r)))) := by
  have S := I.2.1
  obtain ⟨s1, s2, s3, s4, s5⟩ := S.facts
  refine F_MW_likeness_0 v1 g1 (sp_MW_isWithin g1 i1 (by omega) (fun c => rc1 (sp_ask (n := h 1 5) ⟨rfl, by omega, by omega⟩ S.2.2.2.2.2.1 c (fun g hg => RV_mk (RI_mk (by omega) ?_)))) (fun c => rc0 (RI_mk (by omega) ?_)))
  · refine F_MO_likeness_0 v1 g1 (sp_MO_in g1 i1 (by omega) (fun _ => rc1 ?_) (fun z => absurd c z))
    exact done2 (by omega) s3 ⟨I.1.step, ⟨s1, s2, rfl, c, S.2.2.2.2.1, S.2.2.2.2.2.1, S.2.2.2.2.2.2.1, hg, Or.inl rfl, fun z => absurd (show (0 : Int) = 1 from z) (by decide)⟩, I.2.2.1, I.2.2.2.1, I.2.2.2.2.1.step, I.2.2.2.2.2⟩
  · exact F_MO_likeness_0 v1 g1 (sp_MO_in g1 i1 (by omega) (fun z => absurd z c) (fun _ => rc0 (done (by omega) I.step)))
theorem pa_alike {v1 v2 : Int} (g1 : InR v1) (g2 : InR v2) (I : Inv N h) : WP D ad ca none M_MW_alike 0 [(0, .ref (ad 0)), (1, vI v1), (2, vI v2)] [] h (RI (fun r h1 => WP D ad ca none M_MO_alike 0 [(0, .ref (ad 28)), (1, vI v1), (2, vI v2)] [] h1 (RI (SameA N r)))) := by
  have S := I.2.1
  obtain ⟨s1, s2, s3, s4, s5⟩ := S.facts
  have cg : ∀ {a b}, 0 ≤ a ∧ a < h 1 5 → 0 ≤ b ∧ b < h 1 5 → (alk (h 2) (h 1 6) a b ↔ alk (h 30) (h 28 6) a b) := fun {a b} ha hb => by rw [← s3]; exact alk_congr S.2.2.2.2.1 ha.1 ha.2 hb.1 hb.2
  refine F_MW_alike_0 v1 v2 g1 g2 (sp_SH_has g1 (fun c1 => rb1 (sp_SH_has g2 (fun c2 => rc1 (sp_SH_areAlike (n := h 1 5) (by omega) S.2.2.2.2.2.1 s4 c1 c2 (fun r => RI_mk i1 (sp_MW_oneIf (Or.inr rfl) (RI_mk i1 (RI_mk i1 ?_)))) (fun r => RI_mk i0 (sp_MW_oneIf (Or.inl rfl) (RI_mk i0 (RI_mk i0 ?_)))))) (fun c2 => rc0 (RI_mk (by omega) ?_)))) (fun c1 => rb0 (RI_mk (by omega) ?_)))
  · exact F_MO_alike_0 v1 v2 g1 g2 (sp_MO_isShake g1 (by omega) (fun _ => rb1 (sp_MO_isShake g2 (by omega) (fun _ => rc1 (sp_MO_areAlike (n := h 28 1) (by omega) S.Bnd' (by omega) (by omega) (by omega) (fun r2 => rb1 (done i1 I.step)) (fun r2 => absurd ((cg c1 c2).mp r) r2))) (fun z => absurd (by omega) z))) (fun z => absurd (by omega) z))
  · exact F_MO_alike_0 v1 v2 g1 g2 (sp_MO_isShake g1 (by omega) (fun _ => rb1 (sp_MO_isShake g2 (by omega) (fun _ => rc1 (sp_MO_areAlike (n := h 28 1) (by omega) S.Bnd' (by omega) (by omega) (by omega) (fun r2 => absurd ((cg c1 c2).mpr r2) r) (fun r2 => rb0 (done i0 I.step)))) (fun z => absurd (by omega) z))) (fun z => absurd (by omega) z))
  · exact F_MO_alike_0 v1 v2 g1 g2 (sp_MO_isShake g1 (by omega) (fun _ => rb1 (sp_MO_isShake g2 (by omega) (fun z => absurd (by omega) c2) (fun _ => rc0 (done (by omega) I.step)))) (fun z => absurd (by omega) z))
  · exact F_MO_alike_0 v1 v2 g1 g2 (sp_MO_isShake g1 (by omega) (fun z => absurd (by omega) c1) (fun _ => rb0 (done (by omega) I.step)))
theorem pa_about {v1 v2 : Int} (g1 : InR v1) (g2 : InR v2) (I : Inv N h) : WP D ad ca none M_MW_about 0 [(0, .ref (ad 0)), (1, vI v1), (2, vI v2)] [] h (RI (fun r h1 => WP D ad ca none M_MO_about 0 [(0, .ref (ad 28)), (1, vI v1), (2, vI v2)] [] h1 (RI (SameA N r)))) := by
  have S := I.2.1
  obtain ⟨s1, s2, s3, s4, s5⟩ := S.facts
  refine F_MW_about_0 v1 v2 g1 g2 (sp_SH_has g1 (fun c1 => rc1 (sp_MW_isWithin g2 (by omega) (by omega) (fun c2 => rb1 (sp_SH_band (by omega) (by omega) ?_)) (fun c2 => rb0 ⟨fun e => ⟨by omega, ?_⟩, fun e => ⟨by omega, ?_⟩, fun e => ⟨by omega, ?_⟩, fun e => ?_⟩))) (fun c1 => rc0 (RI_mk (by omega) ?_)))
  · have b := S.2.2.2.2.2.1 (6 * v1 + (v2 - 10)) (by omega) (by omega)
    have b2 := S.2.2.2.2.1 (6 * v1 + (v2 - 10)) (by omega) (by omega)
    refine RI_mk (by omega) (RI_mk (by omega) ?_)
    refine F_MO_about_0 v1 v2 g1 g2 (sp_MO_isShake g1 (by omega) (fun _ => rc1 (sp_mark2 S (fun g hg => RV_mk ⟨fun z => absurd z (by omega), fun z => absurd z (by omega), fun z => absurd z (by omega), fun _ => sp_MO_in g2 (by omega) (by omega) (fun _ => rb1 ⟨by omega, ?_⟩) (fun z => absurd c2 z)⟩))) (fun z => absurd (by omega) z))
    refine done2 (by omega) ?_ (I.mark hg).step
    rw [b2, show 6 * v1 + (v2 - 10) = 6 * v1 + v2 - 10 by omega]
    rfl
  · obtain ⟨a1, a2, a3⟩ := S.2.2.2.2.2.2.1 v1 c1.1 c1.2
    refine RI_mk (by omega) (F_MO_about_0 v1 v2 g1 g2 (sp_MO_isShake g1 (by omega) (fun _ => rc1 (sp_mark2 S (fun g hg => RV_mk ⟨fun _ => ⟨by omega, ?_⟩, fun z => absurd z (by omega), fun z => absurd z (by omega), fun z => absurd z (by omega)⟩))) (fun z => absurd (by omega) z)))
    exact done2 (by omega) a1 (I.mark hg).step
  · obtain ⟨a1, a2, a3⟩ := S.2.2.2.2.2.2.1 v1 c1.1 c1.2
    have kb := kdf_bd (h 2) v1
    have kc : kdf (h 2) v1 = kdf (h 30) v1 := kdf_congr (n := h 1 5) S.2.2.2.2.1 c1.1 c1.2
    refine RI_mk (by omega) (F_MO_about_0 v1 v2 g1 g2 (sp_MO_isShake g1 (by omega) (fun _ => rc1 (sp_mark2 S (fun g hg => RV_mk ⟨fun z => absurd z (by omega), fun _ => sp_MO_kindOf (n := h 28 1) (h := mkd h g) (by omega) S.Bnd' (by omega) (RI_mk ?_ ?_), fun z => absurd z (by omega), fun z => absurd z (by omega)⟩))) (fun z => absurd (by omega) z)))
    · show InR (kdf (h 30) v1)
      omega
    · exact done2 (by omega) (a3.trans kc) (I.mark hg).step
  · have lb := S.2.2.2.2.2.2.2.1
    have b := (lb.2 v1 c1.1 c1.2).1
    refine RI_mk (by omega) (F_MO_about_0 v1 v2 g1 g2 (sp_MO_isShake g1 (by omega) (fun _ => rc1 (sp_mark2 S (fun g hg => RV_mk ⟨fun z => absurd z (by omega), fun z => absurd z (by omega), fun _ => ⟨by omega, ?_⟩, fun z => absurd z (by omega)⟩))) (fun z => absurd (by omega) z)))
    exact done2 (by omega) (lb.uniq hg c1.1 c1.2) (I.mark hg).step
  · refine RI_mk (by omega) (F_MO_about_0 v1 v2 g1 g2 (sp_MO_isShake g1 (by omega) (fun _ => rc1 (sp_mark2 S (fun g hg => RV_mk ⟨fun z => absurd z (by omega), fun z => absurd z (by omega), fun z => absurd z (by omega), fun _ => sp_MO_in g2 (by omega) (by omega) (fun z => absurd z c2) (fun _ => rb0 (done (by omega) (I.mark hg).step))⟩))) (fun z => absurd (by omega) z)))
  · exact F_MO_about_0 v1 v2 g1 g2 (sp_MO_isShake g1 (by omega) (fun z => absurd (by omega) c1) (fun _ => rc0 (done (by omega) I.step)))
/-- loops that count -/
theorem sp_kin_loop {v1 : Int} (hn : 0 ≤ h 1 5 ∧ h 1 5 ≤ 80) (h1 : 0 ≤ v1 ∧ v1 < 80) : ∀ (m : Nat) (acc w : Int), 0 ≤ w → 0 ≤ acc → acc ≤ w → w + m = h 1 5 → Q (some (vI (acc + sumR (fun j => if h 5 j = h 5 v1 then 1 else 0) w m))) h →
    WP D ad ca sc M_SH_countKin 4 [(0, .ref (ad 1)), (1, vI v1), (2, vI acc), (3, vI w)] [] h Q := by
  intro m
  induction m with
  | zero =>
    intro acc w h0 h2 h3 hm k
    refine F_SH_countKin_4 v1 acc w (by omega) (by omega) (by omega) ⟨fun c => ?_, fun c => absurd c (by omega)⟩
    rw [show sumR (fun j => if h 5 j = h 5 v1 then (1 : Int) else 0) w 0 = 0 from rfl, Int.add_zero] at k
    exact k
  | succ m ih =>
    intro acc w h0 h2 h3 hm k
    have ek : sumR (fun j => if h 5 j = h 5 v1 then (1 : Int) else 0) w (m + 1) = (if h 5 w = h 5 v1 then 1 else 0) + sumR (fun j => if h 5 j = h 5 v1 then (1 : Int) else 0) (w + 1) m := rfl
    rw [ek] at k
    refine F_SH_countKin_4 v1 acc w (by omega) (by omega) (by omega) ⟨fun c => absurd c (by omega), fun c => ⟨by omega, by omega, fun c1 => ?_, fun c1 => ?_⟩⟩
    · rw [if_neg c1, Int.zero_add] at k
      exact ih acc (w + 1) (by omega) (by omega) (by omega) (by omega) k
    · rw [if_pos c1, ← Int.add_assoc] at k
      exact ih (acc + 1) (w + 1) (by omega) (by omega) (by omega) (by omega) k
theorem sp_MOkin_loop {v1 : Int} (hn : 0 ≤ h 28 1 ∧ h 28 1 ≤ 80) (h1 : 0 ≤ v1 ∧ v1 < 80) : ∀ (m : Nat) (acc w : Int), 0 ≤ w → 0 ≤ acc → acc ≤ w → w + m = h 28 1 → Q (some (vI (acc + sumR (fun j => if h 31 j = h 31 v1 then 1 else 0) w m))) h →
    WP D ad ca sc M_MO_kin 18 [(0, .ref (ad 28)), (1, vI v1), (2, vI acc), (3, vI w)] [] h Q := by
  intro m
  induction m with
  | zero =>
    intro acc w h0 h2 h3 hm k
    refine F_MO_kin_18 v1 acc w (by omega) (by omega) (by omega) ⟨fun c => ?_, fun c => absurd c (by omega)⟩
    rw [show sumR (fun j => if h 31 j = h 31 v1 then (1 : Int) else 0) w 0 = 0 from rfl, Int.add_zero] at k
    exact k
  | succ m ih =>
    intro acc w h0 h2 h3 hm k
    have ek : sumR (fun j => if h 31 j = h 31 v1 then (1 : Int) else 0) w (m + 1) = (if h 31 w = h 31 v1 then 1 else 0) + sumR (fun j => if h 31 j = h 31 v1 then (1 : Int) else 0) (w + 1) m := rfl
    rw [ek] at k
    refine F_MO_kin_18 v1 acc w (by omega) (by omega) (by omega) ⟨fun c => absurd c (by omega), fun c => ⟨by omega, by omega, fun c1 => ?_, fun c1 => ?_⟩⟩
    · rw [if_neg c1, Int.zero_add] at k
      rw [Int.add_zero]
      exact ih acc (w + 1) (by omega) (by omega) (by omega) (by omega) k
    · rw [if_pos c1, ← Int.add_assoc] at k
      exact ih (acc + 1) (w + 1) (by omega) (by omega) (by omega) (by omega) k
theorem pa_kin {v1 : Int} (g1 : InR v1) (I : Inv N h) : WP D ad ca none M_MW_kin 0 [(0, .ref (ad 0)), (1, vI v1)] [] h (RI (fun r h1 => WP D ad ca none M_MO_kin 0 [(0, .ref (ad 28)), (1, vI v1)] [] h1 (RI (SameA N r)))) := by
  have S := I.2.1
  obtain ⟨s1, s2, s3, s4, s5⟩ := S.facts
  have lb := S.2.2.2.2.2.2.2.1
  refine F_MW_kin_0 v1 g1 (sp_SH_has g1 (fun c1 => rb1 (F_SH_countKin_0 v1 g1 (sp_kin_loop (by omega) (by omega) (h 1 5).toNat 0 0 (by omega) (by omega) (by omega) (by omega) ?_))) (fun c1 => rb0 (RI_mk (by omega) ?_)))
  · have b := sumR_bd (f := fun j => if h 5 j = h 5 v1 then (1 : Int) else 0) (m := 0) (M := 1) (h 1 5).toNat 0 (fun j _ _ => by split <;> omega)
    refine RI_mk (by omega) (RI_mk (by omega) ?_)
    refine F_MO_kin_0 v1 g1 (sp_MO_isShake g1 (by omega) (fun _ => rc1 (sp_mark2 S (fun g hg => RV_mk (sp_MOkin_loop (h := mkd h g) ?_ (by omega) (h 1 5).toNat 0 0 (by omega) (by omega) (by omega) ?_ (done2 (by omega) ?_ (I.mark hg).step))))) (fun z => absurd (by omega) z))
    · show 0 ≤ h 28 1 ∧ h 28 1 ≤ 80
      omega
    · show 0 + (((h 1 5).toNat : Nat) : Int) = h 28 1
      omega
    · congr 1
      refine sumR_congr _ _ (fun j j0 j1 => ?_)
      have e1 := lb.uniq hg j0 (by omega)
      have e2 := lb.uniq hg c1.1 c1.2
      show (if h 5 j = h 5 v1 then (1 : Int) else 0) = if g j = g v1 then 1 else 0
      rw [e1, e2]
  · exact F_MO_kin_0 v1 g1 (sp_MO_isShake g1 (by omega) (fun z => absurd (by omega) c1) (fun _ => rc0 (done (by omega) I.step)))
/-- family i, or how many -/
def fbo (g : Int → Int) (i : Int) : Nat → Int → Int → Int
  | 0, found, _ => if i = -1 then found else -6
  | k + 1, found, v => if g v = v then (if found = i then v else fbo g i k (found + 1) (v + 1)) else fbo g i k found (v + 1)
theorem fbo_congr {g g' : Int → Int} {i : Int} : ∀ (k : Nat) (f v : Int), (∀ j, v ≤ j → j < v + k → g j = g' j) → fbo g i k f v = fbo g' i k f v
  | 0, _, _, _ => rfl
  | k + 1, f, v, h => by
    have e := h v (by omega) (by omega)
    unfold fbo
    rw [e, fbo_congr k (f + 1) (v + 1) (fun j h1 h2 => h j (by omega) (by omega)), fbo_congr k f (v + 1) (fun j h1 h2 => h j (by omega) (by omega))]
theorem fbo_bd {g : Int → Int} {i : Int} : ∀ (k : Nat) (f v : Int), 0 ≤ f → f ≤ v → -6 ≤ fbo g i k f v ∧ fbo g i k f v ≤ v + k
  | 0, f, v, h0, h1 => by unfold fbo; split <;> omega
  | k + 1, f, v, h0, h1 => by
    have a := fbo_bd (g := g) (i := i) k (f + 1) (v + 1) (by omega) (by omega)
    have b := fbo_bd (g := g) (i := i) k f (v + 1) (by omega) (by omega)
    unfold fbo
    split
    · split <;> omega
    · omega
theorem sp_byOrder {v1 : Int} (g1 : InR v1) (hv : ¬ v1 = -1) (hn : 0 ≤ h 1 5 ∧ h 1 5 ≤ 80) : ∀ (m : Nat) (f w : Int), 0 ≤ f → f ≤ w → 0 ≤ w → w + m = h 1 5 → Q (some (vI (fbo (h 5) v1 m f w))) h → WP D ad ca sc M_SH_familyByOrder 4 [(0, .ref (ad 1)), (1, vI v1), (2, vI f), (3, vI w)] [] h Q := by
  intro m
  induction m with
  | zero =>
    intro f w f0 f1 w0 hm k
    unfold fbo at k
    rw [if_neg hv] at k
    exact F_SH_familyByOrder_4 v1 f w g1 (by omega) (by omega) ⟨fun c => k, fun c => absurd c (by omega)⟩
  | succ m ih =>
    intro f w f0 f1 w0 hm k
    unfold fbo at k
    refine F_SH_familyByOrder_4 v1 f w g1 (by omega) (by omega) ⟨fun c => absurd c (by omega), fun c => ⟨by omega, fun c1 => ?_, fun c1 => ⟨fun c2 => ?_, fun c2 => ?_⟩⟩⟩
    · rw [if_neg c1] at k
      exact ih f (w + 1) f0 (by omega) (by omega) (by omega) k
    · rw [if_pos c1, if_neg c2] at k
      exact ih (f + 1) (w + 1) (by omega) (by omega) (by omega) (by omega) k
    · rw [if_pos c1, if_pos c2] at k
      exact k
theorem sp_countFam (hn : 0 ≤ h 1 5 ∧ h 1 5 ≤ 80) : ∀ (m : Nat) (f w : Int), 0 ≤ f → f ≤ w → 0 ≤ w → w + m = h 1 5 → Q (some (vI (fbo (h 5) (-1) m f w))) h → WP D ad ca sc M_SH_countFamilies 4 [(0, .ref (ad 1)), (1, vI f), (2, vI w)] [] h Q := by
  intro m
  induction m with
  | zero =>
    intro f w f0 f1 w0 hm k
    unfold fbo at k
    rw [if_pos rfl] at k
    exact F_SH_countFamilies_4 f w (by omega) (by omega) ⟨fun c => k, fun c => absurd c (by omega)⟩
  | succ m ih =>
    intro f w f0 f1 w0 hm k
    unfold fbo at k
    refine F_SH_countFamilies_4 f w (by omega) (by omega) ⟨fun c => absurd c (by omega), fun c => ⟨by omega, fun c1 => ?_, fun c1 => ?_⟩⟩
    · rw [if_neg c1] at k
      exact ih f (w + 1) f0 (by omega) (by omega) (by omega) k
    · rw [if_pos c1, if_neg (by omega)] at k
      exact ih (f + 1) (w + 1) (by omega) (by omega) (by omega) (by omega) k
theorem sp_MOfam {v1 : Int} (g1 : InR v1) (hn : 0 ≤ h 28 1 ∧ h 28 1 ≤ 80) : ∀ (m : Nat) (f w : Int), 0 ≤ f → f ≤ w → 0 ≤ w → w + m = h 28 1 → Q (some (vI (fbo (h 31) v1 m f w))) h → WP D ad ca sc M_MO_family 8 [(0, .ref (ad 28)), (1, vI v1), (2, vI f), (3, vI w)] [] h Q := by
  intro m
  induction m with
  | zero =>
    intro f w f0 f1 w0 hm k
    unfold fbo at k
    refine F_MO_family_8 v1 f w g1 (by omega) (by omega) ⟨fun c => ⟨fun c1 => ?_, fun c1 => ?_⟩, fun c => absurd c (by omega)⟩
    · rw [if_neg c1] at k; exact k
    · rw [if_pos c1] at k; exact k
  | succ m ih =>
    intro f w f0 f1 w0 hm k
    unfold fbo at k
    refine F_MO_family_8 v1 f w g1 (by omega) (by omega) ⟨fun c => absurd c (by omega), fun c => ⟨by omega, fun c1 => ?_, fun c1 => ⟨fun c2 => ?_, fun c2 => ?_⟩⟩⟩
    · rw [if_neg c1] at k
      exact ih f (w + 1) f0 (by omega) (by omega) (by omega) k
    · rw [if_pos c1, if_neg c2] at k
      exact ih (f + 1) (w + 1) (by omega) (by omega) (by omega) (by omega) k
    · rw [if_pos c1, if_pos c2] at k
      exact k
theorem pa_family {v1 : Int} (g1 : InR v1) (I : Inv N h) : WP D ad ca none M_MW_family 0 [(0, .ref (ad 0)), (1, vI v1)] [] h (RI (fun r h1 => WP D ad ca none M_MO_family 0 [(0, .ref (ad 28)), (1, vI v1)] [] h1 (RI (SameA N r)))) := by
  have S := I.2.1
  obtain ⟨s1, s2, s3, s4, s5⟩ := S.facts
  have lb := S.2.2.2.2.2.2.2.1
  have b := fbo_bd (g := h 5) (i := v1) (h 1 5).toNat 0 0 (by omega) (by omega)
  have md : RI (fun r h1 => WP D ad ca none M_MO_family 0 [(0, .ref (ad 28)), (1, vI v1)] [] h1 (RI (SameA N r))) (some (vI (fbo (h 5) v1 (h 1 5).toNat 0 0))) h := by
    refine RI_mk (by omega) (F_MO_family_0 v1 g1 (sp_mark2 S (fun g hg => RV_mk (sp_MOfam (h := mkd h g) g1 ?_ (h 1 5).toNat 0 0 (by omega) (by omega) (by omega) ?_ (done2 (by omega) ?_ (I.mark hg).step)))))
    · show 0 ≤ h 28 1 ∧ h 28 1 ≤ 80
      omega
    · show 0 + (((h 1 5).toNat : Nat) : Int) = h 28 1
      omega
    · exact fbo_congr _ _ _ (fun j j0 j1 => lb.uniq hg j0 (by omega))
  refine F_MW_family_0 v1 g1 ⟨fun c => F_SH_familyByOrder_0 v1 g1 (sp_byOrder g1 c (by omega) (h 1 5).toNat 0 0 (by omega) (by omega) (by omega) (by omega) (RI_mk (by omega) md)), fun c => F_SH_countFamilies_0 (sp_countFam (by omega) (h 1 5).toNat 0 0 (by omega) (by omega) (by omega) (by omega) ?_)⟩
  rw [c] at b md
  rw [c]
  exact RI_mk (by omega) md
end SK
