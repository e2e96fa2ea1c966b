/-! pairs of calls, the plain ones -/
def SameA (N : Int) (r : Int) : Int → Hp → Prop := fun r2 h2 => r = r2 ∧ Inv (N + 1) h2
theorem done {N r : Int} {h : Hp} (hr : InR r) (I : Inv (N + 1) h) : RI (SameA N r) (some (vI r)) h := RI_mk hr ⟨rfl, I⟩
theorem done2 {N r r2 : Int} {h : Hp} (hr : InR r) (e : r = r2) (I : Inv (N + 1) h) : RI (SameA N r) (some (vI r2)) h := by subst e; exact done hr I
section PA
variable {D : va_G} {ad : Nat → Nat} {ca : Nat → ClassId} {h : Hp} {N : Int}
theorem pa_rest {v1 : Int} (g1 : InR v1) (I : Inv N h) : WP D ad ca none M_MW_rest 0 [(0, .ref (ad 0)), (1, vI v1)] [] h (RI (fun r h1 => WP D ad ca none M_MO_rest 0 [(0, .ref (ad 28)), (1, vI v1)] [] h1 (RI (SameA N r)))) := by
  have A := I.1
  refine F_MW_rest_0 v1 g1 (sp_MW_isWithin g1 i1 (by omega) (fun c => rc1 ?_) (fun c => rc0 ?_))
  · refine RI_mk (by unfold IvA at A; omega) (F_MO_rest_0 v1 g1 (sp_MO_in g1 i1 (by omega) (fun _ => rc1 ?_) (fun c2 => absurd c c2)))
    refine done2 (by unfold IvA at A; omega) (by unfold IvA at A; exact A.2.2.2.2.2.2.1) ⟨?_, I.2.1, I.2.2.1, I.2.2.2.1, I.2.2.2.2.1.step, I.2.2.2.2.2⟩
    simp [IvA, up, upf] at A ⊢
    omega
  · refine RI_mk (by omega) (F_MO_rest_0 v1 g1 (sp_MO_in g1 i1 (by omega) (fun c2 => absurd c2 c) (fun _ => rc0 ?_)))
    exact done (by omega) I.step
theorem pa_hold {v1 v2 : Int} (g1 : InR v1) (g2 : InR v2) (I : Inv N h) : WP D ad ca none M_MW_hold 0 [(0, .ref (ad 0)), (1, vI v1), (2, vI v2)] [] h (RI (fun r h1 => WP D ad ca none M_MO_hold 0 [(0, .ref (ad 28)), (1, vI v1), (2, vI v2)] [] h1 (RI (SameA N r)))) := by
  have A := I.1
  refine F_MW_hold_0 v1 v2 g1 g2 (sp_MW_isLawLevel g1 (fun c1 => rb1 (sp_MW_isWithin g2 i1 (by omega) (fun c => rc1 ⟨by unfold IvA at A; omega, ?_⟩) (fun c => rc0 ?_))) (fun c1 => rb0 ?_))
  · refine RI_mk (by unfold IvA at A; omega) (F_MO_hold_0 v1 v2 g1 g2 (sp_MO_in g1 i1 (by omega) (fun _ => rb1 (sp_MO_in g2 i1 (by omega) (fun _ => rc1 ⟨?_, ?_⟩) (fun c2 => absurd c c2))) (fun c2 => absurd c1 c2)))
    · show InR (h 28 0 + v2)
      unfold IvA at A; omega
    · refine done2 (by unfold IvA at A; omega) ?_ ⟨?_, I.2.1, I.2.2.1, I.2.2.2.1, I.2.2.2.2.1.step, I.2.2.2.2.2⟩
      · show h 0 5 + v2 = h 28 0 + v2
        rw [A.1]
      · simp [IvA, up, upf] at A ⊢
        omega
  · refine RI_mk (by omega) (F_MO_hold_0 v1 v2 g1 g2 (sp_MO_in g1 i1 (by omega) (fun _ => rb1 (sp_MO_in g2 i1 (by omega) (fun c2 => absurd c2 c) (fun _ => rc0 ?_))) (fun c2 => absurd c1 c2)))
    exact done (by omega) I.step
  · refine RI_mk (by omega) (F_MO_hold_0 v1 v2 g1 g2 (sp_MO_in g1 i1 (by omega) (fun c2 => absurd c2 c1) (fun _ => rb0 ?_)))
    exact done (by omega) I.step
theorem held_eq {c : Hp} (A : IvA N (c 0 5) (c 0 6) (c 0 7) (c 0 8) (c 0 9) (c 0 10) (c 0 11) (h 28 0) (h 28 16) (h 28 17) (h 28 15) (h 28 18) (h 28 19) (h 28 24)) : (if c 0 5 < c 0 10 then c 0 9 else 0) = (if h 28 0 < h 28 19 then h 28 18 else 0) ∧ 0 ≤ (if c 0 5 < c 0 10 then c 0 9 else 0) ∧ (if c 0 5 < c 0 10 then c 0 9 else 0) ≤ 4 := by
  unfold IvA at A
  split <;> split <;> omega
theorem pa_release (I : Inv N h) : WP D ad ca none M_MW_release 0 [(0, .ref (ad 0))] [] h (RI (fun r h1 => WP D ad ca none M_MO_release 0 [(0, .ref (ad 28))] [] h1 (RI (SameA N r)))) := by
  have A := I.1
  obtain ⟨e1, e2, e3⟩ := held_eq A
  refine F_MW_release_0 (sp_MW_held (RI_mk (by omega) (RI_mk (by omega) (F_MO_release_0 (sp_MO_holdNow (RI_mk ?_ ?_))))))
  · show InR (if h 28 0 < h 28 19 then h 28 18 else 0)
    omega
  · refine done2 (by omega) ?_ ⟨?_, I.2.1, I.2.2.1, I.2.2.2.1, I.2.2.2.2.1.step, I.2.2.2.2.2⟩
    · show _ = (if h 28 0 < h 28 19 then h 28 18 else 0)
      exact e1
    · simp [IvA, up, upf] at A ⊢
      omega
theorem pa_gasOf {v1 : Int} (g1 : InR v1) (I : Inv N h) : WP D ad ca none M_MW_gasOf 0 [(0, .ref (ad 0)), (1, vI v1)] [] h (RI (fun r h1 => WP D ad ca none M_MO_gasOf 0 [(0, .ref (ad 28)), (1, vI v1)] [] h1 (RI (SameA N r)))) := by
  have A := I.1
  have R := I.2.2.1
  have e := A.1
  have bt := A.2.1
  refine F_MW_gasOf_0 v1 g1 (sp_MW_isDay g1 (by omega) (fun c => rb1 ⟨by omega, ?_⟩) (fun c => rb0 ?_))
  · obtain ⟨q1, q2⟩ := R.2.2 v1 (by omega) (by omega)
    refine RI_mk (by omega) (F_MO_gasOf_0 v1 g1 (sp_MO_isDay g1 (by omega) (fun _ => rb1 ⟨by omega, ?_⟩) (fun c2 => absurd (by omega) c2)))
    exact done2 (by omega) q1 I.step
  · refine RI_mk (by omega) (F_MO_gasOf_0 v1 g1 (sp_MO_isDay g1 (by omega) (fun c2 => absurd (by omega) c) (fun _ => rb0 ?_)))
    exact done (by omega) I.step
theorem pa_gas {v1 : Int} (g1 : InR v1) (I : Inv N h) : WP D ad ca none M_MW_gas 0 [(0, .ref (ad 0)), (1, vI v1)] [] h (RI (fun r h1 => WP D ad ca none M_MO_gas 0 [(0, .ref (ad 28)), (1, vI v1)] [] h1 (RI (SameA N r)))) := by
  have A := I.1
  have R := I.2.2.1
  have e := A.1
  have bt := A.2.1
  refine F_MW_gas_0 v1 g1 (sp_MW_isWithin g1 i0 (by omega) (fun c => rc1 ⟨by omega, ?_⟩) (fun c => rc0 ?_))
  · refine RI_mk i1 (F_MO_gas_0 v1 g1 (sp_MO_in g1 i0 (by omega) (fun _ => rc1 ⟨?_, ?_⟩) (fun c2 => absurd c c2)))
    · show 0 ≤ h 28 0 ∧ h 28 0 < 1000
      omega
    · refine done i1 ⟨A.step, I.2.1, ⟨R.1, R.2.1, fun d d0 d1 => ?_⟩, I.2.2.2.1, I.2.2.2.2.1.step, I.2.2.2.2.2⟩
      show upf (h 9) (h 0 5) v1 d = upf (h 34) (h 28 0) v1 d ∧ 0 ≤ upf (h 9) (h 0 5) v1 d ∧ upf (h 9) (h 0 5) v1 d ≤ 10000
      rw [e]
      have := R.2.2 d d0 d1
      unfold upf
      split <;> omega
  · refine RI_mk (by omega) (F_MO_gas_0 v1 g1 (sp_MO_in g1 i0 (by omega) (fun c2 => absurd c2 c) (fun _ => rc0 ?_)))
    exact done (by omega) I.step
theorem pa_law {v1 v2 v3 v4 : Int} (g1 : InR v1) (g2 : InR v2) (g3 : InR v3) (g4 : InR v4) (I : Inv N h) : WP D ad ca none M_MW_law 0 [(0, .ref (ad 0)), (1, vI v1), (2, vI v2), (3, vI v3), (4, vI v4)] [] h (RI (fun r h1 => WP D ad ca none M_MO_law 0 [(0, .ref (ad 28)), (1, vI v1), (2, vI v2), (3, vI v3), (4, vI v4)] [] h1 (RI (SameA N r)))) := by
  have L := I.2.2.2.1
  have e := L.1
  have bn := L.2.1
  refine F_MW_law_0 v1 v2 v3 v4 g1 g2 g3 g4 (sp_MW_isLawLevel g1 (fun c1 => rb1 (sp_MW_isWithin g2 i0 (by omega) (fun c2 => rb1 (sp_MW_isWithin g3 i1 (by omega) (fun c3 => rb1 (sp_MW_isWithin g4 i1 (by omega) (fun c4 => rc1 ⟨fun c5 => ?_, fun c5 => ?_⟩) (fun c4 => rc0 ?_))) (fun c3 => rb0 ?_))) (fun c2 => rb0 ?_))) (fun c1 => rb0 ?_))
  · refine F_LA_add_0 v1 v2 v3 v4 g1 g2 g3 g4 ⟨by omega, by omega, by omega, by omega, by omega, RI_mk (by omega) (RI_mk (by omega) ?_)⟩
    refine F_MO_law_0 v1 v2 v3 v4 g1 g2 g3 g4 (sp_MO_in g1 i1 (by omega) (fun _ => rb1 (sp_MO_in g2 i0 (by omega) (fun _ => rb1 (sp_MO_in g3 i1 (by omega) (fun _ => rb1 (sp_MO_in g4 i1 (by omega) (fun _ => rc1 ⟨fun c6 => ?_, fun c6 => ?_⟩) (fun z => absurd c4 z))) (fun z => absurd c3 z))) (fun z => absurd c2 z))) (fun z => absurd c1 z))
    · have c6 : ¬ h 28 10 = 8 := c6
      refine ⟨?_, ?_, ?_, ?_, ?_, done2 (by omega) ?_ ⟨I.1.step, I.2.1, I.2.2.1, ⟨?_, ?_, fun i h0 h1 => ?_⟩, I.2.2.2.2.1.step, I.2.2.2.2.2⟩⟩
      · show 0 ≤ h 28 10 ∧ h 28 10 < 8
        omega
      · show 0 ≤ h 28 10 ∧ h 28 10 < 8
        omega
      · show 0 ≤ h 28 10 ∧ h 28 10 < 8
        omega
      · show 0 ≤ h 28 10 ∧ h 28 10 < 8
        omega
      · show InR (h 28 10 + 1)
        omega
      · show h 10 4 = h 28 10 + 1 - 1
        omega
      · show h 10 4 + 1 = h 28 10 + 1
        omega
      · show 0 ≤ h 10 4 + 1 ∧ h 10 4 + 1 ≤ 8
        omega
      · have h1 : i < h 10 4 + 1 := h1
        show (upf (h 11) (h 10 4) v1 i = upf (h 35) (h 28 10) v1 i ∧ 1 ≤ upf (h 11) (h 10 4) v1 i ∧ upf (h 11) (h 10 4) v1 i ≤ 4) ∧ (upf (h 12) (h 10 4) v2 i = upf (h 36) (h 28 10) v2 i ∧ 0 ≤ upf (h 12) (h 10 4) v2 i ∧ upf (h 12) (h 10 4) v2 i ≤ 6) ∧ (upf (h 13) (h 10 4) v3 i = upf (h 37) (h 28 10) v3 i ∧ 1 ≤ upf (h 13) (h 10 4) v3 i ∧ upf (h 13) (h 10 4) v3 i ≤ 10000) ∧ (upf (h 14) (h 10 4) v4 i = upf (h 38) (h 28 10) v4 i ∧ 1 ≤ upf (h 14) (h 10 4) v4 i ∧ upf (h 14) (h 10 4) v4 i ≤ 30)
        rw [e]
        unfold upf
        by_cases q : i = h 28 10
        · simp only [if_pos q, true_and]
          omega
        · simp only [if_neg q]
          exact L.2.2 i h0 (by omega)
    · have c6 : h 28 10 = 8 := c6
      omega
  · refine RI_mk (by omega) (F_MO_law_0 v1 v2 v3 v4 g1 g2 g3 g4 (sp_MO_in g1 i1 (by omega) (fun _ => rb1 (sp_MO_in g2 i0 (by omega) (fun _ => rb1 (sp_MO_in g3 i1 (by omega) (fun _ => rb1 (sp_MO_in g4 i1 (by omega) (fun _ => rc1 ⟨fun c6 => absurd (by omega) c6, fun c6 => done (by omega) I.step⟩) (fun z => absurd c4 z))) (fun z => absurd c3 z))) (fun z => absurd c2 z))) (fun z => absurd c1 z)))
  · refine RI_mk (by omega) (F_MO_law_0 v1 v2 v3 v4 g1 g2 g3 g4 (sp_MO_in g1 i1 (by omega) (fun _ => rb1 (sp_MO_in g2 i0 (by omega) (fun _ => rb1 (sp_MO_in g3 i1 (by omega) (fun _ => rb1 (sp_MO_in g4 i1 (by omega) (fun z => absurd z c4) (fun z => rc0 (done (by omega) I.step)))) (fun z => absurd c3 z))) (fun z => absurd c2 z))) (fun z => absurd c1 z)))
  · refine RI_mk (by omega) (F_MO_law_0 v1 v2 v3 v4 g1 g2 g3 g4 (sp_MO_in g1 i1 (by omega) (fun _ => rb1 (sp_MO_in g2 i0 (by omega) (fun _ => rb1 (sp_MO_in g3 i1 (by omega) (fun z => absurd z c3) (fun z => rb0 (done (by omega) I.step)))) (fun z => absurd c2 z))) (fun z => absurd c1 z)))
  · refine RI_mk (by omega) (F_MO_law_0 v1 v2 v3 v4 g1 g2 g3 g4 (sp_MO_in g1 i1 (by omega) (fun _ => rb1 (sp_MO_in g2 i0 (by omega) (fun z => absurd z c2) (fun z => rb0 (done (by omega) I.step)))) (fun z => absurd c1 z)))
  · refine RI_mk (by omega) (F_MO_law_0 v1 v2 v3 v4 g1 g2 g3 g4 (sp_MO_in g1 i1 (by omega) (fun z => absurd z c1) (fun z => rb0 (done (by omega) I.step))))
theorem pa_change {v1 v2 v3 : Int} (g1 : InR v1) (g2 : InR v2) (g3 : InR v3) (I : Inv N h) : WP D ad ca none M_MW_change 0 [(0, .ref (ad 0)), (1, vI v1), (2, vI v2), (3, vI v3)] [] h (RI (fun r h1 => WP D ad ca none M_MO_change 0 [(0, .ref (ad 28)), (1, vI v1), (2, vI v2), (3, vI v3)] [] h1 (RI (SameA N r)))) := by
  have L := I.2.2.2.1
  have e := L.1
  have bn := L.2.1
  refine F_MW_change_0 v1 v2 v3 g1 g2 g3 (sp_LA_has g1 (fun c1 => rc1 (sp_MW_isLawLevel g2 (fun c2 => rb1 (sp_MW_isWithin g3 i1 (by omega) (fun c3 => rc1 ⟨by omega, by omega, RI_mk i1 ?_⟩) (fun c3 => rc0 (RI_mk (by omega) ?_)))) (fun c2 => rb0 (RI_mk (by omega) ?_)))) (fun c1 => rc0 (RI_mk (by omega) ?_)))
  · refine F_MO_change_0 v1 v2 v3 g1 g2 g3 (sp_MO_isLaw g1 ?_ (fun _ => rc1 (sp_MO_in g2 i1 (by omega) (fun _ => rb1 (sp_MO_in g3 i1 (by omega) (fun _ => rc1 ⟨by omega, by omega, done i1 ⟨I.1.step, I.2.1, I.2.2.1, ⟨e, bn, fun i h0 h1 => ?_⟩, I.2.2.2.2.1.step, I.2.2.2.2.2⟩⟩) (fun z => absurd c3 z))) (fun z => absurd c2 z))) (fun z => absurd ?_ z))
    · show 0 ≤ h 28 10 ∧ h 28 10 ≤ 8
      omega
    · show (upf (h 11) v1 v2 i = upf (h 35) v1 v2 i ∧ 1 ≤ upf (h 11) v1 v2 i ∧ upf (h 11) v1 v2 i ≤ 4) ∧ (h 12 i = h 36 i ∧ 0 ≤ h 12 i ∧ h 12 i ≤ 6) ∧ (upf (h 13) v1 v3 i = upf (h 37) v1 v3 i ∧ 1 ≤ upf (h 13) v1 v3 i ∧ upf (h 13) v1 v3 i ≤ 10000) ∧ (h 14 i = h 38 i ∧ 1 ≤ h 14 i ∧ h 14 i ≤ 30)
      have q := L.2.2 i h0 h1
      unfold upf
      by_cases qi : i = v1
      · simp only [if_pos qi, true_and]
        omega
      · simp only [if_neg qi]
        exact q
    · show 0 ≤ v1 ∧ v1 < h 28 10
      omega
  · exact F_MO_change_0 v1 v2 v3 g1 g2 g3 (sp_MO_isLaw g1 (by omega) (fun _ => rc1 (sp_MO_in g2 i1 (by omega) (fun _ => rb1 (sp_MO_in g3 i1 (by omega) (fun z => absurd z c3) (fun _ => rc0 (done (by omega) I.step)))) (fun z => absurd c2 z))) (fun z => absurd (by omega) z))
  · exact F_MO_change_0 v1 v2 v3 g1 g2 g3 (sp_MO_isLaw g1 (by omega) (fun _ => rc1 (sp_MO_in g2 i1 (by omega) (fun z => absurd z c2) (fun _ => rb0 (done (by omega) I.step)))) (fun z => absurd (by omega) z))
  · exact F_MO_change_0 v1 v2 v3 g1 g2 g3 (sp_MO_isLaw g1 (by omega) (fun z => absurd (by omega) c1) (fun _ => rc0 (done (by omega) I.step)))
end PA
