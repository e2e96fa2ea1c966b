/-! tilts -/
def TDn (ht : Int → Int) : Nat → Int
  | 0 => if ht 0 = 0 then -1 else 0
  | d + 1 => if ht ((d + 1 : Nat) : Int) = 0 then TDn ht d else ((d + 1 : Nat) : Int)
theorem TDn_bd (ht : Int → Int) : ∀ d : Nat, -1 ≤ TDn ht d ∧ TDn ht d ≤ d
  | 0 => by unfold TDn; split <;> omega
  | d + 1 => by
    have := TDn_bd ht d
    unfold TDn; split <;> omega
theorem TAn_TDn (ht tv : Int → Int) : ∀ d : Nat, TAn ht tv d = if TDn ht d < 0 then -1000005 else tv (TDn ht d)
  | 0 => by unfold TAn TDn; split <;> simp
  | d + 1 => by
    unfold TAn TDn
    split
    · exact TAn_TDn ht tv d
    · rw [if_neg (by omega)]
theorem TAn_congr {ht tv ht' tv' : Int → Int} : ∀ d : Nat, (∀ j : Int, 0 ≤ j → j ≤ d → ht j = ht' j ∧ tv j = tv' j) → TAn ht tv d = TAn ht' tv' d
  | 0, h => by
    have := h 0 (by omega) (by omega)
    unfold TAn
    rw [this.1, this.2]
  | d + 1, h => by
    have := h ((d + 1 : Nat) : Int) (by omega) (by omega)
    unfold TAn
    rw [this.1, this.2, TAn_congr d (fun j h1 h2 => h j h1 (by omega))]
section TI
variable {D : va_G} {ad : Nat → Nat} {ca : Nat → ClassId} {sc : SC} {h : Hp} {Q : Option Value → Hp → Prop} {N : Int}
theorem sp_tiltDay_loop : ∀ d : Nat, d < 1000 → Q (some (vI (TDn (h 32) d))) h → WP D ad ca sc M_MO_tiltDay 2 [(0, .ref (ad 28)), (2, vI (d : Int))] [] h Q
  | 0, hd, k => by
    refine F_MO_tiltDay_2 _ (by omega) ⟨fun c => absurd c (by omega), fun c => ⟨by omega, fun c => ?_, fun c => ?_⟩⟩
    · have c : ¬ h 32 0 = 0 := c
      unfold TDn at k
      rw [if_neg c] at k
      exact k
    · have c : h 32 0 = 0 := c
      unfold TDn at k
      rw [if_pos c] at k
      refine F_MO_tiltDay_2 _ (by omega) ⟨fun c => ?_, fun c => absurd c (by omega)⟩
      exact k
  | d + 1, hd, k => by
    refine F_MO_tiltDay_2 _ (by omega) ⟨fun c => absurd c (by omega), fun c => ⟨by omega, fun c => ?_, fun c => ?_⟩⟩
    · unfold TDn at k
      rw [if_neg c] at k
      exact k
    · unfold TDn at k
      rw [if_pos c] at k
      have e : ((d + 1 : Nat) : Int) + -1 = (d : Int) := by omega
      rw [e]
      exact sp_tiltDay_loop d (by omega) k
theorem sp_tiltDay {v1 : Int} (h0 : 0 ≤ v1) (h1 : v1 < 1000) (k : Q (some (vI (TDn (h 32) v1.toNat))) h) : WP D ad ca sc M_MO_tiltDay 0 [(0, .ref (ad 28)), (1, vI v1)] [] h Q := by
  refine F_MO_tiltDay_0 v1 (by omega) ?_
  have e : ((v1.toNat : Nat) : Int) = v1 := Int.toNat_of_nonneg h0
  have := sp_tiltDay_loop (D := D) (ad := ad) (ca := ca) (sc := sc) (h := h) (Q := Q) v1.toNat (by omega) k
  rw [e] at this
  exact this
theorem pa_tiltAt {v1 : Int} (g1 : InR v1) (I : Inv N h) : WP D ad ca none M_MW_tiltAt 0 [(0, .ref (ad 0)), (1, vI v1)] [] h (RI (fun r h1 => WP D ad ca none M_MO_tiltAt 0 [(0, .ref (ad 28)), (1, vI v1)] [] h1 (RI (SameA N r)))) := by
  have A := I.1
  have R := I.2.2.1
  have e := A.1
  have bt := A.2.1
  refine F_MW_tiltAt_0 v1 g1 (sp_MW_isDay g1 (by omega) (fun c => rb1 ⟨by omega, ?_⟩) (fun c => rb0 (RI_mk (by omega) ?_)))
  · have q := R.1 v1 (by omega) (by omega)
    rw [TAn_TDn] at q
    have b := TDn_bd (h 32) v1.toNat
    have b2 : InR (h 8 v1) := by
      rw [q]
      split
      · omega
      · have := (R.2.1 (TDn (h 32) v1.toNat) (by omega) (by omega)).2.2
        omega
    refine RI_mk b2 (F_MO_tiltAt_0 v1 g1 (sp_MO_isDay g1 (by omega) (fun _ => rc1 (sp_tiltDay (by omega) (by omega) (RI_mk (by omega) ⟨fun c2 => ⟨by omega, ?_⟩, fun c2 => ?_⟩))) (fun c2 => absurd (by omega) c2)))
    · rw [if_neg (by omega)] at q
      exact done2 b2 q I.step
    · rw [if_pos c2] at q
      exact done2 b2 q I.step
  · exact F_MO_tiltAt_0 v1 g1 (sp_MO_isDay g1 (by omega) (fun c2 => absurd (by omega) c) (fun _ => rc0 (done (by omega) I.step)))
theorem pa_tilt {v1 : Int} (g1 : InR v1) (I : Inv N h) : WP D ad ca none M_MW_tilt 0 [(0, .ref (ad 0)), (1, vI v1)] [] h (RI (fun r h1 => WP D ad ca none M_MO_tilt 0 [(0, .ref (ad 28)), (1, vI v1)] [] h1 (RI (SameA N r)))) := by
  have A := I.1
  have R := I.2.2.1
  have e := A.1
  have bt := A.2.1
  refine F_MW_tilt_0 v1 g1 (sp_MW_isWithin g1 (by omega) (by omega) (fun c => rc1 ⟨by omega, RI_mk i1 ?_⟩) (fun c => rc0 (RI_mk (by omega) ?_)))
  · refine F_MO_tilt_0 v1 g1 (sp_MO_in g1 (by omega) (by omega) (fun _ => rc1 ⟨?_, ?_, ?_⟩) (fun c2 => absurd c c2))
    · show 0 ≤ h 28 0 ∧ h 28 0 < 1000
      omega
    · show 0 ≤ h 28 0 ∧ h 28 0 < 1000
      omega
    · refine done i1 ⟨A.step, I.2.1, ⟨fun d d0 d1 => ?_, fun d d0 d1 => ?_, R.2.2⟩, I.2.2.2.1, I.2.2.2.2.1.step, I.2.2.2.2.2⟩
      · have d1 : d ≤ h 0 5 := d1
        show upf (h 8) (h 0 5) v1 d = TAn (upf (h 32) (h 28 0) 1) (upf (h 33) (h 28 0) v1) d.toNat
        rw [← e]
        by_cases q : d = h 0 5
        · rw [q, upf_same]
          have e2 : ∃ k : Nat, (k : Int) = h 0 5 := ⟨(h 0 5).toNat, Int.toNat_of_nonneg bt.1⟩
          obtain ⟨k, ek⟩ := e2
          rw [← ek]
          cases k with
          | zero => simp [TAn, upf]
          | succ k => simp [TAn, upf]
        · rw [upf_ne _ _ q, R.1 d d0 d1]
          refine TAn_congr _ (fun j j0 j1 => ?_)
          have nj : ¬ j = h 0 5 := by omega
          rw [upf_ne _ _ nj, upf_ne _ _ nj]
          exact ⟨rfl, rfl⟩
      · show (upf (h 32) (h 28 0) 1 d = 0 ∨ upf (h 32) (h 28 0) 1 d = 1) ∧ (h 0 5 < d → upf (h 32) (h 28 0) 1 d = 0) ∧ -10000 ≤ upf (h 33) (h 28 0) v1 d ∧ upf (h 33) (h 28 0) v1 d ≤ 10000
        rw [← e]
        have q := R.2.1 d d0 d1
        unfold upf
        split
        · omega
        · exact q
  · exact F_MO_tilt_0 v1 g1 (sp_MO_in g1 (by omega) (by omega) (fun c2 => absurd c2 c) (fun _ => rc0 (done (by omega) I.step)))
end TI
