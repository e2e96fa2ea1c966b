section SFL
variable {D : va_G} {ad : Nat → Nat} {ca : Nat → ClassId} {sc : SC} {h : Hp} {Q : Option Value → Hp → Prop}
theorem F_LW_law_18 {b L : Nat} {xs : Nat → Int32} (hsc : sc = some (b, L, xs)) (hL : L ≤ 100000) (rL : InR (L : Int)) (v3 : Int) (g3 : InR v3) (hF : (InR ((L : Int) - 5)) ∧ ((((L : Int) - 5) < v3 → Q (some (vI 1)) h) ∧ (v3 ≤ ((L : Int) - 5) → (0 ≤ v3 ∧ v3 < (L : Int)) ∧ ((((Int32.ofInt ((xs v3.toNat).toInt) &&& Int32.ofInt 31).toInt) = 0 → WP D ad ca sc M_LW_law 160 [(0, .ref b), (1, .ref (ad 0)), (2, .ref (ad 28)), (3, vI v3)] [] h Q) ∧ (((Int32.ofInt ((xs v3.toNat).toInt) &&& Int32.ofInt 31).toInt) = 1 → WP D ad ca sc M_LW_law 213 [(0, .ref b), (1, .ref (ad 0)), (2, .ref (ad 28)), (3, vI v3)] [] h Q) ∧ (((Int32.ofInt ((xs v3.toNat).toInt) &&& Int32.ofInt 31).toInt) = 2 → WP D ad ca sc M_LW_law 246 [(0, .ref b), (1, .ref (ad 0)), (2, .ref (ad 28)), (3, vI v3)] [] h Q) ∧ (((Int32.ofInt ((xs v3.toNat).toInt) &&& Int32.ofInt 31).toInt) = 3 → WP D ad ca sc M_LW_law 279 [(0, .ref b), (1, .ref (ad 0)), (2, .ref (ad 28)), (3, vI v3)] [] h Q) ∧ (((Int32.ofInt ((xs v3.toNat).toInt) &&& Int32.ofInt 31).toInt) = 4 → WP D ad ca sc M_LW_law 302 [(0, .ref b), (1, .ref (ad 0)), (2, .ref (ad 28)), (3, vI v3)] [] h Q) ∧ (((Int32.ofInt ((xs v3.toNat).toInt) &&& Int32.ofInt 31).toInt) = 5 → WP D ad ca sc M_LW_law 325 [(0, .ref b), (1, .ref (ad 0)), (2, .ref (ad 28)), (3, vI v3)] [] h Q) ∧ (((Int32.ofInt ((xs v3.toNat).toInt) &&& Int32.ofInt 31).toInt) = 6 → WP D ad ca sc M_LW_law 348 [(0, .ref b), (1, .ref (ad 0)), (2, .ref (ad 28)), (3, vI v3)] [] h Q) ∧ (((Int32.ofInt ((xs v3.toNat).toInt) &&& Int32.ofInt 31).toInt) = 7 → WP D ad ca sc M_LW_law 371 [(0, .ref b), (1, .ref (ad 0)), (2, .ref (ad 28)), (3, vI v3)] [] h Q) ∧ (((Int32.ofInt ((xs v3.toNat).toInt) &&& Int32.ofInt 31).toInt) = 8 → WP D ad ca sc M_LW_law 394 [(0, .ref b), (1, .ref (ad 0)), (2, .ref (ad 28)), (3, vI v3)] [] h Q) ∧ (((Int32.ofInt ((xs v3.toNat).toInt) &&& Int32.ofInt 31).toInt) = 9 → WP D ad ca sc M_LW_law 417 [(0, .ref b), (1, .ref (ad 0)), (2, .ref (ad 28)), (3, vI v3)] [] h Q) ∧ (((Int32.ofInt ((xs v3.toNat).toInt) &&& Int32.ofInt 31).toInt) = 10 → WP D ad ca sc M_LW_law 440 [(0, .ref b), (1, .ref (ad 0)), (2, .ref (ad 28)), (3, vI v3)] [] h Q) ∧ (((Int32.ofInt ((xs v3.toNat).toInt) &&& Int32.ofInt 31).toInt) = 11 → WP D ad ca sc M_LW_law 493 [(0, .ref b), (1, .ref (ad 0)), (2, .ref (ad 28)), (3, vI v3)] [] h Q) ∧ (((Int32.ofInt ((xs v3.toNat).toInt) &&& Int32.ofInt 31).toInt) = 12 → WP D ad ca sc M_LW_law 536 [(0, .ref b), (1, .ref (ad 0)), (2, .ref (ad 28)), (3, vI v3)] [] h Q) ∧ (((Int32.ofInt ((xs v3.toNat).toInt) &&& Int32.ofInt 31).toInt) = 13 → WP D ad ca sc M_LW_law 569 [(0, .ref b), (1, .ref (ad 0)), (2, .ref (ad 28)), (3, vI v3)] [] h Q) ∧ (((Int32.ofInt ((xs v3.toNat).toInt) &&& Int32.ofInt 31).toInt) = 14 → WP D ad ca sc M_LW_law 602 [(0, .ref b), (1, .ref (ad 0)), (2, .ref (ad 28)), (3, vI v3)] [] h Q) ∧ (((Int32.ofInt ((xs v3.toNat).toInt) &&& Int32.ofInt 31).toInt) = 15 → WP D ad ca sc M_LW_law 625 [(0, .ref b), (1, .ref (ad 0)), (2, .ref (ad 28)), (3, vI v3)] [] h Q) ∧ (((Int32.ofInt ((xs v3.toNat).toInt) &&& Int32.ofInt 31).toInt) = 16 → WP D ad ca sc M_LW_law 638 [(0, .ref b), (1, .ref (ad 0)), (2, .ref (ad 28)), (3, vI v3)] [] h Q) ∧ (((Int32.ofInt ((xs v3.toNat).toInt) &&& Int32.ofInt 31).toInt) = 17 → WP D ad ca sc M_LW_law 671 [(0, .ref b), (1, .ref (ad 0)), (2, .ref (ad 28)), (3, vI v3)] [] h Q) ∧ (((Int32.ofInt ((xs v3.toNat).toInt) &&& Int32.ofInt 31).toInt) = 18 → WP D ad ca sc M_LW_law 684 [(0, .ref b), (1, .ref (ad 0)), (2, .ref (ad 28)), (3, vI v3)] [] h Q) ∧ (((Int32.ofInt ((xs v3.toNat).toInt) &&& Int32.ofInt 31).toInt) = 19 → WP D ad ca sc M_LW_law 707 [(0, .ref b), (1, .ref (ad 0)), (2, .ref (ad 28)), (3, vI v3)] [] h Q) ∧ (((Int32.ofInt ((xs v3.toNat).toInt) &&& Int32.ofInt 31).toInt) = 20 → WP D ad ca sc M_LW_law 730 [(0, .ref b), (1, .ref (ad 0)), (2, .ref (ad 28)), (3, vI v3)] [] h Q) ∧ (((Int32.ofInt ((xs v3.toNat).toInt) &&& Int32.ofInt 31).toInt) = 21 → WP D ad ca sc M_LW_law 789 [(0, .ref b), (1, .ref (ad 0)), (2, .ref (ad 28)), (3, vI v3)] [] h Q) ∧ (((Int32.ofInt ((xs v3.toNat).toInt) &&& Int32.ofInt 31).toInt) = 22 → WP D ad ca sc M_LW_law 812 [(0, .ref b), (1, .ref (ad 0)), (2, .ref (ad 28)), (3, vI v3)] [] h Q) ∧ (((Int32.ofInt ((xs v3.toNat).toInt) &&& Int32.ofInt 31).toInt) = 23 → WP D ad ca sc M_LW_law 855 [(0, .ref b), (1, .ref (ad 0)), (2, .ref (ad 28)), (3, vI v3)] [] h Q) ∧ (((Int32.ofInt ((xs v3.toNat).toInt) &&& Int32.ofInt 31).toInt) = 24 → WP D ad ca sc M_LW_law 898 [(0, .ref b), (1, .ref (ad 0)), (2, .ref (ad 28)), (3, vI v3)] [] h Q) ∧ (((Int32.ofInt ((xs v3.toNat).toInt) &&& Int32.ofInt 31).toInt) = 25 → WP D ad ca sc M_LW_law 947 [(0, .ref b), (1, .ref (ad 0)), (2, .ref (ad 28)), (3, vI v3)] [] h Q) ∧ (((Int32.ofInt ((xs v3.toNat).toInt) &&& Int32.ofInt 31).toInt) = 26 → WP D ad ca sc M_LW_law 960 [(0, .ref b), (1, .ref (ad 0)), (2, .ref (ad 28)), (3, vI v3)] [] h Q) ∧ (((Int32.ofInt ((xs v3.toNat).toInt) &&& Int32.ofInt 31).toInt) = 27 → WP D ad ca sc M_LW_law 993 [(0, .ref b), (1, .ref (ad 0)), (2, .ref (ad 28)), (3, vI v3)] [] h Q) ∧ (((Int32.ofInt ((xs v3.toNat).toInt) &&& Int32.ofInt 31).toInt) < 0 ∨ 27 < ((Int32.ofInt ((xs v3.toNat).toInt) &&& Int32.ofInt 31).toInt) → WP D ad ca sc M_LW_law 1026 [(0, .ref b), (1, .ref (ad 0)), (2, .ref (ad 28)), (3, vI v3)] [] h Q))))) : WP D ad ca sc M_LW_law 18 [(0, .ref b), (1, .ref (ad 0)), (2, .ref (ad 28)), (3, vI v3)] [] h Q := by
  refine P_iload_n 3 d_LW_law_18 rfl rfl ?_
  refine P_aload_n 0 d_LW_law_19 rfl rfl ?_
  refine P_slen hsc d_LW_law_20 ?_
  refine P_iconst d_LW_law_21 ?_
  refine P_isub d_LW_law_22 ?_
  obtain ⟨b1, hF⟩ := hF
  refine P_icmp_gt 1032 d_LW_law_23 (by decide) g3 b1 (fun c => ?_) (fun c => ?_)
  · have hF := hF.1 c
    refine P_iconst d_LW_law_1032 ?_
    exact P_zret d_LW_law_1033 rfl (Or.inr rfl) hF
  · have hF := hF.2 (Int.not_lt.mp c)
    refine P_aload_n 0 d_LW_law_26 rfl rfl ?_
    refine P_iload_n 3 d_LW_law_27 rfl rfl ?_
    obtain ⟨b2, hF⟩ := hF
    refine P_sld hsc hL d_LW_law_28 b2 ?_
    refine P_bipush d_LW_law_29 (by decide) ?_
    refine P_iand d_LW_law_31 ?_
    by_cases c0 : ((Int32.ofInt ((xs v3.toNat).toInt) &&& Int32.ofInt 31).toInt) = 0
    · have hF := hF.1 c0
      refine P_tabIn 160 0 d_LW_law_32 c0 ⟨by decide, by decide⟩ (by decide) (by decide) rfl (by decide) ?_
      refine P_sub (lv' := [(0, .ref b), (1, .ref (ad 0)), (2, .ref (ad 28)), (3, vI v3)]) [0, 1, 2, 3] rfl ?_
      exact hF
    by_cases c1 : ((Int32.ofInt ((xs v3.toNat).toInt) &&& Int32.ofInt 31).toInt) = 1
    · have hF := hF.2.1 c1
      refine P_tabIn 213 1 d_LW_law_32 c1 ⟨by decide, by decide⟩ (by decide) (by decide) rfl (by decide) ?_
      refine P_sub (lv' := [(0, .ref b), (1, .ref (ad 0)), (2, .ref (ad 28)), (3, vI v3)]) [0, 1, 2, 3] rfl ?_
      exact hF
    by_cases c2 : ((Int32.ofInt ((xs v3.toNat).toInt) &&& Int32.ofInt 31).toInt) = 2
    · have hF := hF.2.2.1 c2
      refine P_tabIn 246 2 d_LW_law_32 c2 ⟨by decide, by decide⟩ (by decide) (by decide) rfl (by decide) ?_
      refine P_sub (lv' := [(0, .ref b), (1, .ref (ad 0)), (2, .ref (ad 28)), (3, vI v3)]) [0, 1, 2, 3] rfl ?_
      exact hF
    by_cases c3 : ((Int32.ofInt ((xs v3.toNat).toInt) &&& Int32.ofInt 31).toInt) = 3
    · have hF := hF.2.2.2.1 c3
      refine P_tabIn 279 3 d_LW_law_32 c3 ⟨by decide, by decide⟩ (by decide) (by decide) rfl (by decide) ?_
      refine P_sub (lv' := [(0, .ref b), (1, .ref (ad 0)), (2, .ref (ad 28)), (3, vI v3)]) [0, 1, 2, 3] rfl ?_
      exact hF
    by_cases c4 : ((Int32.ofInt ((xs v3.toNat).toInt) &&& Int32.ofInt 31).toInt) = 4
    · have hF := hF.2.2.2.2.1 c4
      refine P_tabIn 302 4 d_LW_law_32 c4 ⟨by decide, by decide⟩ (by decide) (by decide) rfl (by decide) ?_
      refine P_sub (lv' := [(0, .ref b), (1, .ref (ad 0)), (2, .ref (ad 28)), (3, vI v3)]) [0, 1, 2, 3] rfl ?_
      exact hF
    by_cases c5 : ((Int32.ofInt ((xs v3.toNat).toInt) &&& Int32.ofInt 31).toInt) = 5
    · have hF := hF.2.2.2.2.2.1 c5
      refine P_tabIn 325 5 d_LW_law_32 c5 ⟨by decide, by decide⟩ (by decide) (by decide) rfl (by decide) ?_
      refine P_sub (lv' := [(0, .ref b), (1, .ref (ad 0)), (2, .ref (ad 28)), (3, vI v3)]) [0, 1, 2, 3] rfl ?_
      exact hF
    by_cases c6 : ((Int32.ofInt ((xs v3.toNat).toInt) &&& Int32.ofInt 31).toInt) = 6
    · have hF := hF.2.2.2.2.2.2.1 c6
      refine P_tabIn 348 6 d_LW_law_32 c6 ⟨by decide, by decide⟩ (by decide) (by decide) rfl (by decide) ?_
      refine P_sub (lv' := [(0, .ref b), (1, .ref (ad 0)), (2, .ref (ad 28)), (3, vI v3)]) [0, 1, 2, 3] rfl ?_
      exact hF
    by_cases c7 : ((Int32.ofInt ((xs v3.toNat).toInt) &&& Int32.ofInt 31).toInt) = 7
    · have hF := hF.2.2.2.2.2.2.2.1 c7
      refine P_tabIn 371 7 d_LW_law_32 c7 ⟨by decide, by decide⟩ (by decide) (by decide) rfl (by decide) ?_
      refine P_sub (lv' := [(0, .ref b), (1, .ref (ad 0)), (2, .ref (ad 28)), (3, vI v3)]) [0, 1, 2, 3] rfl ?_
      exact hF
    by_cases c8 : ((Int32.ofInt ((xs v3.toNat).toInt) &&& Int32.ofInt 31).toInt) = 8
    · have hF := hF.2.2.2.2.2.2.2.2.1 c8
      refine P_tabIn 394 8 d_LW_law_32 c8 ⟨by decide, by decide⟩ (by decide) (by decide) rfl (by decide) ?_
      refine P_sub (lv' := [(0, .ref b), (1, .ref (ad 0)), (2, .ref (ad 28)), (3, vI v3)]) [0, 1, 2, 3] rfl ?_
      exact hF
    by_cases c9 : ((Int32.ofInt ((xs v3.toNat).toInt) &&& Int32.ofInt 31).toInt) = 9
    · have hF := hF.2.2.2.2.2.2.2.2.2.1 c9
      refine P_tabIn 417 9 d_LW_law_32 c9 ⟨by decide, by decide⟩ (by decide) (by decide) rfl (by decide) ?_
      refine P_sub (lv' := [(0, .ref b), (1, .ref (ad 0)), (2, .ref (ad 28)), (3, vI v3)]) [0, 1, 2, 3] rfl ?_
      exact hF
    by_cases c10 : ((Int32.ofInt ((xs v3.toNat).toInt) &&& Int32.ofInt 31).toInt) = 10
    · have hF := hF.2.2.2.2.2.2.2.2.2.2.1 c10
      refine P_tabIn 440 10 d_LW_law_32 c10 ⟨by decide, by decide⟩ (by decide) (by decide) rfl (by decide) ?_
      refine P_sub (lv' := [(0, .ref b), (1, .ref (ad 0)), (2, .ref (ad 28)), (3, vI v3)]) [0, 1, 2, 3] rfl ?_
      exact hF
    by_cases c11 : ((Int32.ofInt ((xs v3.toNat).toInt) &&& Int32.ofInt 31).toInt) = 11
    · have hF := hF.2.2.2.2.2.2.2.2.2.2.2.1 c11
      refine P_tabIn 493 11 d_LW_law_32 c11 ⟨by decide, by decide⟩ (by decide) (by decide) rfl (by decide) ?_
      refine P_sub (lv' := [(0, .ref b), (1, .ref (ad 0)), (2, .ref (ad 28)), (3, vI v3)]) [0, 1, 2, 3] rfl ?_
      exact hF
    by_cases c12 : ((Int32.ofInt ((xs v3.toNat).toInt) &&& Int32.ofInt 31).toInt) = 12
    · have hF := hF.2.2.2.2.2.2.2.2.2.2.2.2.1 c12
      refine P_tabIn 536 12 d_LW_law_32 c12 ⟨by decide, by decide⟩ (by decide) (by decide) rfl (by decide) ?_
      refine P_sub (lv' := [(0, .ref b), (1, .ref (ad 0)), (2, .ref (ad 28)), (3, vI v3)]) [0, 1, 2, 3] rfl ?_
      exact hF
    by_cases c13 : ((Int32.ofInt ((xs v3.toNat).toInt) &&& Int32.ofInt 31).toInt) = 13
    · have hF := hF.2.2.2.2.2.2.2.2.2.2.2.2.2.1 c13
      refine P_tabIn 569 13 d_LW_law_32 c13 ⟨by decide, by decide⟩ (by decide) (by decide) rfl (by decide) ?_
      refine P_sub (lv' := [(0, .ref b), (1, .ref (ad 0)), (2, .ref (ad 28)), (3, vI v3)]) [0, 1, 2, 3] rfl ?_
      exact hF
    by_cases c14 : ((Int32.ofInt ((xs v3.toNat).toInt) &&& Int32.ofInt 31).toInt) = 14
    · have hF := hF.2.2.2.2.2.2.2.2.2.2.2.2.2.2.1 c14
      refine P_tabIn 602 14 d_LW_law_32 c14 ⟨by decide, by decide⟩ (by decide) (by decide) rfl (by decide) ?_
      refine P_sub (lv' := [(0, .ref b), (1, .ref (ad 0)), (2, .ref (ad 28)), (3, vI v3)]) [0, 1, 2, 3] rfl ?_
      exact hF
    by_cases c15 : ((Int32.ofInt ((xs v3.toNat).toInt) &&& Int32.ofInt 31).toInt) = 15
    · have hF := hF.2.2.2.2.2.2.2.2.2.2.2.2.2.2.2.1 c15
      refine P_tabIn 625 15 d_LW_law_32 c15 ⟨by decide, by decide⟩ (by decide) (by decide) rfl (by decide) ?_
      refine P_sub (lv' := [(0, .ref b), (1, .ref (ad 0)), (2, .ref (ad 28)), (3, vI v3)]) [0, 1, 2, 3] rfl ?_
      exact hF
    by_cases c16 : ((Int32.ofInt ((xs v3.toNat).toInt) &&& Int32.ofInt 31).toInt) = 16
    · have hF := hF.2.2.2.2.2.2.2.2.2.2.2.2.2.2.2.2.1 c16
      refine P_tabIn 638 16 d_LW_law_32 c16 ⟨by decide, by decide⟩ (by decide) (by decide) rfl (by decide) ?_
      refine P_sub (lv' := [(0, .ref b), (1, .ref (ad 0)), (2, .ref (ad 28)), (3, vI v3)]) [0, 1, 2, 3] rfl ?_
      exact hF
    by_cases c17 : ((Int32.ofInt ((xs v3.toNat).toInt) &&& Int32.ofInt 31).toInt) = 17
    · have hF := hF.2.2.2.2.2.2.2.2.2.2.2.2.2.2.2.2.2.1 c17
      refine P_tabIn 671 17 d_LW_law_32 c17 ⟨by decide, by decide⟩ (by decide) (by decide) rfl (by decide) ?_
      refine P_sub (lv' := [(0, .ref b), (1, .ref (ad 0)), (2, .ref (ad 28)), (3, vI v3)]) [0, 1, 2, 3] rfl ?_
      exact hF
    by_cases c18 : ((Int32.ofInt ((xs v3.toNat).toInt) &&& Int32.ofInt 31).toInt) = 18
    · have hF := hF.2.2.2.2.2.2.2.2.2.2.2.2.2.2.2.2.2.2.1 c18
      refine P_tabIn 684 18 d_LW_law_32 c18 ⟨by decide, by decide⟩ (by decide) (by decide) rfl (by decide) ?_
      refine P_sub (lv' := [(0, .ref b), (1, .ref (ad 0)), (2, .ref (ad 28)), (3, vI v3)]) [0, 1, 2, 3] rfl ?_
      exact hF
    by_cases c19 : ((Int32.ofInt ((xs v3.toNat).toInt) &&& Int32.ofInt 31).toInt) = 19
    · have hF := hF.2.2.2.2.2.2.2.2.2.2.2.2.2.2.2.2.2.2.2.1 c19
      refine P_tabIn 707 19 d_LW_law_32 c19 ⟨by decide, by decide⟩ (by decide) (by decide) rfl (by decide) ?_
      refine P_sub (lv' := [(0, .ref b), (1, .ref (ad 0)), (2, .ref (ad 28)), (3, vI v3)]) [0, 1, 2, 3] rfl ?_
      exact hF
    by_cases c20 : ((Int32.ofInt ((xs v3.toNat).toInt) &&& Int32.ofInt 31).toInt) = 20
    · have hF := hF.2.2.2.2.2.2.2.2.2.2.2.2.2.2.2.2.2.2.2.2.1 c20
      refine P_tabIn 730 20 d_LW_law_32 c20 ⟨by decide, by decide⟩ (by decide) (by decide) rfl (by decide) ?_
      refine P_sub (lv' := [(0, .ref b), (1, .ref (ad 0)), (2, .ref (ad 28)), (3, vI v3)]) [0, 1, 2, 3] rfl ?_
      exact hF
    by_cases c21 : ((Int32.ofInt ((xs v3.toNat).toInt) &&& Int32.ofInt 31).toInt) = 21
    · have hF := hF.2.2.2.2.2.2.2.2.2.2.2.2.2.2.2.2.2.2.2.2.2.1 c21
      refine P_tabIn 789 21 d_LW_law_32 c21 ⟨by decide, by decide⟩ (by decide) (by decide) rfl (by decide) ?_
      refine P_sub (lv' := [(0, .ref b), (1, .ref (ad 0)), (2, .ref (ad 28)), (3, vI v3)]) [0, 1, 2, 3] rfl ?_
      exact hF
    by_cases c22 : ((Int32.ofInt ((xs v3.toNat).toInt) &&& Int32.ofInt 31).toInt) = 22
    · have hF := hF.2.2.2.2.2.2.2.2.2.2.2.2.2.2.2.2.2.2.2.2.2.2.1 c22
      refine P_tabIn 812 22 d_LW_law_32 c22 ⟨by decide, by decide⟩ (by decide) (by decide) rfl (by decide) ?_
      refine P_sub (lv' := [(0, .ref b), (1, .ref (ad 0)), (2, .ref (ad 28)), (3, vI v3)]) [0, 1, 2, 3] rfl ?_
      exact hF
    by_cases c23 : ((Int32.ofInt ((xs v3.toNat).toInt) &&& Int32.ofInt 31).toInt) = 23
    · have hF := hF.2.2.2.2.2.2.2.2.2.2.2.2.2.2.2.2.2.2.2.2.2.2.2.1 c23
      refine P_tabIn 855 23 d_LW_law_32 c23 ⟨by decide, by decide⟩ (by decide) (by decide) rfl (by decide) ?_
      refine P_sub (lv' := [(0, .ref b), (1, .ref (ad 0)), (2, .ref (ad 28)), (3, vI v3)]) [0, 1, 2, 3] rfl ?_
      exact hF
    by_cases c24 : ((Int32.ofInt ((xs v3.toNat).toInt) &&& Int32.ofInt 31).toInt) = 24
    · have hF := hF.2.2.2.2.2.2.2.2.2.2.2.2.2.2.2.2.2.2.2.2.2.2.2.2.1 c24
      refine P_tabIn 898 24 d_LW_law_32 c24 ⟨by decide, by decide⟩ (by decide) (by decide) rfl (by decide) ?_
      refine P_sub (lv' := [(0, .ref b), (1, .ref (ad 0)), (2, .ref (ad 28)), (3, vI v3)]) [0, 1, 2, 3] rfl ?_
      exact hF
    by_cases c25 : ((Int32.ofInt ((xs v3.toNat).toInt) &&& Int32.ofInt 31).toInt) = 25
    · have hF := hF.2.2.2.2.2.2.2.2.2.2.2.2.2.2.2.2.2.2.2.2.2.2.2.2.2.1 c25
      refine P_tabIn 947 25 d_LW_law_32 c25 ⟨by decide, by decide⟩ (by decide) (by decide) rfl (by decide) ?_
      refine P_sub (lv' := [(0, .ref b), (1, .ref (ad 0)), (2, .ref (ad 28)), (3, vI v3)]) [0, 1, 2, 3] rfl ?_
      exact hF
    by_cases c26 : ((Int32.ofInt ((xs v3.toNat).toInt) &&& Int32.ofInt 31).toInt) = 26
    · have hF := hF.2.2.2.2.2.2.2.2.2.2.2.2.2.2.2.2.2.2.2.2.2.2.2.2.2.2.1 c26
      refine P_tabIn 960 26 d_LW_law_32 c26 ⟨by decide, by decide⟩ (by decide) (by decide) rfl (by decide) ?_
      refine P_sub (lv' := [(0, .ref b), (1, .ref (ad 0)), (2, .ref (ad 28)), (3, vI v3)]) [0, 1, 2, 3] rfl ?_
      exact hF
    by_cases c27 : ((Int32.ofInt ((xs v3.toNat).toInt) &&& Int32.ofInt 31).toInt) = 27
    · have hF := hF.2.2.2.2.2.2.2.2.2.2.2.2.2.2.2.2.2.2.2.2.2.2.2.2.2.2.2.1 c27
      refine P_tabIn 993 27 d_LW_law_32 c27 ⟨by decide, by decide⟩ (by decide) (by decide) rfl (by decide) ?_
      refine P_sub (lv' := [(0, .ref b), (1, .ref (ad 0)), (2, .ref (ad 28)), (3, vI v3)]) [0, 1, 2, 3] rfl ?_
      exact hF
    have hF := hF.2.2.2.2.2.2.2.2.2.2.2.2.2.2.2.2.2.2.2.2.2.2.2.2.2.2.2.2 (by omega)
    refine P_tabOut 1026 d_LW_law_32 (inR_t32 _) (by omega) (by decide) ?_
    refine P_sub (lv' := [(0, .ref b), (1, .ref (ad 0)), (2, .ref (ad 28)), (3, vI v3)]) [0, 1, 2, 3] rfl ?_
    exact hF
theorem F_LW_law_160 {b L : Nat} {xs : Nat → Int32} (hsc : sc = some (b, L, xs)) (hL : L ≤ 100000) (rL : InR (L : Int)) (v3 : Int) (g3 : InR v3) (hF : (0 ≤ (v3 + 1) ∧ (v3 + 1) < (L : Int)) ∧ (0 ≤ (v3 + 2) ∧ (v3 + 2) < (L : Int)) ∧ WP D ad ca none M_MW_shake 0 [(0, .ref (ad 0)), (1, vL ((Int64.ofInt ((Int64.ofInt ((xs (v3 + 1).toNat).toInt) <<< ((Int32.ofInt 32).toInt64 &&& 63)).toInt) ||| Int64.ofInt ((Int64.ofInt ((xs (v3 + 2).toNat).toInt) &&& Int64.ofInt 4294967295).toInt)).toInt))] [] h (RI (fun r4 h3 => (0 ≤ (v3 + 1) ∧ (v3 + 1) < (L : Int)) ∧ (0 ≤ (v3 + 2) ∧ (v3 + 2) < (L : Int)) ∧ WP D ad ca none M_MO_shake 0 [(0, .ref (ad 28)), (1, vL ((Int64.ofInt ((Int64.ofInt ((xs (v3 + 1).toNat).toInt) <<< ((Int32.ofInt 32).toInt64 &&& 63)).toInt) ||| Int64.ofInt ((Int64.ofInt ((xs (v3 + 2).toNat).toInt) &&& Int64.ofInt 4294967295).toInt)).toInt))] [] h3 (RI (fun r9 h8 => ((r4 = r9 → WP D ad ca sc M_LW_law 1026 [(0, .ref b), (1, .ref (ad 0)), (2, .ref (ad 28)), (3, vI v3)] [] h8 Q) ∧ (¬ r4 = r9 → Q (some (vI 0)) h8))))))) : WP D ad ca sc M_LW_law 160 [(0, .ref b), (1, .ref (ad 0)), (2, .ref (ad 28)), (3, vI v3)] [] h Q := by
  refine P_aload_n 1 d_LW_law_160 rfl rfl ?_
  refine P_aload_n 0 d_LW_law_161 rfl rfl ?_
  refine P_iload_n 3 d_LW_law_162 rfl rfl ?_
  refine P_iconst d_LW_law_163 ?_
  refine P_iadd d_LW_law_164 ?_
  obtain ⟨b1, hF⟩ := hF
  refine P_sld hsc hL d_LW_law_165 b1 ?_
  refine P_i2l (inR_t32 _) d_LW_law_166 ?_
  refine P_bipush d_LW_law_167 (by decide) ?_
  refine P_lshl d_LW_law_169 ?_
  refine P_aload_n 0 d_LW_law_170 rfl rfl ?_
  refine P_iload_n 3 d_LW_law_171 rfl rfl ?_
  refine P_iconst d_LW_law_172 ?_
  refine P_iadd d_LW_law_173 ?_
  obtain ⟨b2, hF⟩ := hF
  refine P_sld hsc hL d_LW_law_174 b2 ?_
  refine P_i2l (inR_t32 _) d_LW_law_175 ?_
  refine P_ldc2 (n := 4294967295) tw_864 (by decide) d_LW_law_176 ?_
  refine P_land d_LW_law_179 ?_
  refine P_lor d_LW_law_180 ?_
  refine V_MW_shake tw_235 d_LW_law_181 (by decide) (Nat.le_of_ble_eq_true rfl) hF (fun r4 h3 i5 hF => ?_)
  refine P_aload_n 2 d_LW_law_184 rfl rfl ?_
  refine P_aload_n 0 d_LW_law_185 rfl rfl ?_
  refine P_iload_n 3 d_LW_law_186 rfl rfl ?_
  refine P_iconst d_LW_law_187 ?_
  refine P_iadd d_LW_law_188 ?_
  obtain ⟨b6, hF⟩ := hF
  refine P_sld hsc hL d_LW_law_189 b6 ?_
  refine P_i2l (inR_t32 _) d_LW_law_190 ?_
  refine P_bipush d_LW_law_191 (by decide) ?_
  refine P_lshl d_LW_law_193 ?_
  refine P_aload_n 0 d_LW_law_194 rfl rfl ?_
  refine P_iload_n 3 d_LW_law_195 rfl rfl ?_
  refine P_iconst d_LW_law_196 ?_
  refine P_iadd d_LW_law_197 ?_
  obtain ⟨b7, hF⟩ := hF
  refine P_sld hsc hL d_LW_law_198 b7 ?_
  refine P_i2l (inR_t32 _) d_LW_law_199 ?_
  refine P_ldc2 (n := 4294967295) tw_864 (by decide) d_LW_law_200 ?_
  refine P_land d_LW_law_203 ?_
  refine P_lor d_LW_law_204 ?_
  refine V_MO_shake tw_656 d_LW_law_205 (by decide) (Nat.le_of_ble_eq_true rfl) hF (fun r9 h8 i10 hF => ?_)
  refine P_icmp_eq 1026 d_LW_law_208 (by decide) i5 i10 (fun c => ?_) (fun c => ?_)
  · have hF := hF.1 c
    refine P_sub (lv' := [(0, .ref b), (1, .ref (ad 0)), (2, .ref (ad 28)), (3, vI v3)]) [0, 1, 2, 3] rfl ?_
    exact hF
  · have hF := hF.2 c
    refine P_iconst d_LW_law_211 ?_
    exact P_zret d_LW_law_212 rfl (Or.inl rfl) hF
theorem F_LW_law_213 {b L : Nat} {xs : Nat → Int32} (hsc : sc = some (b, L, xs)) (hL : L ≤ 100000) (rL : InR (L : Int)) (v3 : Int) (g3 : InR v3) (hF : (0 ≤ (v3 + 1) ∧ (v3 + 1) < (L : Int)) ∧ (0 ≤ (v3 + 2) ∧ (v3 + 2) < (L : Int)) ∧ WP D ad ca none M_MW_about 0 [(0, .ref (ad 0)), (1, vI ((xs (v3 + 1).toNat).toInt)), (2, vI ((xs (v3 + 2).toNat).toInt))] [] h (RI (fun r4 h3 => (0 ≤ (v3 + 1) ∧ (v3 + 1) < (L : Int)) ∧ (0 ≤ (v3 + 2) ∧ (v3 + 2) < (L : Int)) ∧ WP D ad ca none M_MO_about 0 [(0, .ref (ad 28)), (1, vI ((xs (v3 + 1).toNat).toInt)), (2, vI ((xs (v3 + 2).toNat).toInt))] [] h3 (RI (fun r9 h8 => ((r4 = r9 → WP D ad ca sc M_LW_law 1026 [(0, .ref b), (1, .ref (ad 0)), (2, .ref (ad 28)), (3, vI v3)] [] h8 Q) ∧ (¬ r4 = r9 → Q (some (vI 0)) h8))))))) : WP D ad ca sc M_LW_law 213 [(0, .ref b), (1, .ref (ad 0)), (2, .ref (ad 28)), (3, vI v3)] [] h Q := by
  refine P_aload_n 1 d_LW_law_213 rfl rfl ?_
  refine P_aload_n 0 d_LW_law_214 rfl rfl ?_
  refine P_iload_n 3 d_LW_law_215 rfl rfl ?_
  refine P_iconst d_LW_law_216 ?_
  refine P_iadd d_LW_law_217 ?_
  obtain ⟨b1, hF⟩ := hF
  refine P_sld hsc hL d_LW_law_218 b1 ?_
  refine P_aload_n 0 d_LW_law_219 rfl rfl ?_
  refine P_iload_n 3 d_LW_law_220 rfl rfl ?_
  refine P_iconst d_LW_law_221 ?_
  refine P_iadd d_LW_law_222 ?_
  obtain ⟨b2, hF⟩ := hF
  refine P_sld hsc hL d_LW_law_223 b2 ?_
  refine V_MW_about tw_273 d_LW_law_224 (by decide) (Nat.le_of_ble_eq_true rfl) hF (fun r4 h3 i5 hF => ?_)
  refine P_aload_n 2 d_LW_law_227 rfl rfl ?_
  refine P_aload_n 0 d_LW_law_228 rfl rfl ?_
  refine P_iload_n 3 d_LW_law_229 rfl rfl ?_
  refine P_iconst d_LW_law_230 ?_
  refine P_iadd d_LW_law_231 ?_
  obtain ⟨b6, hF⟩ := hF
  refine P_sld hsc hL d_LW_law_232 b6 ?_
  refine P_aload_n 0 d_LW_law_233 rfl rfl ?_
  refine P_iload_n 3 d_LW_law_234 rfl rfl ?_
  refine P_iconst d_LW_law_235 ?_
  refine P_iadd d_LW_law_236 ?_
  obtain ⟨b7, hF⟩ := hF
  refine P_sld hsc hL d_LW_law_237 b7 ?_
  refine V_MO_about tw_662 d_LW_law_238 (by decide) (Nat.le_of_ble_eq_true rfl) hF (fun r9 h8 i10 hF => ?_)
  refine P_icmp_eq 1026 d_LW_law_241 (by decide) i5 i10 (fun c => ?_) (fun c => ?_)
  · have hF := hF.1 c
    refine P_sub (lv' := [(0, .ref b), (1, .ref (ad 0)), (2, .ref (ad 28)), (3, vI v3)]) [0, 1, 2, 3] rfl ?_
    exact hF
  · have hF := hF.2 c
    refine P_iconst d_LW_law_244 ?_
    exact P_zret d_LW_law_245 rfl (Or.inl rfl) hF
theorem F_LW_law_246 {b L : Nat} {xs : Nat → Int32} (hsc : sc = some (b, L, xs)) (hL : L ≤ 100000) (rL : InR (L : Int)) (v3 : Int) (g3 : InR v3) (hF : (0 ≤ (v3 + 1) ∧ (v3 + 1) < (L : Int)) ∧ (0 ≤ (v3 + 2) ∧ (v3 + 2) < (L : Int)) ∧ WP D ad ca none M_MW_alike 0 [(0, .ref (ad 0)), (1, vI ((xs (v3 + 1).toNat).toInt)), (2, vI ((xs (v3 + 2).toNat).toInt))] [] h (RI (fun r4 h3 => (0 ≤ (v3 + 1) ∧ (v3 + 1) < (L : Int)) ∧ (0 ≤ (v3 + 2) ∧ (v3 + 2) < (L : Int)) ∧ WP D ad ca none M_MO_alike 0 [(0, .ref (ad 28)), (1, vI ((xs (v3 + 1).toNat).toInt)), (2, vI ((xs (v3 + 2).toNat).toInt))] [] h3 (RI (fun r9 h8 => ((r4 = r9 → WP D ad ca sc M_LW_law 1026 [(0, .ref b), (1, .ref (ad 0)), (2, .ref (ad 28)), (3, vI v3)] [] h8 Q) ∧ (¬ r4 = r9 → Q (some (vI 0)) h8))))))) : WP D ad ca sc M_LW_law 246 [(0, .ref b), (1, .ref (ad 0)), (2, .ref (ad 28)), (3, vI v3)] [] h Q := by
  refine P_aload_n 1 d_LW_law_246 rfl rfl ?_
  refine P_aload_n 0 d_LW_law_247 rfl rfl ?_
  refine P_iload_n 3 d_LW_law_248 rfl rfl ?_
  refine P_iconst d_LW_law_249 ?_
  refine P_iadd d_LW_law_250 ?_
  obtain ⟨b1, hF⟩ := hF
  refine P_sld hsc hL d_LW_law_251 b1 ?_
  refine P_aload_n 0 d_LW_law_252 rfl rfl ?_
  refine P_iload_n 3 d_LW_law_253 rfl rfl ?_
  refine P_iconst d_LW_law_254 ?_
  refine P_iadd d_LW_law_255 ?_
  obtain ⟨b2, hF⟩ := hF
  refine P_sld hsc hL d_LW_law_256 b2 ?_
  refine V_MW_alike tw_285 d_LW_law_257 (by decide) (Nat.le_of_ble_eq_true rfl) hF (fun r4 h3 i5 hF => ?_)
  refine P_aload_n 2 d_LW_law_260 rfl rfl ?_
  refine P_aload_n 0 d_LW_law_261 rfl rfl ?_
  refine P_iload_n 3 d_LW_law_262 rfl rfl ?_
  refine P_iconst d_LW_law_263 ?_
  refine P_iadd d_LW_law_264 ?_
  obtain ⟨b6, hF⟩ := hF
  refine P_sld hsc hL d_LW_law_265 b6 ?_
  refine P_aload_n 0 d_LW_law_266 rfl rfl ?_
  refine P_iload_n 3 d_LW_law_267 rfl rfl ?_
  refine P_iconst d_LW_law_268 ?_
  refine P_iadd d_LW_law_269 ?_
  obtain ⟨b7, hF⟩ := hF
  refine P_sld hsc hL d_LW_law_270 b7 ?_
  refine V_MO_alike tw_690 d_LW_law_271 (by decide) (Nat.le_of_ble_eq_true rfl) hF (fun r9 h8 i10 hF => ?_)
  refine P_icmp_eq 1026 d_LW_law_274 (by decide) i5 i10 (fun c => ?_) (fun c => ?_)
  · have hF := hF.1 c
    refine P_sub (lv' := [(0, .ref b), (1, .ref (ad 0)), (2, .ref (ad 28)), (3, vI v3)]) [0, 1, 2, 3] rfl ?_
    exact hF
  · have hF := hF.2 c
    refine P_iconst d_LW_law_277 ?_
    exact P_zret d_LW_law_278 rfl (Or.inl rfl) hF
theorem F_LW_law_279 {b L : Nat} {xs : Nat → Int32} (hsc : sc = some (b, L, xs)) (hL : L ≤ 100000) (rL : InR (L : Int)) (v3 : Int) (g3 : InR v3) (hF : (0 ≤ (v3 + 1) ∧ (v3 + 1) < (L : Int)) ∧ WP D ad ca none M_MW_likeness 0 [(0, .ref (ad 0)), (1, vI ((xs (v3 + 1).toNat).toInt))] [] h (RI (fun r3 h2 => (0 ≤ (v3 + 1) ∧ (v3 + 1) < (L : Int)) ∧ WP D ad ca none M_MO_likeness 0 [(0, .ref (ad 28)), (1, vI ((xs (v3 + 1).toNat).toInt))] [] h2 (RI (fun r7 h6 => ((r3 = r7 → WP D ad ca sc M_LW_law 1026 [(0, .ref b), (1, .ref (ad 0)), (2, .ref (ad 28)), (3, vI v3)] [] h6 Q) ∧ (¬ r3 = r7 → Q (some (vI 0)) h6))))))) : WP D ad ca sc M_LW_law 279 [(0, .ref b), (1, .ref (ad 0)), (2, .ref (ad 28)), (3, vI v3)] [] h Q := by
  refine P_aload_n 1 d_LW_law_279 rfl rfl ?_
  refine P_aload_n 0 d_LW_law_280 rfl rfl ?_
  refine P_iload_n 3 d_LW_law_281 rfl rfl ?_
  refine P_iconst d_LW_law_282 ?_
  refine P_iadd d_LW_law_283 ?_
  obtain ⟨b1, hF⟩ := hF
  refine P_sld hsc hL d_LW_law_284 b1 ?_
  refine V_MW_likeness tw_293 d_LW_law_285 (by decide) (Nat.le_of_ble_eq_true rfl) hF (fun r3 h2 i4 hF => ?_)
  refine P_aload_n 2 d_LW_law_288 rfl rfl ?_
  refine P_aload_n 0 d_LW_law_289 rfl rfl ?_
  refine P_iload_n 3 d_LW_law_290 rfl rfl ?_
  refine P_iconst d_LW_law_291 ?_
  refine P_iadd d_LW_law_292 ?_
  obtain ⟨b5, hF⟩ := hF
  refine P_sld hsc hL d_LW_law_293 b5 ?_
  refine V_MO_likeness tw_694 d_LW_law_294 (by decide) (Nat.le_of_ble_eq_true rfl) hF (fun r7 h6 i8 hF => ?_)
  refine P_icmp_eq 1026 d_LW_law_297 (by decide) i4 i8 (fun c => ?_) (fun c => ?_)
  · have hF := hF.1 c
    refine P_sub (lv' := [(0, .ref b), (1, .ref (ad 0)), (2, .ref (ad 28)), (3, vI v3)]) [0, 1, 2, 3] rfl ?_
    exact hF
  · have hF := hF.2 c
    refine P_iconst d_LW_law_300 ?_
    exact P_zret d_LW_law_301 rfl (Or.inl rfl) hF
theorem F_LW_law_302 {b L : Nat} {xs : Nat → Int32} (hsc : sc = some (b, L, xs)) (hL : L ≤ 100000) (rL : InR (L : Int)) (v3 : Int) (g3 : InR v3) (hF : (0 ≤ (v3 + 1) ∧ (v3 + 1) < (L : Int)) ∧ WP D ad ca none M_MW_family 0 [(0, .ref (ad 0)), (1, vI ((xs (v3 + 1).toNat).toInt))] [] h (RI (fun r3 h2 => (0 ≤ (v3 + 1) ∧ (v3 + 1) < (L : Int)) ∧ WP D ad ca none M_MO_family 0 [(0, .ref (ad 28)), (1, vI ((xs (v3 + 1).toNat).toInt))] [] h2 (RI (fun r7 h6 => ((r3 = r7 → WP D ad ca sc M_LW_law 1026 [(0, .ref b), (1, .ref (ad 0)), (2, .ref (ad 28)), (3, vI v3)] [] h6 Q) ∧ (¬ r3 = r7 → Q (some (vI 0)) h6))))))) : WP D ad ca sc M_LW_law 302 [(0, .ref b), (1, .ref (ad 0)), (2, .ref (ad 28)), (3, vI v3)] [] h Q := by
  refine P_aload_n 1 d_LW_law_302 rfl rfl ?_
  refine P_aload_n 0 d_LW_law_303 rfl rfl ?_
  refine P_iload_n 3 d_LW_law_304 rfl rfl ?_
  refine P_iconst d_LW_law_305 ?_
  refine P_iadd d_LW_law_306 ?_
  obtain ⟨b1, hF⟩ := hF
  refine P_sld hsc hL d_LW_law_307 b1 ?_
  refine V_MW_family tw_301 d_LW_law_308 (by decide) (Nat.le_of_ble_eq_true rfl) hF (fun r3 h2 i4 hF => ?_)
  refine P_aload_n 2 d_LW_law_311 rfl rfl ?_
  refine P_aload_n 0 d_LW_law_312 rfl rfl ?_
  refine P_iload_n 3 d_LW_law_313 rfl rfl ?_
  refine P_iconst d_LW_law_314 ?_
  refine P_iadd d_LW_law_315 ?_
  obtain ⟨b5, hF⟩ := hF
  refine P_sld hsc hL d_LW_law_316 b5 ?_
  refine V_MO_family tw_698 d_LW_law_317 (by decide) (Nat.le_of_ble_eq_true rfl) hF (fun r7 h6 i8 hF => ?_)
  refine P_icmp_eq 1026 d_LW_law_320 (by decide) i4 i8 (fun c => ?_) (fun c => ?_)
  · have hF := hF.1 c
    refine P_sub (lv' := [(0, .ref b), (1, .ref (ad 0)), (2, .ref (ad 28)), (3, vI v3)]) [0, 1, 2, 3] rfl ?_
    exact hF
  · have hF := hF.2 c
    refine P_iconst d_LW_law_323 ?_
    exact P_zret d_LW_law_324 rfl (Or.inl rfl) hF
theorem F_LW_law_325 {b L : Nat} {xs : Nat → Int32} (hsc : sc = some (b, L, xs)) (hL : L ≤ 100000) (rL : InR (L : Int)) (v3 : Int) (g3 : InR v3) (hF : (0 ≤ (v3 + 1) ∧ (v3 + 1) < (L : Int)) ∧ WP D ad ca none M_MW_kin 0 [(0, .ref (ad 0)), (1, vI ((xs (v3 + 1).toNat).toInt))] [] h (RI (fun r3 h2 => (0 ≤ (v3 + 1) ∧ (v3 + 1) < (L : Int)) ∧ WP D ad ca none M_MO_kin 0 [(0, .ref (ad 28)), (1, vI ((xs (v3 + 1).toNat).toInt))] [] h2 (RI (fun r7 h6 => ((r3 = r7 → WP D ad ca sc M_LW_law 1026 [(0, .ref b), (1, .ref (ad 0)), (2, .ref (ad 28)), (3, vI v3)] [] h6 Q) ∧ (¬ r3 = r7 → Q (some (vI 0)) h6))))))) : WP D ad ca sc M_LW_law 325 [(0, .ref b), (1, .ref (ad 0)), (2, .ref (ad 28)), (3, vI v3)] [] h Q := by
  refine P_aload_n 1 d_LW_law_325 rfl rfl ?_
  refine P_aload_n 0 d_LW_law_326 rfl rfl ?_
  refine P_iload_n 3 d_LW_law_327 rfl rfl ?_
  refine P_iconst d_LW_law_328 ?_
  refine P_iadd d_LW_law_329 ?_
  obtain ⟨b1, hF⟩ := hF
  refine P_sld hsc hL d_LW_law_330 b1 ?_
  refine V_MW_kin tw_313 d_LW_law_331 (by decide) (Nat.le_of_ble_eq_true rfl) hF (fun r3 h2 i4 hF => ?_)
  refine P_aload_n 2 d_LW_law_334 rfl rfl ?_
  refine P_aload_n 0 d_LW_law_335 rfl rfl ?_
  refine P_iload_n 3 d_LW_law_336 rfl rfl ?_
  refine P_iconst d_LW_law_337 ?_
  refine P_iadd d_LW_law_338 ?_
  obtain ⟨b5, hF⟩ := hF
  refine P_sld hsc hL d_LW_law_339 b5 ?_
  refine V_MO_kin tw_702 d_LW_law_340 (by decide) (Nat.le_of_ble_eq_true rfl) hF (fun r7 h6 i8 hF => ?_)
  refine P_icmp_eq 1026 d_LW_law_343 (by decide) i4 i8 (fun c => ?_) (fun c => ?_)
  · have hF := hF.1 c
    refine P_sub (lv' := [(0, .ref b), (1, .ref (ad 0)), (2, .ref (ad 28)), (3, vI v3)]) [0, 1, 2, 3] rfl ?_
    exact hF
  · have hF := hF.2 c
    refine P_iconst d_LW_law_346 ?_
    exact P_zret d_LW_law_347 rfl (Or.inl rfl) hF
theorem F_LW_law_348 {b L : Nat} {xs : Nat → Int32} (hsc : sc = some (b, L, xs)) (hL : L ≤ 100000) (rL : InR (L : Int)) (v3 : Int) (g3 : InR v3) (hF : (0 ≤ (v3 + 1) ∧ (v3 + 1) < (L : Int)) ∧ WP D ad ca none M_MW_tilt 0 [(0, .ref (ad 0)), (1, vI ((xs (v3 + 1).toNat).toInt))] [] h (RI (fun r3 h2 => (0 ≤ (v3 + 1) ∧ (v3 + 1) < (L : Int)) ∧ WP D ad ca none M_MO_tilt 0 [(0, .ref (ad 28)), (1, vI ((xs (v3 + 1).toNat).toInt))] [] h2 (RI (fun r7 h6 => ((r3 = r7 → WP D ad ca sc M_LW_law 1026 [(0, .ref b), (1, .ref (ad 0)), (2, .ref (ad 28)), (3, vI v3)] [] h6 Q) ∧ (¬ r3 = r7 → Q (some (vI 0)) h6))))))) : WP D ad ca sc M_LW_law 348 [(0, .ref b), (1, .ref (ad 0)), (2, .ref (ad 28)), (3, vI v3)] [] h Q := by
  refine P_aload_n 1 d_LW_law_348 rfl rfl ?_
  refine P_aload_n 0 d_LW_law_349 rfl rfl ?_
  refine P_iload_n 3 d_LW_law_350 rfl rfl ?_
  refine P_iconst d_LW_law_351 ?_
  refine P_iadd d_LW_law_352 ?_
  obtain ⟨b1, hF⟩ := hF
  refine P_sld hsc hL d_LW_law_353 b1 ?_
  refine V_MW_tilt tw_321 d_LW_law_354 (by decide) (Nat.le_of_ble_eq_true rfl) hF (fun r3 h2 i4 hF => ?_)
  refine P_aload_n 2 d_LW_law_357 rfl rfl ?_
  refine P_aload_n 0 d_LW_law_358 rfl rfl ?_
  refine P_iload_n 3 d_LW_law_359 rfl rfl ?_
  refine P_iconst d_LW_law_360 ?_
  refine P_iadd d_LW_law_361 ?_
  obtain ⟨b5, hF⟩ := hF
  refine P_sld hsc hL d_LW_law_362 b5 ?_
  refine V_MO_tilt tw_706 d_LW_law_363 (by decide) (Nat.le_of_ble_eq_true rfl) hF (fun r7 h6 i8 hF => ?_)
  refine P_icmp_eq 1026 d_LW_law_366 (by decide) i4 i8 (fun c => ?_) (fun c => ?_)
  · have hF := hF.1 c
    refine P_sub (lv' := [(0, .ref b), (1, .ref (ad 0)), (2, .ref (ad 28)), (3, vI v3)]) [0, 1, 2, 3] rfl ?_
    exact hF
  · have hF := hF.2 c
    refine P_iconst d_LW_law_369 ?_
    exact P_zret d_LW_law_370 rfl (Or.inl rfl) hF
theorem F_LW_law_371 {b L : Nat} {xs : Nat → Int32} (hsc : sc = some (b, L, xs)) (hL : L ≤ 100000) (rL : InR (L : Int)) (v3 : Int) (g3 : InR v3) (hF : (0 ≤ (v3 + 1) ∧ (v3 + 1) < (L : Int)) ∧ WP D ad ca none M_MW_gas 0 [(0, .ref (ad 0)), (1, vI ((xs (v3 + 1).toNat).toInt))] [] h (RI (fun r3 h2 => (0 ≤ (v3 + 1) ∧ (v3 + 1) < (L : Int)) ∧ WP D ad ca none M_MO_gas 0 [(0, .ref (ad 28)), (1, vI ((xs (v3 + 1).toNat).toInt))] [] h2 (RI (fun r7 h6 => ((r3 = r7 → WP D ad ca sc M_LW_law 1026 [(0, .ref b), (1, .ref (ad 0)), (2, .ref (ad 28)), (3, vI v3)] [] h6 Q) ∧ (¬ r3 = r7 → Q (some (vI 0)) h6))))))) : WP D ad ca sc M_LW_law 371 [(0, .ref b), (1, .ref (ad 0)), (2, .ref (ad 28)), (3, vI v3)] [] h Q := by
  refine P_aload_n 1 d_LW_law_371 rfl rfl ?_
  refine P_aload_n 0 d_LW_law_372 rfl rfl ?_
  refine P_iload_n 3 d_LW_law_373 rfl rfl ?_
  refine P_iconst d_LW_law_374 ?_
  refine P_iadd d_LW_law_375 ?_
  obtain ⟨b1, hF⟩ := hF
  refine P_sld hsc hL d_LW_law_376 b1 ?_
  refine V_MW_gas tw_325 d_LW_law_377 (by decide) (Nat.le_of_ble_eq_true rfl) hF (fun r3 h2 i4 hF => ?_)
  refine P_aload_n 2 d_LW_law_380 rfl rfl ?_
  refine P_aload_n 0 d_LW_law_381 rfl rfl ?_
  refine P_iload_n 3 d_LW_law_382 rfl rfl ?_
  refine P_iconst d_LW_law_383 ?_
  refine P_iadd d_LW_law_384 ?_
  obtain ⟨b5, hF⟩ := hF
  refine P_sld hsc hL d_LW_law_385 b5 ?_
  refine V_MO_gas tw_710 d_LW_law_386 (by decide) (Nat.le_of_ble_eq_true rfl) hF (fun r7 h6 i8 hF => ?_)
  refine P_icmp_eq 1026 d_LW_law_389 (by decide) i4 i8 (fun c => ?_) (fun c => ?_)
  · have hF := hF.1 c
    refine P_sub (lv' := [(0, .ref b), (1, .ref (ad 0)), (2, .ref (ad 28)), (3, vI v3)]) [0, 1, 2, 3] rfl ?_
    exact hF
  · have hF := hF.2 c
    refine P_iconst d_LW_law_392 ?_
    exact P_zret d_LW_law_393 rfl (Or.inl rfl) hF
theorem F_LW_law_394 {b L : Nat} {xs : Nat → Int32} (hsc : sc = some (b, L, xs)) (hL : L ≤ 100000) (rL : InR (L : Int)) (v3 : Int) (g3 : InR v3) (hF : (0 ≤ (v3 + 1) ∧ (v3 + 1) < (L : Int)) ∧ WP D ad ca none M_MW_tiltAt 0 [(0, .ref (ad 0)), (1, vI ((xs (v3 + 1).toNat).toInt))] [] h (RI (fun r3 h2 => (0 ≤ (v3 + 1) ∧ (v3 + 1) < (L : Int)) ∧ WP D ad ca none M_MO_tiltAt 0 [(0, .ref (ad 28)), (1, vI ((xs (v3 + 1).toNat).toInt))] [] h2 (RI (fun r7 h6 => ((r3 = r7 → WP D ad ca sc M_LW_law 1026 [(0, .ref b), (1, .ref (ad 0)), (2, .ref (ad 28)), (3, vI v3)] [] h6 Q) ∧ (¬ r3 = r7 → Q (some (vI 0)) h6))))))) : WP D ad ca sc M_LW_law 394 [(0, .ref b), (1, .ref (ad 0)), (2, .ref (ad 28)), (3, vI v3)] [] h Q := by
  refine P_aload_n 1 d_LW_law_394 rfl rfl ?_
  refine P_aload_n 0 d_LW_law_395 rfl rfl ?_
  refine P_iload_n 3 d_LW_law_396 rfl rfl ?_
  refine P_iconst d_LW_law_397 ?_
  refine P_iadd d_LW_law_398 ?_
  obtain ⟨b1, hF⟩ := hF
  refine P_sld hsc hL d_LW_law_399 b1 ?_
  refine V_MW_tiltAt tw_329 d_LW_law_400 (by decide) (Nat.le_of_ble_eq_true rfl) hF (fun r3 h2 i4 hF => ?_)
  refine P_aload_n 2 d_LW_law_403 rfl rfl ?_
  refine P_aload_n 0 d_LW_law_404 rfl rfl ?_
  refine P_iload_n 3 d_LW_law_405 rfl rfl ?_
  refine P_iconst d_LW_law_406 ?_
  refine P_iadd d_LW_law_407 ?_
  obtain ⟨b5, hF⟩ := hF
  refine P_sld hsc hL d_LW_law_408 b5 ?_
  refine V_MO_tiltAt tw_714 d_LW_law_409 (by decide) (Nat.le_of_ble_eq_true rfl) hF (fun r7 h6 i8 hF => ?_)
  refine P_icmp_eq 1026 d_LW_law_412 (by decide) i4 i8 (fun c => ?_) (fun c => ?_)
  · have hF := hF.1 c
    refine P_sub (lv' := [(0, .ref b), (1, .ref (ad 0)), (2, .ref (ad 28)), (3, vI v3)]) [0, 1, 2, 3] rfl ?_
    exact hF
  · have hF := hF.2 c
    refine P_iconst d_LW_law_415 ?_
    exact P_zret d_LW_law_416 rfl (Or.inl rfl) hF
theorem F_LW_law_417 {b L : Nat} {xs : Nat → Int32} (hsc : sc = some (b, L, xs)) (hL : L ≤ 100000) (rL : InR (L : Int)) (v3 : Int) (g3 : InR v3) (hF : (0 ≤ (v3 + 1) ∧ (v3 + 1) < (L : Int)) ∧ WP D ad ca none M_MW_gasOf 0 [(0, .ref (ad 0)), (1, vI ((xs (v3 + 1).toNat).toInt))] [] h (RI (fun r3 h2 => (0 ≤ (v3 + 1) ∧ (v3 + 1) < (L : Int)) ∧ WP D ad ca none M_MO_gasOf 0 [(0, .ref (ad 28)), (1, vI ((xs (v3 + 1).toNat).toInt))] [] h2 (RI (fun r7 h6 => ((r3 = r7 → WP D ad ca sc M_LW_law 1026 [(0, .ref b), (1, .ref (ad 0)), (2, .ref (ad 28)), (3, vI v3)] [] h6 Q) ∧ (¬ r3 = r7 → Q (some (vI 0)) h6))))))) : WP D ad ca sc M_LW_law 417 [(0, .ref b), (1, .ref (ad 0)), (2, .ref (ad 28)), (3, vI v3)] [] h Q := by
  refine P_aload_n 1 d_LW_law_417 rfl rfl ?_
  refine P_aload_n 0 d_LW_law_418 rfl rfl ?_
  refine P_iload_n 3 d_LW_law_419 rfl rfl ?_
  refine P_iconst d_LW_law_420 ?_
  refine P_iadd d_LW_law_421 ?_
  obtain ⟨b1, hF⟩ := hF
  refine P_sld hsc hL d_LW_law_422 b1 ?_
  refine V_MW_gasOf tw_338 d_LW_law_423 (by decide) (Nat.le_of_ble_eq_true rfl) hF (fun r3 h2 i4 hF => ?_)
  refine P_aload_n 2 d_LW_law_426 rfl rfl ?_
  refine P_aload_n 0 d_LW_law_427 rfl rfl ?_
  refine P_iload_n 3 d_LW_law_428 rfl rfl ?_
  refine P_iconst d_LW_law_429 ?_
  refine P_iadd d_LW_law_430 ?_
  obtain ⟨b5, hF⟩ := hF
  refine P_sld hsc hL d_LW_law_431 b5 ?_
  refine V_MO_gasOf tw_728 d_LW_law_432 (by decide) (Nat.le_of_ble_eq_true rfl) hF (fun r7 h6 i8 hF => ?_)
  refine P_icmp_eq 1026 d_LW_law_435 (by decide) i4 i8 (fun c => ?_) (fun c => ?_)
  · have hF := hF.1 c
    refine P_sub (lv' := [(0, .ref b), (1, .ref (ad 0)), (2, .ref (ad 28)), (3, vI v3)]) [0, 1, 2, 3] rfl ?_
    exact hF
  · have hF := hF.2 c
    refine P_iconst d_LW_law_438 ?_
    exact P_zret d_LW_law_439 rfl (Or.inl rfl) hF
theorem F_LW_law_440 {b L : Nat} {xs : Nat → Int32} (hsc : sc = some (b, L, xs)) (hL : L ≤ 100000) (rL : InR (L : Int)) (v3 : Int) (g3 : InR v3) (hF : (0 ≤ (v3 + 1) ∧ (v3 + 1) < (L : Int)) ∧ (0 ≤ (v3 + 2) ∧ (v3 + 2) < (L : Int)) ∧ (0 ≤ (v3 + 3) ∧ (v3 + 3) < (L : Int)) ∧ (0 ≤ (v3 + 4) ∧ (v3 + 4) < (L : Int)) ∧ WP D ad ca none M_MW_law 0 [(0, .ref (ad 0)), (1, vI ((xs (v3 + 1).toNat).toInt)), (2, vI ((xs (v3 + 2).toNat).toInt)), (3, vI ((xs (v3 + 3).toNat).toInt)), (4, vI ((xs (v3 + 4).toNat).toInt))] [] h (RI (fun r6 h5 => (0 ≤ (v3 + 1) ∧ (v3 + 1) < (L : Int)) ∧ (0 ≤ (v3 + 2) ∧ (v3 + 2) < (L : Int)) ∧ (0 ≤ (v3 + 3) ∧ (v3 + 3) < (L : Int)) ∧ (0 ≤ (v3 + 4) ∧ (v3 + 4) < (L : Int)) ∧ WP D ad ca none M_MO_law 0 [(0, .ref (ad 28)), (1, vI ((xs (v3 + 1).toNat).toInt)), (2, vI ((xs (v3 + 2).toNat).toInt)), (3, vI ((xs (v3 + 3).toNat).toInt)), (4, vI ((xs (v3 + 4).toNat).toInt))] [] h5 (RI (fun r13 h12 => ((r6 = r13 → WP D ad ca sc M_LW_law 1026 [(0, .ref b), (1, .ref (ad 0)), (2, .ref (ad 28)), (3, vI v3)] [] h12 Q) ∧ (¬ r6 = r13 → Q (some (vI 0)) h12))))))) : WP D ad ca sc M_LW_law 440 [(0, .ref b), (1, .ref (ad 0)), (2, .ref (ad 28)), (3, vI v3)] [] h Q := by
  refine P_aload_n 1 d_LW_law_440 rfl rfl ?_
  refine P_aload_n 0 d_LW_law_441 rfl rfl ?_
  refine P_iload_n 3 d_LW_law_442 rfl rfl ?_
  refine P_iconst d_LW_law_443 ?_
  refine P_iadd d_LW_law_444 ?_
  obtain ⟨b1, hF⟩ := hF
  refine P_sld hsc hL d_LW_law_445 b1 ?_
  refine P_aload_n 0 d_LW_law_446 rfl rfl ?_
  refine P_iload_n 3 d_LW_law_447 rfl rfl ?_
  refine P_iconst d_LW_law_448 ?_
  refine P_iadd d_LW_law_449 ?_
  obtain ⟨b2, hF⟩ := hF
  refine P_sld hsc hL d_LW_law_450 b2 ?_
  refine P_aload_n 0 d_LW_law_451 rfl rfl ?_
  refine P_iload_n 3 d_LW_law_452 rfl rfl ?_
  refine P_iconst d_LW_law_453 ?_
  refine P_iadd d_LW_law_454 ?_
  obtain ⟨b3, hF⟩ := hF
  refine P_sld hsc hL d_LW_law_455 b3 ?_
  refine P_aload_n 0 d_LW_law_456 rfl rfl ?_
  refine P_iload_n 3 d_LW_law_457 rfl rfl ?_
  refine P_iconst d_LW_law_458 ?_
  refine P_iadd d_LW_law_459 ?_
  obtain ⟨b4, hF⟩ := hF
  refine P_sld hsc hL d_LW_law_460 b4 ?_
  refine V_MW_law tw_342 d_LW_law_461 (by decide) (Nat.le_of_ble_eq_true rfl) hF (fun r6 h5 i7 hF => ?_)
  refine P_aload_n 2 d_LW_law_464 rfl rfl ?_
  refine P_aload_n 0 d_LW_law_465 rfl rfl ?_
  refine P_iload_n 3 d_LW_law_466 rfl rfl ?_
  refine P_iconst d_LW_law_467 ?_
  refine P_iadd d_LW_law_468 ?_
  obtain ⟨b8, hF⟩ := hF
  refine P_sld hsc hL d_LW_law_469 b8 ?_
  refine P_aload_n 0 d_LW_law_470 rfl rfl ?_
  refine P_iload_n 3 d_LW_law_471 rfl rfl ?_
  refine P_iconst d_LW_law_472 ?_
  refine P_iadd d_LW_law_473 ?_
  obtain ⟨b9, hF⟩ := hF
  refine P_sld hsc hL d_LW_law_474 b9 ?_
  refine P_aload_n 0 d_LW_law_475 rfl rfl ?_
  refine P_iload_n 3 d_LW_law_476 rfl rfl ?_
  refine P_iconst d_LW_law_477 ?_
  refine P_iadd d_LW_law_478 ?_
  obtain ⟨b10, hF⟩ := hF
  refine P_sld hsc hL d_LW_law_479 b10 ?_
  refine P_aload_n 0 d_LW_law_480 rfl rfl ?_
  refine P_iload_n 3 d_LW_law_481 rfl rfl ?_
  refine P_iconst d_LW_law_482 ?_
  refine P_iadd d_LW_law_483 ?_
  obtain ⟨b11, hF⟩ := hF
  refine P_sld hsc hL d_LW_law_484 b11 ?_
  refine V_MO_law tw_732 d_LW_law_485 (by decide) (Nat.le_of_ble_eq_true rfl) hF (fun r13 h12 i14 hF => ?_)
  refine P_icmp_eq 1026 d_LW_law_488 (by decide) i7 i14 (fun c => ?_) (fun c => ?_)
  · have hF := hF.1 c
    refine P_sub (lv' := [(0, .ref b), (1, .ref (ad 0)), (2, .ref (ad 28)), (3, vI v3)]) [0, 1, 2, 3] rfl ?_
    exact hF
  · have hF := hF.2 c
    refine P_iconst d_LW_law_491 ?_
    exact P_zret d_LW_law_492 rfl (Or.inl rfl) hF
theorem F_LW_law_493 {b L : Nat} {xs : Nat → Int32} (hsc : sc = some (b, L, xs)) (hL : L ≤ 100000) (rL : InR (L : Int)) (v3 : Int) (g3 : InR v3) (hF : (0 ≤ (v3 + 1) ∧ (v3 + 1) < (L : Int)) ∧ (0 ≤ (v3 + 2) ∧ (v3 + 2) < (L : Int)) ∧ (0 ≤ (v3 + 3) ∧ (v3 + 3) < (L : Int)) ∧ WP D ad ca none M_MW_change 0 [(0, .ref (ad 0)), (1, vI ((xs (v3 + 1).toNat).toInt)), (2, vI ((xs (v3 + 2).toNat).toInt)), (3, vI ((xs (v3 + 3).toNat).toInt))] [] h (RI (fun r5 h4 => (0 ≤ (v3 + 1) ∧ (v3 + 1) < (L : Int)) ∧ (0 ≤ (v3 + 2) ∧ (v3 + 2) < (L : Int)) ∧ (0 ≤ (v3 + 3) ∧ (v3 + 3) < (L : Int)) ∧ WP D ad ca none M_MO_change 0 [(0, .ref (ad 28)), (1, vI ((xs (v3 + 1).toNat).toInt)), (2, vI ((xs (v3 + 2).toNat).toInt)), (3, vI ((xs (v3 + 3).toNat).toInt))] [] h4 (RI (fun r11 h10 => ((r5 = r11 → WP D ad ca sc M_LW_law 1026 [(0, .ref b), (1, .ref (ad 0)), (2, .ref (ad 28)), (3, vI v3)] [] h10 Q) ∧ (¬ r5 = r11 → Q (some (vI 0)) h10))))))) : WP D ad ca sc M_LW_law 493 [(0, .ref b), (1, .ref (ad 0)), (2, .ref (ad 28)), (3, vI v3)] [] h Q := by
  refine P_aload_n 1 d_LW_law_493 rfl rfl ?_
  refine P_aload_n 0 d_LW_law_494 rfl rfl ?_
  refine P_iload_n 3 d_LW_law_495 rfl rfl ?_
  refine P_iconst d_LW_law_496 ?_
  refine P_iadd d_LW_law_497 ?_
  obtain ⟨b1, hF⟩ := hF
  refine P_sld hsc hL d_LW_law_498 b1 ?_
  refine P_aload_n 0 d_LW_law_499 rfl rfl ?_
  refine P_iload_n 3 d_LW_law_500 rfl rfl ?_
  refine P_iconst d_LW_law_501 ?_
  refine P_iadd d_LW_law_502 ?_
  obtain ⟨b2, hF⟩ := hF
  refine P_sld hsc hL d_LW_law_503 b2 ?_
  refine P_aload_n 0 d_LW_law_504 rfl rfl ?_
  refine P_iload_n 3 d_LW_law_505 rfl rfl ?_
  refine P_iconst d_LW_law_506 ?_
  refine P_iadd d_LW_law_507 ?_
  obtain ⟨b3, hF⟩ := hF
  refine P_sld hsc hL d_LW_law_508 b3 ?_
  refine V_MW_change tw_353 d_LW_law_509 (by decide) (Nat.le_of_ble_eq_true rfl) hF (fun r5 h4 i6 hF => ?_)
  refine P_aload_n 2 d_LW_law_512 rfl rfl ?_
  refine P_aload_n 0 d_LW_law_513 rfl rfl ?_
  refine P_iload_n 3 d_LW_law_514 rfl rfl ?_
  refine P_iconst d_LW_law_515 ?_
  refine P_iadd d_LW_law_516 ?_
  obtain ⟨b7, hF⟩ := hF
  refine P_sld hsc hL d_LW_law_517 b7 ?_
  refine P_aload_n 0 d_LW_law_518 rfl rfl ?_
  refine P_iload_n 3 d_LW_law_519 rfl rfl ?_
  refine P_iconst d_LW_law_520 ?_
  refine P_iadd d_LW_law_521 ?_
  obtain ⟨b8, hF⟩ := hF
  refine P_sld hsc hL d_LW_law_522 b8 ?_
  refine P_aload_n 0 d_LW_law_523 rfl rfl ?_
  refine P_iload_n 3 d_LW_law_524 rfl rfl ?_
  refine P_iconst d_LW_law_525 ?_
  refine P_iadd d_LW_law_526 ?_
  obtain ⟨b9, hF⟩ := hF
  refine P_sld hsc hL d_LW_law_527 b9 ?_
  refine V_MO_change tw_736 d_LW_law_528 (by decide) (Nat.le_of_ble_eq_true rfl) hF (fun r11 h10 i12 hF => ?_)
  refine P_icmp_eq 1026 d_LW_law_531 (by decide) i6 i12 (fun c => ?_) (fun c => ?_)
  · have hF := hF.1 c
    refine P_sub (lv' := [(0, .ref b), (1, .ref (ad 0)), (2, .ref (ad 28)), (3, vI v3)]) [0, 1, 2, 3] rfl ?_
    exact hF
  · have hF := hF.2 c
    refine P_iconst d_LW_law_534 ?_
    exact P_zret d_LW_law_535 rfl (Or.inl rfl) hF
theorem F_LW_law_536 {b L : Nat} {xs : Nat → Int32} (hsc : sc = some (b, L, xs)) (hL : L ≤ 100000) (rL : InR (L : Int)) (v3 : Int) (g3 : InR v3) (hF : (0 ≤ (v3 + 1) ∧ (v3 + 1) < (L : Int)) ∧ (0 ≤ (v3 + 2) ∧ (v3 + 2) < (L : Int)) ∧ WP D ad ca none M_MW_measure 0 [(0, .ref (ad 0)), (1, vI ((xs (v3 + 1).toNat).toInt)), (2, vI ((xs (v3 + 2).toNat).toInt))] [] h (RI (fun r4 h3 => (0 ≤ (v3 + 1) ∧ (v3 + 1) < (L : Int)) ∧ (0 ≤ (v3 + 2) ∧ (v3 + 2) < (L : Int)) ∧ WP D ad ca none M_MO_measure 0 [(0, .ref (ad 28)), (1, vI ((xs (v3 + 1).toNat).toInt)), (2, vI ((xs (v3 + 2).toNat).toInt))] [] h3 (RI (fun r9 h8 => ((r4 = r9 → WP D ad ca sc M_LW_law 1026 [(0, .ref b), (1, .ref (ad 0)), (2, .ref (ad 28)), (3, vI v3)] [] h8 Q) ∧ (¬ r4 = r9 → Q (some (vI 0)) h8))))))) : WP D ad ca sc M_LW_law 536 [(0, .ref b), (1, .ref (ad 0)), (2, .ref (ad 28)), (3, vI v3)] [] h Q := by
  refine P_aload_n 1 d_LW_law_536 rfl rfl ?_
  refine P_aload_n 0 d_LW_law_537 rfl rfl ?_
  refine P_iload_n 3 d_LW_law_538 rfl rfl ?_
  refine P_iconst d_LW_law_539 ?_
  refine P_iadd d_LW_law_540 ?_
  obtain ⟨b1, hF⟩ := hF
  refine P_sld hsc hL d_LW_law_541 b1 ?_
  refine P_aload_n 0 d_LW_law_542 rfl rfl ?_
  refine P_iload_n 3 d_LW_law_543 rfl rfl ?_
  refine P_iconst d_LW_law_544 ?_
  refine P_iadd d_LW_law_545 ?_
  obtain ⟨b2, hF⟩ := hF
  refine P_sld hsc hL d_LW_law_546 b2 ?_
  refine V_MW_measure tw_361 d_LW_law_547 (by decide) (Nat.le_of_ble_eq_true rfl) hF (fun r4 h3 i5 hF => ?_)
  refine P_aload_n 2 d_LW_law_550 rfl rfl ?_
  refine P_aload_n 0 d_LW_law_551 rfl rfl ?_
  refine P_iload_n 3 d_LW_law_552 rfl rfl ?_
  refine P_iconst d_LW_law_553 ?_
  refine P_iadd d_LW_law_554 ?_
  obtain ⟨b6, hF⟩ := hF
  refine P_sld hsc hL d_LW_law_555 b6 ?_
  refine P_aload_n 0 d_LW_law_556 rfl rfl ?_
  refine P_iload_n 3 d_LW_law_557 rfl rfl ?_
  refine P_iconst d_LW_law_558 ?_
  refine P_iadd d_LW_law_559 ?_
  obtain ⟨b7, hF⟩ := hF
  refine P_sld hsc hL d_LW_law_560 b7 ?_
  refine V_MO_measure tw_744 d_LW_law_561 (by decide) (Nat.le_of_ble_eq_true rfl) hF (fun r9 h8 i10 hF => ?_)
  refine P_icmp_eq 1026 d_LW_law_564 (by decide) i5 i10 (fun c => ?_) (fun c => ?_)
  · have hF := hF.1 c
    refine P_sub (lv' := [(0, .ref b), (1, .ref (ad 0)), (2, .ref (ad 28)), (3, vI v3)]) [0, 1, 2, 3] rfl ?_
    exact hF
  · have hF := hF.2 c
    refine P_iconst d_LW_law_567 ?_
    exact P_zret d_LW_law_568 rfl (Or.inl rfl) hF
theorem F_LW_law_569 {b L : Nat} {xs : Nat → Int32} (hsc : sc = some (b, L, xs)) (hL : L ≤ 100000) (rL : InR (L : Int)) (v3 : Int) (g3 : InR v3) (hF : (0 ≤ (v3 + 1) ∧ (v3 + 1) < (L : Int)) ∧ (0 ≤ (v3 + 2) ∧ (v3 + 2) < (L : Int)) ∧ WP D ad ca none M_MW_isTrue 0 [(0, .ref (ad 0)), (1, vI ((xs (v3 + 1).toNat).toInt)), (2, vI ((xs (v3 + 2).toNat).toInt))] [] h (RI (fun r4 h3 => (0 ≤ (v3 + 1) ∧ (v3 + 1) < (L : Int)) ∧ (0 ≤ (v3 + 2) ∧ (v3 + 2) < (L : Int)) ∧ WP D ad ca none M_MO_isTrue 0 [(0, .ref (ad 28)), (1, vI ((xs (v3 + 1).toNat).toInt)), (2, vI ((xs (v3 + 2).toNat).toInt))] [] h3 (RI (fun r9 h8 => ((r4 = r9 → WP D ad ca sc M_LW_law 1026 [(0, .ref b), (1, .ref (ad 0)), (2, .ref (ad 28)), (3, vI v3)] [] h8 Q) ∧ (¬ r4 = r9 → Q (some (vI 0)) h8))))))) : WP D ad ca sc M_LW_law 569 [(0, .ref b), (1, .ref (ad 0)), (2, .ref (ad 28)), (3, vI v3)] [] h Q := by
  refine P_aload_n 1 d_LW_law_569 rfl rfl ?_
  refine P_aload_n 0 d_LW_law_570 rfl rfl ?_
  refine P_iload_n 3 d_LW_law_571 rfl rfl ?_
  refine P_iconst d_LW_law_572 ?_
  refine P_iadd d_LW_law_573 ?_
  obtain ⟨b1, hF⟩ := hF
  refine P_sld hsc hL d_LW_law_574 b1 ?_
  refine P_aload_n 0 d_LW_law_575 rfl rfl ?_
  refine P_iload_n 3 d_LW_law_576 rfl rfl ?_
  refine P_iconst d_LW_law_577 ?_
  refine P_iadd d_LW_law_578 ?_
  obtain ⟨b2, hF⟩ := hF
  refine P_sld hsc hL d_LW_law_579 b2 ?_
  refine V_MW_isTrue tw_400 d_LW_law_580 (by decide) (Nat.le_of_ble_eq_true rfl) hF (fun r4 h3 i5 hF => ?_)
  refine P_aload_n 2 d_LW_law_583 rfl rfl ?_
  refine P_aload_n 0 d_LW_law_584 rfl rfl ?_
  refine P_iload_n 3 d_LW_law_585 rfl rfl ?_
  refine P_iconst d_LW_law_586 ?_
  refine P_iadd d_LW_law_587 ?_
  obtain ⟨b6, hF⟩ := hF
  refine P_sld hsc hL d_LW_law_588 b6 ?_
  refine P_aload_n 0 d_LW_law_589 rfl rfl ?_
  refine P_iload_n 3 d_LW_law_590 rfl rfl ?_
  refine P_iconst d_LW_law_591 ?_
  refine P_iadd d_LW_law_592 ?_
  obtain ⟨b7, hF⟩ := hF
  refine P_sld hsc hL d_LW_law_593 b7 ?_
  refine V_MO_isTrue tw_756 d_LW_law_594 (by decide) (Nat.le_of_ble_eq_true rfl) hF (fun r9 h8 i10 hF => ?_)
  refine P_icmp_eq 1026 d_LW_law_597 (by decide) i5 i10 (fun c => ?_) (fun c => ?_)
  · have hF := hF.1 c
    refine P_sub (lv' := [(0, .ref b), (1, .ref (ad 0)), (2, .ref (ad 28)), (3, vI v3)]) [0, 1, 2, 3] rfl ?_
    exact hF
  · have hF := hF.2 c
    refine P_iconst d_LW_law_600 ?_
    exact P_zret d_LW_law_601 rfl (Or.inl rfl) hF
theorem F_LW_law_602 {b L : Nat} {xs : Nat → Int32} (hsc : sc = some (b, L, xs)) (hL : L ≤ 100000) (rL : InR (L : Int)) (v3 : Int) (g3 : InR v3) (hF : (0 ≤ (v3 + 1) ∧ (v3 + 1) < (L : Int)) ∧ WP D ad ca none M_MW_rest 0 [(0, .ref (ad 0)), (1, vI ((xs (v3 + 1).toNat).toInt))] [] h (RI (fun r3 h2 => (0 ≤ (v3 + 1) ∧ (v3 + 1) < (L : Int)) ∧ WP D ad ca none M_MO_rest 0 [(0, .ref (ad 28)), (1, vI ((xs (v3 + 1).toNat).toInt))] [] h2 (RI (fun r7 h6 => ((r3 = r7 → WP D ad ca sc M_LW_law 1026 [(0, .ref b), (1, .ref (ad 0)), (2, .ref (ad 28)), (3, vI v3)] [] h6 Q) ∧ (¬ r3 = r7 → Q (some (vI 0)) h6))))))) : WP D ad ca sc M_LW_law 602 [(0, .ref b), (1, .ref (ad 0)), (2, .ref (ad 28)), (3, vI v3)] [] h Q := by
  refine P_aload_n 1 d_LW_law_602 rfl rfl ?_
  refine P_aload_n 0 d_LW_law_603 rfl rfl ?_
  refine P_iload_n 3 d_LW_law_604 rfl rfl ?_
  refine P_iconst d_LW_law_605 ?_
  refine P_iadd d_LW_law_606 ?_
  obtain ⟨b1, hF⟩ := hF
  refine P_sld hsc hL d_LW_law_607 b1 ?_
  refine V_MW_rest tw_408 d_LW_law_608 (by decide) (Nat.le_of_ble_eq_true rfl) hF (fun r3 h2 i4 hF => ?_)
  refine P_aload_n 2 d_LW_law_611 rfl rfl ?_
  refine P_aload_n 0 d_LW_law_612 rfl rfl ?_
  refine P_iload_n 3 d_LW_law_613 rfl rfl ?_
  refine P_iconst d_LW_law_614 ?_
  refine P_iadd d_LW_law_615 ?_
  obtain ⟨b5, hF⟩ := hF
  refine P_sld hsc hL d_LW_law_616 b5 ?_
  refine V_MO_rest tw_764 d_LW_law_617 (by decide) (Nat.le_of_ble_eq_true rfl) hF (fun r7 h6 i8 hF => ?_)
  refine P_icmp_eq 1026 d_LW_law_620 (by decide) i4 i8 (fun c => ?_) (fun c => ?_)
  · have hF := hF.1 c
    refine P_sub (lv' := [(0, .ref b), (1, .ref (ad 0)), (2, .ref (ad 28)), (3, vI v3)]) [0, 1, 2, 3] rfl ?_
    exact hF
  · have hF := hF.2 c
    refine P_iconst d_LW_law_623 ?_
    exact P_zret d_LW_law_624 rfl (Or.inl rfl) hF
theorem F_LW_law_625 {b L : Nat} {xs : Nat → Int32} (hsc : sc = some (b, L, xs)) (hL : L ≤ 100000) (rL : InR (L : Int)) (v3 : Int) (g3 : InR v3) (hF : WP D ad ca none M_MW_next 0 [(0, .ref (ad 0))] [] h (RI (fun r2 h1 => WP D ad ca none M_MO_next 0 [(0, .ref (ad 28))] [] h1 (RI (fun r5 h4 => ((r2 = r5 → WP D ad ca sc M_LW_law 1026 [(0, .ref b), (1, .ref (ad 0)), (2, .ref (ad 28)), (3, vI v3)] [] h4 Q) ∧ (¬ r2 = r5 → Q (some (vI 0)) h4))))))) : WP D ad ca sc M_LW_law 625 [(0, .ref b), (1, .ref (ad 0)), (2, .ref (ad 28)), (3, vI v3)] [] h Q := by
  refine P_aload_n 1 d_LW_law_625 rfl rfl ?_
  refine V_MW_next tw_412 d_LW_law_626 (by decide) (Nat.le_of_ble_eq_true rfl) hF (fun r2 h1 i3 hF => ?_)
  refine P_aload_n 2 d_LW_law_629 rfl rfl ?_
  refine V_MO_next tw_768 d_LW_law_630 (by decide) (Nat.le_of_ble_eq_true rfl) hF (fun r5 h4 i6 hF => ?_)
  refine P_icmp_eq 1026 d_LW_law_633 (by decide) i3 i6 (fun c => ?_) (fun c => ?_)
  · have hF := hF.1 c
    refine P_sub (lv' := [(0, .ref b), (1, .ref (ad 0)), (2, .ref (ad 28)), (3, vI v3)]) [0, 1, 2, 3] rfl ?_
    exact hF
  · have hF := hF.2 c
    refine P_iconst d_LW_law_636 ?_
    exact P_zret d_LW_law_637 rfl (Or.inl rfl) hF
theorem F_LW_law_638 {b L : Nat} {xs : Nat → Int32} (hsc : sc = some (b, L, xs)) (hL : L ≤ 100000) (rL : InR (L : Int)) (v3 : Int) (g3 : InR v3) (hF : (0 ≤ (v3 + 1) ∧ (v3 + 1) < (L : Int)) ∧ (0 ≤ (v3 + 2) ∧ (v3 + 2) < (L : Int)) ∧ WP D ad ca none M_MW_hold 0 [(0, .ref (ad 0)), (1, vI ((xs (v3 + 1).toNat).toInt)), (2, vI ((xs (v3 + 2).toNat).toInt))] [] h (RI (fun r4 h3 => (0 ≤ (v3 + 1) ∧ (v3 + 1) < (L : Int)) ∧ (0 ≤ (v3 + 2) ∧ (v3 + 2) < (L : Int)) ∧ WP D ad ca none M_MO_hold 0 [(0, .ref (ad 28)), (1, vI ((xs (v3 + 1).toNat).toInt)), (2, vI ((xs (v3 + 2).toNat).toInt))] [] h3 (RI (fun r9 h8 => ((r4 = r9 → WP D ad ca sc M_LW_law 1026 [(0, .ref b), (1, .ref (ad 0)), (2, .ref (ad 28)), (3, vI v3)] [] h8 Q) ∧ (¬ r4 = r9 → Q (some (vI 0)) h8))))))) : WP D ad ca sc M_LW_law 638 [(0, .ref b), (1, .ref (ad 0)), (2, .ref (ad 28)), (3, vI v3)] [] h Q := by
  refine P_aload_n 1 d_LW_law_638 rfl rfl ?_
  refine P_aload_n 0 d_LW_law_639 rfl rfl ?_
  refine P_iload_n 3 d_LW_law_640 rfl rfl ?_
  refine P_iconst d_LW_law_641 ?_
  refine P_iadd d_LW_law_642 ?_
  obtain ⟨b1, hF⟩ := hF
  refine P_sld hsc hL d_LW_law_643 b1 ?_
  refine P_aload_n 0 d_LW_law_644 rfl rfl ?_
  refine P_iload_n 3 d_LW_law_645 rfl rfl ?_
  refine P_iconst d_LW_law_646 ?_
  refine P_iadd d_LW_law_647 ?_
  obtain ⟨b2, hF⟩ := hF
  refine P_sld hsc hL d_LW_law_648 b2 ?_
  refine V_MW_hold tw_455 d_LW_law_649 (by decide) (Nat.le_of_ble_eq_true rfl) hF (fun r4 h3 i5 hF => ?_)
  refine P_aload_n 2 d_LW_law_652 rfl rfl ?_
  refine P_aload_n 0 d_LW_law_653 rfl rfl ?_
  refine P_iload_n 3 d_LW_law_654 rfl rfl ?_
  refine P_iconst d_LW_law_655 ?_
  refine P_iadd d_LW_law_656 ?_
  obtain ⟨b6, hF⟩ := hF
  refine P_sld hsc hL d_LW_law_657 b6 ?_
  refine P_aload_n 0 d_LW_law_658 rfl rfl ?_
  refine P_iload_n 3 d_LW_law_659 rfl rfl ?_
  refine P_iconst d_LW_law_660 ?_
  refine P_iadd d_LW_law_661 ?_
  obtain ⟨b7, hF⟩ := hF
  refine P_sld hsc hL d_LW_law_662 b7 ?_
  refine V_MO_hold tw_788 d_LW_law_663 (by decide) (Nat.le_of_ble_eq_true rfl) hF (fun r9 h8 i10 hF => ?_)
  refine P_icmp_eq 1026 d_LW_law_666 (by decide) i5 i10 (fun c => ?_) (fun c => ?_)
  · have hF := hF.1 c
    refine P_sub (lv' := [(0, .ref b), (1, .ref (ad 0)), (2, .ref (ad 28)), (3, vI v3)]) [0, 1, 2, 3] rfl ?_
    exact hF
  · have hF := hF.2 c
    refine P_iconst d_LW_law_669 ?_
    exact P_zret d_LW_law_670 rfl (Or.inl rfl) hF
theorem F_LW_law_671 {b L : Nat} {xs : Nat → Int32} (hsc : sc = some (b, L, xs)) (hL : L ≤ 100000) (rL : InR (L : Int)) (v3 : Int) (g3 : InR v3) (hF : WP D ad ca none M_MW_release 0 [(0, .ref (ad 0))] [] h (RI (fun r2 h1 => WP D ad ca none M_MO_release 0 [(0, .ref (ad 28))] [] h1 (RI (fun r5 h4 => ((r2 = r5 → WP D ad ca sc M_LW_law 1026 [(0, .ref b), (1, .ref (ad 0)), (2, .ref (ad 28)), (3, vI v3)] [] h4 Q) ∧ (¬ r2 = r5 → Q (some (vI 0)) h4))))))) : WP D ad ca sc M_LW_law 671 [(0, .ref b), (1, .ref (ad 0)), (2, .ref (ad 28)), (3, vI v3)] [] h Q := by
  refine P_aload_n 1 d_LW_law_671 rfl rfl ?_
  refine V_MW_release tw_459 d_LW_law_672 (by decide) (Nat.le_of_ble_eq_true rfl) hF (fun r2 h1 i3 hF => ?_)
  refine P_aload_n 2 d_LW_law_675 rfl rfl ?_
  refine V_MO_release tw_792 d_LW_law_676 (by decide) (Nat.le_of_ble_eq_true rfl) hF (fun r5 h4 i6 hF => ?_)
  refine P_icmp_eq 1026 d_LW_law_679 (by decide) i3 i6 (fun c => ?_) (fun c => ?_)
  · have hF := hF.1 c
    refine P_sub (lv' := [(0, .ref b), (1, .ref (ad 0)), (2, .ref (ad 28)), (3, vI v3)]) [0, 1, 2, 3] rfl ?_
    exact hF
  · have hF := hF.2 c
    refine P_iconst d_LW_law_682 ?_
    exact P_zret d_LW_law_683 rfl (Or.inl rfl) hF
theorem F_LW_law_684 {b L : Nat} {xs : Nat → Int32} (hsc : sc = some (b, L, xs)) (hL : L ≤ 100000) (rL : InR (L : Int)) (v3 : Int) (g3 : InR v3) (hF : (0 ≤ (v3 + 1) ∧ (v3 + 1) < (L : Int)) ∧ WP D ad ca none M_MW_word 0 [(0, .ref (ad 0)), (1, vI ((xs (v3 + 1).toNat).toInt))] [] h (RI (fun r3 h2 => (0 ≤ (v3 + 1) ∧ (v3 + 1) < (L : Int)) ∧ WP D ad ca none M_MO_word 0 [(0, .ref (ad 28)), (1, vI ((xs (v3 + 1).toNat).toInt))] [] h2 (RI (fun r7 h6 => ((r3 = r7 → WP D ad ca sc M_LW_law 1026 [(0, .ref b), (1, .ref (ad 0)), (2, .ref (ad 28)), (3, vI v3)] [] h6 Q) ∧ (¬ r3 = r7 → Q (some (vI 0)) h6))))))) : WP D ad ca sc M_LW_law 684 [(0, .ref b), (1, .ref (ad 0)), (2, .ref (ad 28)), (3, vI v3)] [] h Q := by
  refine P_aload_n 1 d_LW_law_684 rfl rfl ?_
  refine P_aload_n 0 d_LW_law_685 rfl rfl ?_
  refine P_iload_n 3 d_LW_law_686 rfl rfl ?_
  refine P_iconst d_LW_law_687 ?_
  refine P_iadd d_LW_law_688 ?_
  obtain ⟨b1, hF⟩ := hF
  refine P_sld hsc hL d_LW_law_689 b1 ?_
  refine V_MW_word tw_463 d_LW_law_690 (by decide) (Nat.le_of_ble_eq_true rfl) hF (fun r3 h2 i4 hF => ?_)
  refine P_aload_n 2 d_LW_law_693 rfl rfl ?_
  refine P_aload_n 0 d_LW_law_694 rfl rfl ?_
  refine P_iload_n 3 d_LW_law_695 rfl rfl ?_
  refine P_iconst d_LW_law_696 ?_
  refine P_iadd d_LW_law_697 ?_
  obtain ⟨b5, hF⟩ := hF
  refine P_sld hsc hL d_LW_law_698 b5 ?_
  refine V_MO_word tw_796 d_LW_law_699 (by decide) (Nat.le_of_ble_eq_true rfl) hF (fun r7 h6 i8 hF => ?_)
  refine P_icmp_eq 1026 d_LW_law_702 (by decide) i4 i8 (fun c => ?_) (fun c => ?_)
  · have hF := hF.1 c
    refine P_sub (lv' := [(0, .ref b), (1, .ref (ad 0)), (2, .ref (ad 28)), (3, vI v3)]) [0, 1, 2, 3] rfl ?_
    exact hF
  · have hF := hF.2 c
    refine P_iconst d_LW_law_705 ?_
    exact P_zret d_LW_law_706 rfl (Or.inl rfl) hF
theorem F_LW_law_707 {b L : Nat} {xs : Nat → Int32} (hsc : sc = some (b, L, xs)) (hL : L ≤ 100000) (rL : InR (L : Int)) (v3 : Int) (g3 : InR v3) (hF : (0 ≤ (v3 + 1) ∧ (v3 + 1) < (L : Int)) ∧ WP D ad ca none M_MW_drill 0 [(0, .ref (ad 0)), (1, vI ((xs (v3 + 1).toNat).toInt))] [] h (RI (fun r3 h2 => (0 ≤ (v3 + 1) ∧ (v3 + 1) < (L : Int)) ∧ WP D ad ca none M_MO_drill 0 [(0, .ref (ad 28)), (1, vI ((xs (v3 + 1).toNat).toInt))] [] h2 (RI (fun r7 h6 => ((r3 = r7 → WP D ad ca sc M_LW_law 1026 [(0, .ref b), (1, .ref (ad 0)), (2, .ref (ad 28)), (3, vI v3)] [] h6 Q) ∧ (¬ r3 = r7 → Q (some (vI 0)) h6))))))) : WP D ad ca sc M_LW_law 707 [(0, .ref b), (1, .ref (ad 0)), (2, .ref (ad 28)), (3, vI v3)] [] h Q := by
  refine P_aload_n 1 d_LW_law_707 rfl rfl ?_
  refine P_aload_n 0 d_LW_law_708 rfl rfl ?_
  refine P_iload_n 3 d_LW_law_709 rfl rfl ?_
  refine P_iconst d_LW_law_710 ?_
  refine P_iadd d_LW_law_711 ?_
  obtain ⟨b1, hF⟩ := hF
  refine P_sld hsc hL d_LW_law_712 b1 ?_
  refine V_MW_drill tw_470 d_LW_law_713 (by decide) (Nat.le_of_ble_eq_true rfl) hF (fun r3 h2 i4 hF => ?_)
  refine P_aload_n 2 d_LW_law_716 rfl rfl ?_
  refine P_aload_n 0 d_LW_law_717 rfl rfl ?_
  refine P_iload_n 3 d_LW_law_718 rfl rfl ?_
  refine P_iconst d_LW_law_719 ?_
  refine P_iadd d_LW_law_720 ?_
  obtain ⟨b5, hF⟩ := hF
  refine P_sld hsc hL d_LW_law_721 b5 ?_
  refine V_MO_drill tw_800 d_LW_law_722 (by decide) (Nat.le_of_ble_eq_true rfl) hF (fun r7 h6 i8 hF => ?_)
  refine P_icmp_eq 1026 d_LW_law_725 (by decide) i4 i8 (fun c => ?_) (fun c => ?_)
  · have hF := hF.1 c
    refine P_sub (lv' := [(0, .ref b), (1, .ref (ad 0)), (2, .ref (ad 28)), (3, vI v3)]) [0, 1, 2, 3] rfl ?_
    exact hF
  · have hF := hF.2 c
    refine P_iconst d_LW_law_728 ?_
    exact P_zret d_LW_law_729 rfl (Or.inl rfl) hF
theorem F_LW_law_730 {b L : Nat} {xs : Nat → Int32} (hsc : sc = some (b, L, xs)) (hL : L ≤ 100000) (rL : InR (L : Int)) (v3 : Int) (g3 : InR v3) (hF : (0 ≤ (v3 + 1) ∧ (v3 + 1) < (L : Int)) ∧ ((((xs (v3 + 1).toNat).toInt) = 0 → (0 ≤ (v3 + 2) ∧ (v3 + 2) < (L : Int)) ∧ (0 ≤ (v3 + 3) ∧ (v3 + 3) < (L : Int)) ∧ WP D ad ca none M_MW_message 0 [(0, .ref (ad 0)), (1, vI 0), (2, vI ((xs (v3 + 2).toNat).toInt)), (3, vI ((xs (v3 + 3).toNat).toInt))] [] h (RI (fun r5 h4 => (0 ≤ (v3 + 1) ∧ (v3 + 1) < (L : Int)) ∧ ((((xs (v3 + 1).toNat).toInt) = 0 → (0 ≤ (v3 + 2) ∧ (v3 + 2) < (L : Int)) ∧ (0 ≤ (v3 + 3) ∧ (v3 + 3) < (L : Int)) ∧ WP D ad ca none M_MO_message 0 [(0, .ref (ad 28)), (1, vI 0), (2, vI ((xs (v3 + 2).toNat).toInt)), (3, vI ((xs (v3 + 3).toNat).toInt))] [] h4 (RI (fun r11 h10 => ((r5 = r11 → WP D ad ca sc M_LW_law 1026 [(0, .ref b), (1, .ref (ad 0)), (2, .ref (ad 28)), (3, vI v3)] [] h10 Q) ∧ (¬ r5 = r11 → Q (some (vI 0)) h10))))) ∧ (¬ ((xs (v3 + 1).toNat).toInt) = 0 → (0 ≤ (v3 + 2) ∧ (v3 + 2) < (L : Int)) ∧ (0 ≤ (v3 + 3) ∧ (v3 + 3) < (L : Int)) ∧ WP D ad ca none M_MO_message 0 [(0, .ref (ad 28)), (1, vI 1), (2, vI ((xs (v3 + 2).toNat).toInt)), (3, vI ((xs (v3 + 3).toNat).toInt))] [] h4 (RI (fun r16 h15 => ((r5 = r16 → WP D ad ca sc M_LW_law 1026 [(0, .ref b), (1, .ref (ad 0)), (2, .ref (ad 28)), (3, vI v3)] [] h15 Q) ∧ (¬ r5 = r16 → Q (some (vI 0)) h15))))))))) ∧ (¬ ((xs (v3 + 1).toNat).toInt) = 0 → (0 ≤ (v3 + 2) ∧ (v3 + 2) < (L : Int)) ∧ (0 ≤ (v3 + 3) ∧ (v3 + 3) < (L : Int)) ∧ WP D ad ca none M_MW_message 0 [(0, .ref (ad 0)), (1, vI 1), (2, vI ((xs (v3 + 2).toNat).toInt)), (3, vI ((xs (v3 + 3).toNat).toInt))] [] h (RI (fun r21 h20 => (0 ≤ (v3 + 1) ∧ (v3 + 1) < (L : Int)) ∧ ((((xs (v3 + 1).toNat).toInt) = 0 → (0 ≤ (v3 + 2) ∧ (v3 + 2) < (L : Int)) ∧ (0 ≤ (v3 + 3) ∧ (v3 + 3) < (L : Int)) ∧ WP D ad ca none M_MO_message 0 [(0, .ref (ad 28)), (1, vI 0), (2, vI ((xs (v3 + 2).toNat).toInt)), (3, vI ((xs (v3 + 3).toNat).toInt))] [] h20 (RI (fun r27 h26 => ((r21 = r27 → WP D ad ca sc M_LW_law 1026 [(0, .ref b), (1, .ref (ad 0)), (2, .ref (ad 28)), (3, vI v3)] [] h26 Q) ∧ (¬ r21 = r27 → Q (some (vI 0)) h26))))) ∧ (¬ ((xs (v3 + 1).toNat).toInt) = 0 → (0 ≤ (v3 + 2) ∧ (v3 + 2) < (L : Int)) ∧ (0 ≤ (v3 + 3) ∧ (v3 + 3) < (L : Int)) ∧ WP D ad ca none M_MO_message 0 [(0, .ref (ad 28)), (1, vI 1), (2, vI ((xs (v3 + 2).toNat).toInt)), (3, vI ((xs (v3 + 3).toNat).toInt))] [] h20 (RI (fun r32 h31 => ((r21 = r32 → WP D ad ca sc M_LW_law 1026 [(0, .ref b), (1, .ref (ad 0)), (2, .ref (ad 28)), (3, vI v3)] [] h31 Q) ∧ (¬ r21 = r32 → Q (some (vI 0)) h31))))))))))) : WP D ad ca sc M_LW_law 730 [(0, .ref b), (1, .ref (ad 0)), (2, .ref (ad 28)), (3, vI v3)] [] h Q := by
  refine P_aload_n 1 d_LW_law_730 rfl rfl ?_
  refine P_aload_n 0 d_LW_law_731 rfl rfl ?_
  refine P_iload_n 3 d_LW_law_732 rfl rfl ?_
  refine P_iconst d_LW_law_733 ?_
  refine P_iadd d_LW_law_734 ?_
  obtain ⟨b1, hF⟩ := hF
  refine P_sld hsc hL d_LW_law_735 b1 ?_
  refine P_if_eq 743 d_LW_law_736 (by decide) (inR_t32 _) (fun c => ?_) (fun c => ?_)
  · have hF := hF.1 c
    refine P_iconst d_LW_law_743 ?_
    refine P_aload_n 0 d_LW_law_744 rfl rfl ?_
    refine P_iload_n 3 d_LW_law_745 rfl rfl ?_
    refine P_iconst d_LW_law_746 ?_
    refine P_iadd d_LW_law_747 ?_
    obtain ⟨b2, hF⟩ := hF
    refine P_sld hsc hL d_LW_law_748 b2 ?_
    refine P_aload_n 0 d_LW_law_749 rfl rfl ?_
    refine P_iload_n 3 d_LW_law_750 rfl rfl ?_
    refine P_iconst d_LW_law_751 ?_
    refine P_iadd d_LW_law_752 ?_
    obtain ⟨b3, hF⟩ := hF
    refine P_sld hsc hL d_LW_law_753 b3 ?_
    refine V_MW_message tw_474 d_LW_law_754 (by decide) (Nat.le_of_ble_eq_true rfl) hF (fun r5 h4 i6 hF => ?_)
    refine P_aload_n 2 d_LW_law_757 rfl rfl ?_
    refine P_aload_n 0 d_LW_law_758 rfl rfl ?_
    refine P_iload_n 3 d_LW_law_759 rfl rfl ?_
    refine P_iconst d_LW_law_760 ?_
    refine P_iadd d_LW_law_761 ?_
    obtain ⟨b7, hF⟩ := hF
    refine P_sld hsc hL d_LW_law_762 b7 ?_
    refine P_if_eq 770 d_LW_law_763 (by decide) (inR_t32 _) (fun c => ?_) (fun c => ?_)
    · have hF := hF.1 c
      refine P_iconst d_LW_law_770 ?_
      refine P_aload_n 0 d_LW_law_771 rfl rfl ?_
      refine P_iload_n 3 d_LW_law_772 rfl rfl ?_
      refine P_iconst d_LW_law_773 ?_
      refine P_iadd d_LW_law_774 ?_
      obtain ⟨b8, hF⟩ := hF
      refine P_sld hsc hL d_LW_law_775 b8 ?_
      refine P_aload_n 0 d_LW_law_776 rfl rfl ?_
      refine P_iload_n 3 d_LW_law_777 rfl rfl ?_
      refine P_iconst d_LW_law_778 ?_
      refine P_iadd d_LW_law_779 ?_
      obtain ⟨b9, hF⟩ := hF
      refine P_sld hsc hL d_LW_law_780 b9 ?_
      refine V_MO_message tw_804 d_LW_law_781 (by decide) (Nat.le_of_ble_eq_true rfl) hF (fun r11 h10 i12 hF => ?_)
      refine P_icmp_eq 1026 d_LW_law_784 (by decide) i6 i12 (fun c => ?_) (fun c => ?_)
      · have hF := hF.1 c
        refine P_sub (lv' := [(0, .ref b), (1, .ref (ad 0)), (2, .ref (ad 28)), (3, vI v3)]) [0, 1, 2, 3] rfl ?_
        exact hF
      · have hF := hF.2 c
        refine P_iconst d_LW_law_787 ?_
        exact P_zret d_LW_law_788 rfl (Or.inl rfl) hF
    · have hF := hF.2 c
      refine P_iconst d_LW_law_766 ?_
      refine P_goto 771 d_LW_law_767 (by decide) ?_
      refine P_aload_n 0 d_LW_law_771 rfl rfl ?_
      refine P_iload_n 3 d_LW_law_772 rfl rfl ?_
      refine P_iconst d_LW_law_773 ?_
      refine P_iadd d_LW_law_774 ?_
      obtain ⟨b13, hF⟩ := hF
      refine P_sld hsc hL d_LW_law_775 b13 ?_
      refine P_aload_n 0 d_LW_law_776 rfl rfl ?_
      refine P_iload_n 3 d_LW_law_777 rfl rfl ?_
      refine P_iconst d_LW_law_778 ?_
      refine P_iadd d_LW_law_779 ?_
      obtain ⟨b14, hF⟩ := hF
      refine P_sld hsc hL d_LW_law_780 b14 ?_
      refine V_MO_message tw_804 d_LW_law_781 (by decide) (Nat.le_of_ble_eq_true rfl) hF (fun r16 h15 i17 hF => ?_)
      refine P_icmp_eq 1026 d_LW_law_784 (by decide) i6 i17 (fun c => ?_) (fun c => ?_)
      · have hF := hF.1 c
        refine P_sub (lv' := [(0, .ref b), (1, .ref (ad 0)), (2, .ref (ad 28)), (3, vI v3)]) [0, 1, 2, 3] rfl ?_
        exact hF
      · have hF := hF.2 c
        refine P_iconst d_LW_law_787 ?_
        exact P_zret d_LW_law_788 rfl (Or.inl rfl) hF
  · have hF := hF.2 c
    refine P_iconst d_LW_law_739 ?_
    refine P_goto 744 d_LW_law_740 (by decide) ?_
    refine P_aload_n 0 d_LW_law_744 rfl rfl ?_
    refine P_iload_n 3 d_LW_law_745 rfl rfl ?_
    refine P_iconst d_LW_law_746 ?_
    refine P_iadd d_LW_law_747 ?_
    obtain ⟨b18, hF⟩ := hF
    refine P_sld hsc hL d_LW_law_748 b18 ?_
    refine P_aload_n 0 d_LW_law_749 rfl rfl ?_
    refine P_iload_n 3 d_LW_law_750 rfl rfl ?_
    refine P_iconst d_LW_law_751 ?_
    refine P_iadd d_LW_law_752 ?_
    obtain ⟨b19, hF⟩ := hF
    refine P_sld hsc hL d_LW_law_753 b19 ?_
    refine V_MW_message tw_474 d_LW_law_754 (by decide) (Nat.le_of_ble_eq_true rfl) hF (fun r21 h20 i22 hF => ?_)
    refine P_aload_n 2 d_LW_law_757 rfl rfl ?_
    refine P_aload_n 0 d_LW_law_758 rfl rfl ?_
    refine P_iload_n 3 d_LW_law_759 rfl rfl ?_
    refine P_iconst d_LW_law_760 ?_
    refine P_iadd d_LW_law_761 ?_
    obtain ⟨b23, hF⟩ := hF
    refine P_sld hsc hL d_LW_law_762 b23 ?_
    refine P_if_eq 770 d_LW_law_763 (by decide) (inR_t32 _) (fun c => ?_) (fun c => ?_)
    · have hF := hF.1 c
      refine P_iconst d_LW_law_770 ?_
      refine P_aload_n 0 d_LW_law_771 rfl rfl ?_
      refine P_iload_n 3 d_LW_law_772 rfl rfl ?_
      refine P_iconst d_LW_law_773 ?_
      refine P_iadd d_LW_law_774 ?_
      obtain ⟨b24, hF⟩ := hF
      refine P_sld hsc hL d_LW_law_775 b24 ?_
      refine P_aload_n 0 d_LW_law_776 rfl rfl ?_
      refine P_iload_n 3 d_LW_law_777 rfl rfl ?_
      refine P_iconst d_LW_law_778 ?_
      refine P_iadd d_LW_law_779 ?_
      obtain ⟨b25, hF⟩ := hF
      refine P_sld hsc hL d_LW_law_780 b25 ?_
      refine V_MO_message tw_804 d_LW_law_781 (by decide) (Nat.le_of_ble_eq_true rfl) hF (fun r27 h26 i28 hF => ?_)
      refine P_icmp_eq 1026 d_LW_law_784 (by decide) i22 i28 (fun c => ?_) (fun c => ?_)
      · have hF := hF.1 c
        refine P_sub (lv' := [(0, .ref b), (1, .ref (ad 0)), (2, .ref (ad 28)), (3, vI v3)]) [0, 1, 2, 3] rfl ?_
        exact hF
      · have hF := hF.2 c
        refine P_iconst d_LW_law_787 ?_
        exact P_zret d_LW_law_788 rfl (Or.inl rfl) hF
    · have hF := hF.2 c
      refine P_iconst d_LW_law_766 ?_
      refine P_goto 771 d_LW_law_767 (by decide) ?_
      refine P_aload_n 0 d_LW_law_771 rfl rfl ?_
      refine P_iload_n 3 d_LW_law_772 rfl rfl ?_
      refine P_iconst d_LW_law_773 ?_
      refine P_iadd d_LW_law_774 ?_
      obtain ⟨b29, hF⟩ := hF
      refine P_sld hsc hL d_LW_law_775 b29 ?_
      refine P_aload_n 0 d_LW_law_776 rfl rfl ?_
      refine P_iload_n 3 d_LW_law_777 rfl rfl ?_
      refine P_iconst d_LW_law_778 ?_
      refine P_iadd d_LW_law_779 ?_
      obtain ⟨b30, hF⟩ := hF
      refine P_sld hsc hL d_LW_law_780 b30 ?_
      refine V_MO_message tw_804 d_LW_law_781 (by decide) (Nat.le_of_ble_eq_true rfl) hF (fun r32 h31 i33 hF => ?_)
      refine P_icmp_eq 1026 d_LW_law_784 (by decide) i22 i33 (fun c => ?_) (fun c => ?_)
      · have hF := hF.1 c
        refine P_sub (lv' := [(0, .ref b), (1, .ref (ad 0)), (2, .ref (ad 28)), (3, vI v3)]) [0, 1, 2, 3] rfl ?_
        exact hF
      · have hF := hF.2 c
        refine P_iconst d_LW_law_787 ?_
        exact P_zret d_LW_law_788 rfl (Or.inl rfl) hF
theorem F_LW_law_789 {b L : Nat} {xs : Nat → Int32} (hsc : sc = some (b, L, xs)) (hL : L ≤ 100000) (rL : InR (L : Int)) (v3 : Int) (g3 : InR v3) (hF : (0 ≤ (v3 + 1) ∧ (v3 + 1) < (L : Int)) ∧ WP D ad ca none M_MW_told 0 [(0, .ref (ad 0)), (1, vI ((xs (v3 + 1).toNat).toInt))] [] h (RI (fun r3 h2 => (0 ≤ (v3 + 1) ∧ (v3 + 1) < (L : Int)) ∧ WP D ad ca none M_MO_told 0 [(0, .ref (ad 28)), (1, vI ((xs (v3 + 1).toNat).toInt))] [] h2 (RI (fun r7 h6 => ((r3 = r7 → WP D ad ca sc M_LW_law 1026 [(0, .ref b), (1, .ref (ad 0)), (2, .ref (ad 28)), (3, vI v3)] [] h6 Q) ∧ (¬ r3 = r7 → Q (some (vI 0)) h6))))))) : WP D ad ca sc M_LW_law 789 [(0, .ref b), (1, .ref (ad 0)), (2, .ref (ad 28)), (3, vI v3)] [] h Q := by
  refine P_aload_n 1 d_LW_law_789 rfl rfl ?_
  refine P_aload_n 0 d_LW_law_790 rfl rfl ?_
  refine P_iload_n 3 d_LW_law_791 rfl rfl ?_
  refine P_iconst d_LW_law_792 ?_
  refine P_iadd d_LW_law_793 ?_
  obtain ⟨b1, hF⟩ := hF
  refine P_sld hsc hL d_LW_law_794 b1 ?_
  refine V_MW_told tw_483 d_LW_law_795 (by decide) (Nat.le_of_ble_eq_true rfl) hF (fun r3 h2 i4 hF => ?_)
  refine P_aload_n 2 d_LW_law_798 rfl rfl ?_
  refine P_aload_n 0 d_LW_law_799 rfl rfl ?_
  refine P_iload_n 3 d_LW_law_800 rfl rfl ?_
  refine P_iconst d_LW_law_801 ?_
  refine P_iadd d_LW_law_802 ?_
  obtain ⟨b5, hF⟩ := hF
  refine P_sld hsc hL d_LW_law_803 b5 ?_
  refine V_MO_told tw_808 d_LW_law_804 (by decide) (Nat.le_of_ble_eq_true rfl) hF (fun r7 h6 i8 hF => ?_)
  refine P_icmp_eq 1026 d_LW_law_807 (by decide) i4 i8 (fun c => ?_) (fun c => ?_)
  · have hF := hF.1 c
    refine P_sub (lv' := [(0, .ref b), (1, .ref (ad 0)), (2, .ref (ad 28)), (3, vI v3)]) [0, 1, 2, 3] rfl ?_
    exact hF
  · have hF := hF.2 c
    refine P_iconst d_LW_law_810 ?_
    exact P_zret d_LW_law_811 rfl (Or.inl rfl) hF
theorem F_LW_law_812 {b L : Nat} {xs : Nat → Int32} (hsc : sc = some (b, L, xs)) (hL : L ≤ 100000) (rL : InR (L : Int)) (v3 : Int) (g3 : InR v3) (hF : (0 ≤ (v3 + 1) ∧ (v3 + 1) < (L : Int)) ∧ (0 ≤ (v3 + 2) ∧ (v3 + 2) < (L : Int)) ∧ (0 ≤ (v3 + 3) ∧ (v3 + 3) < (L : Int)) ∧ WP D ad ca none M_MW_node 0 [(0, .ref (ad 0)), (1, vI ((xs (v3 + 1).toNat).toInt)), (2, vI ((xs (v3 + 2).toNat).toInt)), (3, vI ((xs (v3 + 3).toNat).toInt))] [] h (RI (fun r5 h4 => (0 ≤ (v3 + 1) ∧ (v3 + 1) < (L : Int)) ∧ (0 ≤ (v3 + 2) ∧ (v3 + 2) < (L : Int)) ∧ (0 ≤ (v3 + 3) ∧ (v3 + 3) < (L : Int)) ∧ WP D ad ca none M_MO_node 0 [(0, .ref (ad 28)), (1, vI ((xs (v3 + 1).toNat).toInt)), (2, vI ((xs (v3 + 2).toNat).toInt)), (3, vI ((xs (v3 + 3).toNat).toInt))] [] h4 (RI (fun r11 h10 => ((r5 = r11 → WP D ad ca sc M_LW_law 1026 [(0, .ref b), (1, .ref (ad 0)), (2, .ref (ad 28)), (3, vI v3)] [] h10 Q) ∧ (¬ r5 = r11 → Q (some (vI 0)) h10))))))) : WP D ad ca sc M_LW_law 812 [(0, .ref b), (1, .ref (ad 0)), (2, .ref (ad 28)), (3, vI v3)] [] h Q := by
  refine P_aload_n 1 d_LW_law_812 rfl rfl ?_
  refine P_aload_n 0 d_LW_law_813 rfl rfl ?_
  refine P_iload_n 3 d_LW_law_814 rfl rfl ?_
  refine P_iconst d_LW_law_815 ?_
  refine P_iadd d_LW_law_816 ?_
  obtain ⟨b1, hF⟩ := hF
  refine P_sld hsc hL d_LW_law_817 b1 ?_
  refine P_aload_n 0 d_LW_law_818 rfl rfl ?_
  refine P_iload_n 3 d_LW_law_819 rfl rfl ?_
  refine P_iconst d_LW_law_820 ?_
  refine P_iadd d_LW_law_821 ?_
  obtain ⟨b2, hF⟩ := hF
  refine P_sld hsc hL d_LW_law_822 b2 ?_
  refine P_aload_n 0 d_LW_law_823 rfl rfl ?_
  refine P_iload_n 3 d_LW_law_824 rfl rfl ?_
  refine P_iconst d_LW_law_825 ?_
  refine P_iadd d_LW_law_826 ?_
  obtain ⟨b3, hF⟩ := hF
  refine P_sld hsc hL d_LW_law_827 b3 ?_
  refine V_MW_node tw_487 d_LW_law_828 (by decide) (Nat.le_of_ble_eq_true rfl) hF (fun r5 h4 i6 hF => ?_)
  refine P_aload_n 2 d_LW_law_831 rfl rfl ?_
  refine P_aload_n 0 d_LW_law_832 rfl rfl ?_
  refine P_iload_n 3 d_LW_law_833 rfl rfl ?_
  refine P_iconst d_LW_law_834 ?_
  refine P_iadd d_LW_law_835 ?_
  obtain ⟨b7, hF⟩ := hF
  refine P_sld hsc hL d_LW_law_836 b7 ?_
  refine P_aload_n 0 d_LW_law_837 rfl rfl ?_
  refine P_iload_n 3 d_LW_law_838 rfl rfl ?_
  refine P_iconst d_LW_law_839 ?_
  refine P_iadd d_LW_law_840 ?_
  obtain ⟨b8, hF⟩ := hF
  refine P_sld hsc hL d_LW_law_841 b8 ?_
  refine P_aload_n 0 d_LW_law_842 rfl rfl ?_
  refine P_iload_n 3 d_LW_law_843 rfl rfl ?_
  refine P_iconst d_LW_law_844 ?_
  refine P_iadd d_LW_law_845 ?_
  obtain ⟨b9, hF⟩ := hF
  refine P_sld hsc hL d_LW_law_846 b9 ?_
  refine V_MO_node tw_812 d_LW_law_847 (by decide) (Nat.le_of_ble_eq_true rfl) hF (fun r11 h10 i12 hF => ?_)
  refine P_icmp_eq 1026 d_LW_law_850 (by decide) i6 i12 (fun c => ?_) (fun c => ?_)
  · have hF := hF.1 c
    refine P_sub (lv' := [(0, .ref b), (1, .ref (ad 0)), (2, .ref (ad 28)), (3, vI v3)]) [0, 1, 2, 3] rfl ?_
    exact hF
  · have hF := hF.2 c
    refine P_iconst d_LW_law_853 ?_
    exact P_zret d_LW_law_854 rfl (Or.inl rfl) hF
theorem F_LW_law_855 {b L : Nat} {xs : Nat → Int32} (hsc : sc = some (b, L, xs)) (hL : L ≤ 100000) (rL : InR (L : Int)) (v3 : Int) (g3 : InR v3) (hF : (0 ≤ (v3 + 1) ∧ (v3 + 1) < (L : Int)) ∧ (0 ≤ (v3 + 2) ∧ (v3 + 2) < (L : Int)) ∧ (0 ≤ (v3 + 3) ∧ (v3 + 3) < (L : Int)) ∧ WP D ad ca none M_MW_share 0 [(0, .ref (ad 0)), (1, vI ((xs (v3 + 1).toNat).toInt)), (2, vI ((xs (v3 + 2).toNat).toInt)), (3, vI ((xs (v3 + 3).toNat).toInt))] [] h (RI (fun r5 h4 => (0 ≤ (v3 + 1) ∧ (v3 + 1) < (L : Int)) ∧ (0 ≤ (v3 + 2) ∧ (v3 + 2) < (L : Int)) ∧ (0 ≤ (v3 + 3) ∧ (v3 + 3) < (L : Int)) ∧ WP D ad ca none M_MO_share 0 [(0, .ref (ad 28)), (1, vI ((xs (v3 + 1).toNat).toInt)), (2, vI ((xs (v3 + 2).toNat).toInt)), (3, vI ((xs (v3 + 3).toNat).toInt))] [] h4 (RI (fun r11 h10 => ((r5 = r11 → WP D ad ca sc M_LW_law 1026 [(0, .ref b), (1, .ref (ad 0)), (2, .ref (ad 28)), (3, vI v3)] [] h10 Q) ∧ (¬ r5 = r11 → Q (some (vI 0)) h10))))))) : WP D ad ca sc M_LW_law 855 [(0, .ref b), (1, .ref (ad 0)), (2, .ref (ad 28)), (3, vI v3)] [] h Q := by
  refine P_aload_n 1 d_LW_law_855 rfl rfl ?_
  refine P_aload_n 0 d_LW_law_856 rfl rfl ?_
  refine P_iload_n 3 d_LW_law_857 rfl rfl ?_
  refine P_iconst d_LW_law_858 ?_
  refine P_iadd d_LW_law_859 ?_
  obtain ⟨b1, hF⟩ := hF
  refine P_sld hsc hL d_LW_law_860 b1 ?_
  refine P_aload_n 0 d_LW_law_861 rfl rfl ?_
  refine P_iload_n 3 d_LW_law_862 rfl rfl ?_
  refine P_iconst d_LW_law_863 ?_
  refine P_iadd d_LW_law_864 ?_
  obtain ⟨b2, hF⟩ := hF
  refine P_sld hsc hL d_LW_law_865 b2 ?_
  refine P_aload_n 0 d_LW_law_866 rfl rfl ?_
  refine P_iload_n 3 d_LW_law_867 rfl rfl ?_
  refine P_iconst d_LW_law_868 ?_
  refine P_iadd d_LW_law_869 ?_
  obtain ⟨b3, hF⟩ := hF
  refine P_sld hsc hL d_LW_law_870 b3 ?_
  refine V_MW_share tw_506 d_LW_law_871 (by decide) (Nat.le_of_ble_eq_true rfl) hF (fun r5 h4 i6 hF => ?_)
  refine P_aload_n 2 d_LW_law_874 rfl rfl ?_
  refine P_aload_n 0 d_LW_law_875 rfl rfl ?_
  refine P_iload_n 3 d_LW_law_876 rfl rfl ?_
  refine P_iconst d_LW_law_877 ?_
  refine P_iadd d_LW_law_878 ?_
  obtain ⟨b7, hF⟩ := hF
  refine P_sld hsc hL d_LW_law_879 b7 ?_
  refine P_aload_n 0 d_LW_law_880 rfl rfl ?_
  refine P_iload_n 3 d_LW_law_881 rfl rfl ?_
  refine P_iconst d_LW_law_882 ?_
  refine P_iadd d_LW_law_883 ?_
  obtain ⟨b8, hF⟩ := hF
  refine P_sld hsc hL d_LW_law_884 b8 ?_
  refine P_aload_n 0 d_LW_law_885 rfl rfl ?_
  refine P_iload_n 3 d_LW_law_886 rfl rfl ?_
  refine P_iconst d_LW_law_887 ?_
  refine P_iadd d_LW_law_888 ?_
  obtain ⟨b9, hF⟩ := hF
  refine P_sld hsc hL d_LW_law_889 b9 ?_
  refine V_MO_share tw_831 d_LW_law_890 (by decide) (Nat.le_of_ble_eq_true rfl) hF (fun r11 h10 i12 hF => ?_)
  refine P_icmp_eq 1026 d_LW_law_893 (by decide) i6 i12 (fun c => ?_) (fun c => ?_)
  · have hF := hF.1 c
    refine P_sub (lv' := [(0, .ref b), (1, .ref (ad 0)), (2, .ref (ad 28)), (3, vI v3)]) [0, 1, 2, 3] rfl ?_
    exact hF
  · have hF := hF.2 c
    refine P_iconst d_LW_law_896 ?_
    exact P_zret d_LW_law_897 rfl (Or.inl rfl) hF
theorem F_LW_law_898 {b L : Nat} {xs : Nat → Int32} (hsc : sc = some (b, L, xs)) (hL : L ≤ 100000) (rL : InR (L : Int)) (v3 : Int) (g3 : InR v3) (hF : (0 ≤ (v3 + 1) ∧ (v3 + 1) < (L : Int)) ∧ (0 ≤ (v3 + 2) ∧ (v3 + 2) < (L : Int)) ∧ ((((xs (v3 + 2).toNat).toInt) = 0 → WP D ad ca none M_MW_fear 0 [(0, .ref (ad 0)), (1, vI ((xs (v3 + 1).toNat).toInt)), (2, vI 0)] [] h (RI (fun r4 h3 => (0 ≤ (v3 + 1) ∧ (v3 + 1) < (L : Int)) ∧ (0 ≤ (v3 + 2) ∧ (v3 + 2) < (L : Int)) ∧ ((((xs (v3 + 2).toNat).toInt) = 0 → WP D ad ca none M_MO_fear 0 [(0, .ref (ad 28)), (1, vI ((xs (v3 + 1).toNat).toInt)), (2, vI 0)] [] h3 (RI (fun r9 h8 => ((r4 = r9 → WP D ad ca sc M_LW_law 1026 [(0, .ref b), (1, .ref (ad 0)), (2, .ref (ad 28)), (3, vI v3)] [] h8 Q) ∧ (¬ r4 = r9 → Q (some (vI 0)) h8))))) ∧ (¬ ((xs (v3 + 2).toNat).toInt) = 0 → WP D ad ca none M_MO_fear 0 [(0, .ref (ad 28)), (1, vI ((xs (v3 + 1).toNat).toInt)), (2, vI 1)] [] h3 (RI (fun r12 h11 => ((r4 = r12 → WP D ad ca sc M_LW_law 1026 [(0, .ref b), (1, .ref (ad 0)), (2, .ref (ad 28)), (3, vI v3)] [] h11 Q) ∧ (¬ r4 = r12 → Q (some (vI 0)) h11))))))))) ∧ (¬ ((xs (v3 + 2).toNat).toInt) = 0 → WP D ad ca none M_MW_fear 0 [(0, .ref (ad 0)), (1, vI ((xs (v3 + 1).toNat).toInt)), (2, vI 1)] [] h (RI (fun r15 h14 => (0 ≤ (v3 + 1) ∧ (v3 + 1) < (L : Int)) ∧ (0 ≤ (v3 + 2) ∧ (v3 + 2) < (L : Int)) ∧ ((((xs (v3 + 2).toNat).toInt) = 0 → WP D ad ca none M_MO_fear 0 [(0, .ref (ad 28)), (1, vI ((xs (v3 + 1).toNat).toInt)), (2, vI 0)] [] h14 (RI (fun r20 h19 => ((r15 = r20 → WP D ad ca sc M_LW_law 1026 [(0, .ref b), (1, .ref (ad 0)), (2, .ref (ad 28)), (3, vI v3)] [] h19 Q) ∧ (¬ r15 = r20 → Q (some (vI 0)) h19))))) ∧ (¬ ((xs (v3 + 2).toNat).toInt) = 0 → WP D ad ca none M_MO_fear 0 [(0, .ref (ad 28)), (1, vI ((xs (v3 + 1).toNat).toInt)), (2, vI 1)] [] h14 (RI (fun r23 h22 => ((r15 = r23 → WP D ad ca sc M_LW_law 1026 [(0, .ref b), (1, .ref (ad 0)), (2, .ref (ad 28)), (3, vI v3)] [] h22 Q) ∧ (¬ r15 = r23 → Q (some (vI 0)) h22))))))))))) : WP D ad ca sc M_LW_law 898 [(0, .ref b), (1, .ref (ad 0)), (2, .ref (ad 28)), (3, vI v3)] [] h Q := by
  refine P_aload_n 1 d_LW_law_898 rfl rfl ?_
  refine P_aload_n 0 d_LW_law_899 rfl rfl ?_
  refine P_iload_n 3 d_LW_law_900 rfl rfl ?_
  refine P_iconst d_LW_law_901 ?_
  refine P_iadd d_LW_law_902 ?_
  obtain ⟨b1, hF⟩ := hF
  refine P_sld hsc hL d_LW_law_903 b1 ?_
  refine P_aload_n 0 d_LW_law_904 rfl rfl ?_
  refine P_iload_n 3 d_LW_law_905 rfl rfl ?_
  refine P_iconst d_LW_law_906 ?_
  refine P_iadd d_LW_law_907 ?_
  obtain ⟨b2, hF⟩ := hF
  refine P_sld hsc hL d_LW_law_908 b2 ?_
  refine P_if_eq 916 d_LW_law_909 (by decide) (inR_t32 _) (fun c => ?_) (fun c => ?_)
  · have hF := hF.1 c
    refine P_iconst d_LW_law_916 ?_
    refine V_MW_fear tw_510 d_LW_law_917 (by decide) (Nat.le_of_ble_eq_true rfl) hF (fun r4 h3 i5 hF => ?_)
    refine P_aload_n 2 d_LW_law_920 rfl rfl ?_
    refine P_aload_n 0 d_LW_law_921 rfl rfl ?_
    refine P_iload_n 3 d_LW_law_922 rfl rfl ?_
    refine P_iconst d_LW_law_923 ?_
    refine P_iadd d_LW_law_924 ?_
    obtain ⟨b6, hF⟩ := hF
    refine P_sld hsc hL d_LW_law_925 b6 ?_
    refine P_aload_n 0 d_LW_law_926 rfl rfl ?_
    refine P_iload_n 3 d_LW_law_927 rfl rfl ?_
    refine P_iconst d_LW_law_928 ?_
    refine P_iadd d_LW_law_929 ?_
    obtain ⟨b7, hF⟩ := hF
    refine P_sld hsc hL d_LW_law_930 b7 ?_
    refine P_if_eq 938 d_LW_law_931 (by decide) (inR_t32 _) (fun c => ?_) (fun c => ?_)
    · have hF := hF.1 c
      refine P_iconst d_LW_law_938 ?_
      refine V_MO_fear tw_835 d_LW_law_939 (by decide) (Nat.le_of_ble_eq_true rfl) hF (fun r9 h8 i10 hF => ?_)
      refine P_icmp_eq 1026 d_LW_law_942 (by decide) i5 i10 (fun c => ?_) (fun c => ?_)
      · have hF := hF.1 c
        refine P_sub (lv' := [(0, .ref b), (1, .ref (ad 0)), (2, .ref (ad 28)), (3, vI v3)]) [0, 1, 2, 3] rfl ?_
        exact hF
      · have hF := hF.2 c
        refine P_iconst d_LW_law_945 ?_
        exact P_zret d_LW_law_946 rfl (Or.inl rfl) hF
    · have hF := hF.2 c
      refine P_iconst d_LW_law_934 ?_
      refine P_goto 939 d_LW_law_935 (by decide) ?_
      refine V_MO_fear tw_835 d_LW_law_939 (by decide) (Nat.le_of_ble_eq_true rfl) hF (fun r12 h11 i13 hF => ?_)
      refine P_icmp_eq 1026 d_LW_law_942 (by decide) i5 i13 (fun c => ?_) (fun c => ?_)
      · have hF := hF.1 c
        refine P_sub (lv' := [(0, .ref b), (1, .ref (ad 0)), (2, .ref (ad 28)), (3, vI v3)]) [0, 1, 2, 3] rfl ?_
        exact hF
      · have hF := hF.2 c
        refine P_iconst d_LW_law_945 ?_
        exact P_zret d_LW_law_946 rfl (Or.inl rfl) hF
  · have hF := hF.2 c
    refine P_iconst d_LW_law_912 ?_
    refine P_goto 917 d_LW_law_913 (by decide) ?_
    refine V_MW_fear tw_510 d_LW_law_917 (by decide) (Nat.le_of_ble_eq_true rfl) hF (fun r15 h14 i16 hF => ?_)
    refine P_aload_n 2 d_LW_law_920 rfl rfl ?_
    refine P_aload_n 0 d_LW_law_921 rfl rfl ?_
    refine P_iload_n 3 d_LW_law_922 rfl rfl ?_
    refine P_iconst d_LW_law_923 ?_
    refine P_iadd d_LW_law_924 ?_
    obtain ⟨b17, hF⟩ := hF
    refine P_sld hsc hL d_LW_law_925 b17 ?_
    refine P_aload_n 0 d_LW_law_926 rfl rfl ?_
    refine P_iload_n 3 d_LW_law_927 rfl rfl ?_
    refine P_iconst d_LW_law_928 ?_
    refine P_iadd d_LW_law_929 ?_
    obtain ⟨b18, hF⟩ := hF
    refine P_sld hsc hL d_LW_law_930 b18 ?_
    refine P_if_eq 938 d_LW_law_931 (by decide) (inR_t32 _) (fun c => ?_) (fun c => ?_)
    · have hF := hF.1 c
      refine P_iconst d_LW_law_938 ?_
      refine V_MO_fear tw_835 d_LW_law_939 (by decide) (Nat.le_of_ble_eq_true rfl) hF (fun r20 h19 i21 hF => ?_)
      refine P_icmp_eq 1026 d_LW_law_942 (by decide) i16 i21 (fun c => ?_) (fun c => ?_)
      · have hF := hF.1 c
        refine P_sub (lv' := [(0, .ref b), (1, .ref (ad 0)), (2, .ref (ad 28)), (3, vI v3)]) [0, 1, 2, 3] rfl ?_
        exact hF
      · have hF := hF.2 c
        refine P_iconst d_LW_law_945 ?_
        exact P_zret d_LW_law_946 rfl (Or.inl rfl) hF
    · have hF := hF.2 c
      refine P_iconst d_LW_law_934 ?_
      refine P_goto 939 d_LW_law_935 (by decide) ?_
      refine V_MO_fear tw_835 d_LW_law_939 (by decide) (Nat.le_of_ble_eq_true rfl) hF (fun r23 h22 i24 hF => ?_)
      refine P_icmp_eq 1026 d_LW_law_942 (by decide) i16 i24 (fun c => ?_) (fun c => ?_)
      · have hF := hF.1 c
        refine P_sub (lv' := [(0, .ref b), (1, .ref (ad 0)), (2, .ref (ad 28)), (3, vI v3)]) [0, 1, 2, 3] rfl ?_
        exact hF
      · have hF := hF.2 c
        refine P_iconst d_LW_law_945 ?_
        exact P_zret d_LW_law_946 rfl (Or.inl rfl) hF
theorem F_LW_law_947 {b L : Nat} {xs : Nat → Int32} (hsc : sc = some (b, L, xs)) (hL : L ≤ 100000) (rL : InR (L : Int)) (v3 : Int) (g3 : InR v3) (hF : WP D ad ca none M_MW_sound 0 [(0, .ref (ad 0))] [] h (RI (fun r2 h1 => WP D ad ca none M_MO_sound 0 [(0, .ref (ad 28))] [] h1 (RI (fun r5 h4 => ((r2 = r5 → WP D ad ca sc M_LW_law 1026 [(0, .ref b), (1, .ref (ad 0)), (2, .ref (ad 28)), (3, vI v3)] [] h4 Q) ∧ (¬ r2 = r5 → Q (some (vI 0)) h4))))))) : WP D ad ca sc M_LW_law 947 [(0, .ref b), (1, .ref (ad 0)), (2, .ref (ad 28)), (3, vI v3)] [] h Q := by
  refine P_aload_n 1 d_LW_law_947 rfl rfl ?_
  refine V_MW_sound tw_514 d_LW_law_948 (by decide) (Nat.le_of_ble_eq_true rfl) hF (fun r2 h1 i3 hF => ?_)
  refine P_aload_n 2 d_LW_law_951 rfl rfl ?_
  refine V_MO_sound tw_839 d_LW_law_952 (by decide) (Nat.le_of_ble_eq_true rfl) hF (fun r5 h4 i6 hF => ?_)
  refine P_icmp_eq 1026 d_LW_law_955 (by decide) i3 i6 (fun c => ?_) (fun c => ?_)
  · have hF := hF.1 c
    refine P_sub (lv' := [(0, .ref b), (1, .ref (ad 0)), (2, .ref (ad 28)), (3, vI v3)]) [0, 1, 2, 3] rfl ?_
    exact hF
  · have hF := hF.2 c
    refine P_iconst d_LW_law_958 ?_
    exact P_zret d_LW_law_959 rfl (Or.inl rfl) hF
theorem F_LW_law_960 {b L : Nat} {xs : Nat → Int32} (hsc : sc = some (b, L, xs)) (hL : L ≤ 100000) (rL : InR (L : Int)) (v3 : Int) (g3 : InR v3) (hF : (0 ≤ (v3 + 1) ∧ (v3 + 1) < (L : Int)) ∧ (0 ≤ (v3 + 2) ∧ (v3 + 2) < (L : Int)) ∧ WP D ad ca none M_MW_chance 0 [(0, .ref (ad 0)), (1, vI ((xs (v3 + 1).toNat).toInt)), (2, vI ((xs (v3 + 2).toNat).toInt))] [] h (RI (fun r4 h3 => (0 ≤ (v3 + 1) ∧ (v3 + 1) < (L : Int)) ∧ (0 ≤ (v3 + 2) ∧ (v3 + 2) < (L : Int)) ∧ WP D ad ca none M_MO_chance 0 [(0, .ref (ad 28)), (1, vI ((xs (v3 + 1).toNat).toInt)), (2, vI ((xs (v3 + 2).toNat).toInt))] [] h3 (RI (fun r9 h8 => ((r4 = r9 → WP D ad ca sc M_LW_law 1026 [(0, .ref b), (1, .ref (ad 0)), (2, .ref (ad 28)), (3, vI v3)] [] h8 Q) ∧ (¬ r4 = r9 → Q (some (vI 0)) h8))))))) : WP D ad ca sc M_LW_law 960 [(0, .ref b), (1, .ref (ad 0)), (2, .ref (ad 28)), (3, vI v3)] [] h Q := by
  refine P_aload_n 1 d_LW_law_960 rfl rfl ?_
  refine P_aload_n 0 d_LW_law_961 rfl rfl ?_
  refine P_iload_n 3 d_LW_law_962 rfl rfl ?_
  refine P_iconst d_LW_law_963 ?_
  refine P_iadd d_LW_law_964 ?_
  obtain ⟨b1, hF⟩ := hF
  refine P_sld hsc hL d_LW_law_965 b1 ?_
  refine P_aload_n 0 d_LW_law_966 rfl rfl ?_
  refine P_iload_n 3 d_LW_law_967 rfl rfl ?_
  refine P_iconst d_LW_law_968 ?_
  refine P_iadd d_LW_law_969 ?_
  obtain ⟨b2, hF⟩ := hF
  refine P_sld hsc hL d_LW_law_970 b2 ?_
  refine V_MW_chance tw_526 d_LW_law_971 (by decide) (Nat.le_of_ble_eq_true rfl) hF (fun r4 h3 i5 hF => ?_)
  refine P_aload_n 2 d_LW_law_974 rfl rfl ?_
  refine P_aload_n 0 d_LW_law_975 rfl rfl ?_
  refine P_iload_n 3 d_LW_law_976 rfl rfl ?_
  refine P_iconst d_LW_law_977 ?_
  refine P_iadd d_LW_law_978 ?_
  obtain ⟨b6, hF⟩ := hF
  refine P_sld hsc hL d_LW_law_979 b6 ?_
  refine P_aload_n 0 d_LW_law_980 rfl rfl ?_
  refine P_iload_n 3 d_LW_law_981 rfl rfl ?_
  refine P_iconst d_LW_law_982 ?_
  refine P_iadd d_LW_law_983 ?_
  obtain ⟨b7, hF⟩ := hF
  refine P_sld hsc hL d_LW_law_984 b7 ?_
  refine V_MO_chance tw_851 d_LW_law_985 (by decide) (Nat.le_of_ble_eq_true rfl) hF (fun r9 h8 i10 hF => ?_)
  refine P_icmp_eq 1026 d_LW_law_988 (by decide) i5 i10 (fun c => ?_) (fun c => ?_)
  · have hF := hF.1 c
    refine P_sub (lv' := [(0, .ref b), (1, .ref (ad 0)), (2, .ref (ad 28)), (3, vI v3)]) [0, 1, 2, 3] rfl ?_
    exact hF
  · have hF := hF.2 c
    refine P_iconst d_LW_law_991 ?_
    exact P_zret d_LW_law_992 rfl (Or.inl rfl) hF
theorem F_LW_law_993 {b L : Nat} {xs : Nat → Int32} (hsc : sc = some (b, L, xs)) (hL : L ≤ 100000) (rL : InR (L : Int)) (v3 : Int) (g3 : InR v3) (hF : (0 ≤ (v3 + 1) ∧ (v3 + 1) < (L : Int)) ∧ (0 ≤ (v3 + 2) ∧ (v3 + 2) < (L : Int)) ∧ WP D ad ca none M_MW_ofNode 0 [(0, .ref (ad 0)), (1, vI ((xs (v3 + 1).toNat).toInt)), (2, vI ((xs (v3 + 2).toNat).toInt))] [] h (RI (fun r4 h3 => (0 ≤ (v3 + 1) ∧ (v3 + 1) < (L : Int)) ∧ (0 ≤ (v3 + 2) ∧ (v3 + 2) < (L : Int)) ∧ WP D ad ca none M_MO_ofNode 0 [(0, .ref (ad 28)), (1, vI ((xs (v3 + 1).toNat).toInt)), (2, vI ((xs (v3 + 2).toNat).toInt))] [] h3 (RI (fun r9 h8 => ((r4 = r9 → WP D ad ca sc M_LW_law 1026 [(0, .ref b), (1, .ref (ad 0)), (2, .ref (ad 28)), (3, vI v3)] [] h8 Q) ∧ (¬ r4 = r9 → Q (some (vI 0)) h8))))))) : WP D ad ca sc M_LW_law 993 [(0, .ref b), (1, .ref (ad 0)), (2, .ref (ad 28)), (3, vI v3)] [] h Q := by
  refine P_aload_n 1 d_LW_law_993 rfl rfl ?_
  refine P_aload_n 0 d_LW_law_994 rfl rfl ?_
  refine P_iload_n 3 d_LW_law_995 rfl rfl ?_
  refine P_iconst d_LW_law_996 ?_
  refine P_iadd d_LW_law_997 ?_
  obtain ⟨b1, hF⟩ := hF
  refine P_sld hsc hL d_LW_law_998 b1 ?_
  refine P_aload_n 0 d_LW_law_999 rfl rfl ?_
  refine P_iload_n 3 d_LW_law_1000 rfl rfl ?_
  refine P_iconst d_LW_law_1001 ?_
  refine P_iadd d_LW_law_1002 ?_
  obtain ⟨b2, hF⟩ := hF
  refine P_sld hsc hL d_LW_law_1003 b2 ?_
  refine V_MW_ofNode tw_548 d_LW_law_1004 (by decide) (Nat.le_of_ble_eq_true rfl) hF (fun r4 h3 i5 hF => ?_)
  refine P_aload_n 2 d_LW_law_1007 rfl rfl ?_
  refine P_aload_n 0 d_LW_law_1008 rfl rfl ?_
  refine P_iload_n 3 d_LW_law_1009 rfl rfl ?_
  refine P_iconst d_LW_law_1010 ?_
  refine P_iadd d_LW_law_1011 ?_
  obtain ⟨b6, hF⟩ := hF
  refine P_sld hsc hL d_LW_law_1012 b6 ?_
  refine P_aload_n 0 d_LW_law_1013 rfl rfl ?_
  refine P_iload_n 3 d_LW_law_1014 rfl rfl ?_
  refine P_iconst d_LW_law_1015 ?_
  refine P_iadd d_LW_law_1016 ?_
  obtain ⟨b7, hF⟩ := hF
  refine P_sld hsc hL d_LW_law_1017 b7 ?_
  refine V_MO_ofNode tw_860 d_LW_law_1018 (by decide) (Nat.le_of_ble_eq_true rfl) hF (fun r9 h8 i10 hF => ?_)
  refine P_icmp_eq 1026 d_LW_law_1021 (by decide) i5 i10 (fun c => ?_) (fun c => ?_)
  · have hF := hF.1 c
    refine P_sub (lv' := [(0, .ref b), (1, .ref (ad 0)), (2, .ref (ad 28)), (3, vI v3)]) [0, 1, 2, 3] rfl ?_
    exact hF
  · have hF := hF.2 c
    refine P_iconst d_LW_law_1024 ?_
    exact P_zret d_LW_law_1025 rfl (Or.inl rfl) hF
theorem F_LW_law_1026 {b L : Nat} {xs : Nat → Int32} (hsc : sc = some (b, L, xs)) (hL : L ≤ 100000) (rL : InR (L : Int)) (v3 : Int) (g3 : InR v3) (hF : WP D ad ca sc M_LW_law 18 [(0, .ref b), (1, .ref (ad 0)), (2, .ref (ad 28)), (3, vI (v3 + 5))] [] h Q) : WP D ad ca sc M_LW_law 1026 [(0, .ref b), (1, .ref (ad 0)), (2, .ref (ad 28)), (3, vI v3)] [] h Q := by
  refine P_iinc (lv' := [(0, .ref b), (1, .ref (ad 0)), (2, .ref (ad 28)), (3, vI (v3 + 5))]) 3 [1, 2, 3, 0] d_LW_law_1026 rfl (by decide) rfl ?_
  refine P_goto 18 d_LW_law_1029 (by decide) ?_
  refine P_sub (lv' := [(0, .ref b), (1, .ref (ad 0)), (2, .ref (ad 28)), (3, vI (v3 + 5))]) [0, 1, 2, 3] rfl ?_
  exact hF
end SFL
