/-! the law's loop -/
section LWL
variable {D : va_G} {ad : Nat → Nat} {ca : Nat → ClassId} {sc : SC} {h : Hp} {Q : Option Value → Hp → Prop} {N : Int}
theorem lawstep {Mx Mm : MI} {lx lm : List (Nat × Value)} {G B : Hp → Prop} {K : Int → Hp → Prop} (pa : WP D ad ca none Mx 0 lx [] h (RI (fun r h1 => WP D ad ca none Mm 0 lm [] h1 (RI (SameA N r))))) (hk : ∀ r h1, WP D ad ca none Mm 0 lm [] h1 (RI (fun r2 h2 => (r = r2 → G h2) ∧ (¬ r = r2 → B h2))) → K r h1) (hG : ∀ h2, Inv (N + 1) h2 → G h2) : WP D ad ca none Mx 0 lx [] h (RI K) := by
  refine WP.mono (fun v h1 q => ?_) pa
  obtain ⟨r, e, hr, w⟩ := q
  refine ⟨r, e, hr, hk r h1 (WP.mono (fun v2 h2 q2 => ?_) w)⟩
  obtain ⟨r2, e2, hr2, s1, s2⟩ := q2
  exact ⟨r2, e2, hr2, fun _ => hG h2 s2, fun z => absurd s1 z⟩
theorem law_loop {b L : Nat} {xs : Nat → Int32} (hsc : sc = some (b, L, xs)) (hL : L ≤ 2560) (kq : ∀ h', Q (some (vI 1)) h') : ∀ (m : Nat) (i N : Int) (h : Hp), Inv N h → 0 ≤ N → i ≤ 2560 → i = 5 * N → (L : Int) < i + 5 * m + 5 →
    WP D ad ca sc M_LW_law 18 [(0, .ref b), (1, .ref (ad 0)), (2, .ref (ad 28)), (3, vI i)] [] h Q := by
  have hL2 : L ≤ 100000 := by omega
  have rL : InR (L : Int) := by omega
  intro m
  induction m with
  | zero =>
    intro i N h I hN0 hb hi hm
    exact F_LW_law_18 hsc hL2 rL i (by omega) ⟨by omega, fun _ => kq h, fun z => absurd z (by omega)⟩
  | succ m ih =>
    intro i N h I hN0 hb hi hm
    by_cases q : (L : Int) - 5 < i
    · exact F_LW_law_18 hsc hL2 rL i (by omega) ⟨by omega, fun _ => kq h, fun z => absurd z (by omega)⟩
    have hN : 0 ≤ N ∧ N ≤ 100000 := by omega
    have gi : InR i := by omega
    have nx : ∀ h2, Inv (N + 1) h2 → WP D ad ca sc M_LW_law 1026 [(0, .ref b), (1, .ref (ad 0)), (2, .ref (ad 28)), (3, vI i)] [] h2 Q := fun h2 I2 => F_LW_law_1026 hsc hL2 rL i gi (ih (i + 5) (N + 1) h2 I2 (by omega) (by omega) (by omega) (by omega))
    have c0 : WP D ad ca sc M_LW_law 160 [(0, .ref b), (1, .ref (ad 0)), (2, .ref (ad 28)), (3, vI i)] [] h Q := F_LW_law_160 hsc hL2 rL i gi ⟨by omega, by omega, lawstep (pa_shake (inL_t64 _) I) (fun r h1 w => ⟨by omega, by omega, w⟩) nx⟩
    have c1 : WP D ad ca sc M_LW_law 213 [(0, .ref b), (1, .ref (ad 0)), (2, .ref (ad 28)), (3, vI i)] [] h Q := F_LW_law_213 hsc hL2 rL i gi ⟨by omega, by omega, lawstep (pa_about (inR_t32 _) (inR_t32 _) I) (fun r h1 w => ⟨by omega, by omega, w⟩) nx⟩
    have c2 : WP D ad ca sc M_LW_law 246 [(0, .ref b), (1, .ref (ad 0)), (2, .ref (ad 28)), (3, vI i)] [] h Q := F_LW_law_246 hsc hL2 rL i gi ⟨by omega, by omega, lawstep (pa_alike (inR_t32 _) (inR_t32 _) I) (fun r h1 w => ⟨by omega, by omega, w⟩) nx⟩
    have c3 : WP D ad ca sc M_LW_law 279 [(0, .ref b), (1, .ref (ad 0)), (2, .ref (ad 28)), (3, vI i)] [] h Q := F_LW_law_279 hsc hL2 rL i gi ⟨by omega, lawstep (pa_likeness (inR_t32 _) I) (fun r h1 w => ⟨by omega, w⟩) nx⟩
    have c4 : WP D ad ca sc M_LW_law 302 [(0, .ref b), (1, .ref (ad 0)), (2, .ref (ad 28)), (3, vI i)] [] h Q := F_LW_law_302 hsc hL2 rL i gi ⟨by omega, lawstep (pa_family (inR_t32 _) I) (fun r h1 w => ⟨by omega, w⟩) nx⟩
    have c5 : WP D ad ca sc M_LW_law 325 [(0, .ref b), (1, .ref (ad 0)), (2, .ref (ad 28)), (3, vI i)] [] h Q := F_LW_law_325 hsc hL2 rL i gi ⟨by omega, lawstep (pa_kin (inR_t32 _) I) (fun r h1 w => ⟨by omega, w⟩) nx⟩
    have c6 : WP D ad ca sc M_LW_law 348 [(0, .ref b), (1, .ref (ad 0)), (2, .ref (ad 28)), (3, vI i)] [] h Q := F_LW_law_348 hsc hL2 rL i gi ⟨by omega, lawstep (pa_tilt (inR_t32 _) I) (fun r h1 w => ⟨by omega, w⟩) nx⟩
    have c7 : WP D ad ca sc M_LW_law 371 [(0, .ref b), (1, .ref (ad 0)), (2, .ref (ad 28)), (3, vI i)] [] h Q := F_LW_law_371 hsc hL2 rL i gi ⟨by omega, lawstep (pa_gas (inR_t32 _) I) (fun r h1 w => ⟨by omega, w⟩) nx⟩
    have c8 : WP D ad ca sc M_LW_law 394 [(0, .ref b), (1, .ref (ad 0)), (2, .ref (ad 28)), (3, vI i)] [] h Q := F_LW_law_394 hsc hL2 rL i gi ⟨by omega, lawstep (pa_tiltAt (inR_t32 _) I) (fun r h1 w => ⟨by omega, w⟩) nx⟩
    have c9 : WP D ad ca sc M_LW_law 417 [(0, .ref b), (1, .ref (ad 0)), (2, .ref (ad 28)), (3, vI i)] [] h Q := F_LW_law_417 hsc hL2 rL i gi ⟨by omega, lawstep (pa_gasOf (inR_t32 _) I) (fun r h1 w => ⟨by omega, w⟩) nx⟩
    have c10 : WP D ad ca sc M_LW_law 440 [(0, .ref b), (1, .ref (ad 0)), (2, .ref (ad 28)), (3, vI i)] [] h Q := F_LW_law_440 hsc hL2 rL i gi ⟨by omega, by omega, by omega, by omega, lawstep (pa_law (inR_t32 _) (inR_t32 _) (inR_t32 _) (inR_t32 _) I) (fun r h1 w => ⟨by omega, by omega, by omega, by omega, w⟩) nx⟩
    have c11 : WP D ad ca sc M_LW_law 493 [(0, .ref b), (1, .ref (ad 0)), (2, .ref (ad 28)), (3, vI i)] [] h Q := F_LW_law_493 hsc hL2 rL i gi ⟨by omega, by omega, by omega, lawstep (pa_change (inR_t32 _) (inR_t32 _) (inR_t32 _) I) (fun r h1 w => ⟨by omega, by omega, by omega, w⟩) nx⟩
    have c12 : WP D ad ca sc M_LW_law 536 [(0, .ref b), (1, .ref (ad 0)), (2, .ref (ad 28)), (3, vI i)] [] h Q := F_LW_law_536 hsc hL2 rL i gi ⟨by omega, by omega, lawstep (pa_measure (inR_t32 _) (inR_t32 _) I) (fun r h1 w => ⟨by omega, by omega, w⟩) nx⟩
    have c13 : WP D ad ca sc M_LW_law 569 [(0, .ref b), (1, .ref (ad 0)), (2, .ref (ad 28)), (3, vI i)] [] h Q := F_LW_law_569 hsc hL2 rL i gi ⟨by omega, by omega, lawstep (pa_isTrue (inR_t32 _) (inR_t32 _) I) (fun r h1 w => ⟨by omega, by omega, w⟩) nx⟩
    have c14 : WP D ad ca sc M_LW_law 602 [(0, .ref b), (1, .ref (ad 0)), (2, .ref (ad 28)), (3, vI i)] [] h Q := F_LW_law_602 hsc hL2 rL i gi ⟨by omega, lawstep (pa_rest (inR_t32 _) I) (fun r h1 w => ⟨by omega, w⟩) nx⟩
    have c15 : WP D ad ca sc M_LW_law 625 [(0, .ref b), (1, .ref (ad 0)), (2, .ref (ad 28)), (3, vI i)] [] h Q := F_LW_law_625 hsc hL2 rL i gi (lawstep (pa_next  hN I) (fun r h1 w => w) nx)
    have c16 : WP D ad ca sc M_LW_law 638 [(0, .ref b), (1, .ref (ad 0)), (2, .ref (ad 28)), (3, vI i)] [] h Q := F_LW_law_638 hsc hL2 rL i gi ⟨by omega, by omega, lawstep (pa_hold (inR_t32 _) (inR_t32 _) I) (fun r h1 w => ⟨by omega, by omega, w⟩) nx⟩
    have c17 : WP D ad ca sc M_LW_law 671 [(0, .ref b), (1, .ref (ad 0)), (2, .ref (ad 28)), (3, vI i)] [] h Q := F_LW_law_671 hsc hL2 rL i gi (lawstep (pa_release  I) (fun r h1 w => w) nx)
    have c18 : WP D ad ca sc M_LW_law 684 [(0, .ref b), (1, .ref (ad 0)), (2, .ref (ad 28)), (3, vI i)] [] h Q := F_LW_law_684 hsc hL2 rL i gi ⟨by omega, lawstep (pa_word (inR_t32 _) hN I) (fun r h1 w => ⟨by omega, w⟩) nx⟩
    have c19 : WP D ad ca sc M_LW_law 707 [(0, .ref b), (1, .ref (ad 0)), (2, .ref (ad 28)), (3, vI i)] [] h Q := F_LW_law_707 hsc hL2 rL i gi ⟨by omega, lawstep (pa_drill (inR_t32 _) hN I) (fun r h1 w => ⟨by omega, w⟩) nx⟩
    have c20 : WP D ad ca sc M_LW_law 730 [(0, .ref b), (1, .ref (ad 0)), (2, .ref (ad 28)), (3, vI i)] [] h Q := F_LW_law_730 hsc hL2 rL i gi ⟨by omega, fun e => ⟨by omega, by omega, lawstep (pa_message (Or.inl rfl) (inR_t32 _) (inR_t32 _) I) (fun r h1 w => ⟨by omega, fun _ => ⟨by omega, by omega, w⟩, fun z => absurd e z⟩) nx⟩, fun e => ⟨by omega, by omega, lawstep (pa_message (Or.inr rfl) (inR_t32 _) (inR_t32 _) I) (fun r h1 w => ⟨by omega, fun z => absurd z e, fun _ => ⟨by omega, by omega, w⟩⟩) nx⟩⟩
    have c21 : WP D ad ca sc M_LW_law 789 [(0, .ref b), (1, .ref (ad 0)), (2, .ref (ad 28)), (3, vI i)] [] h Q := F_LW_law_789 hsc hL2 rL i gi ⟨by omega, lawstep (pa_told (inR_t32 _) hN I) (fun r h1 w => ⟨by omega, w⟩) nx⟩
    have c22 : WP D ad ca sc M_LW_law 812 [(0, .ref b), (1, .ref (ad 0)), (2, .ref (ad 28)), (3, vI i)] [] h Q := F_LW_law_812 hsc hL2 rL i gi ⟨by omega, by omega, by omega, lawstep (pa_node (inR_t32 _) (inR_t32 _) (inR_t32 _) I) (fun r h1 w => ⟨by omega, by omega, by omega, w⟩) nx⟩
    have c23 : WP D ad ca sc M_LW_law 855 [(0, .ref b), (1, .ref (ad 0)), (2, .ref (ad 28)), (3, vI i)] [] h Q := F_LW_law_855 hsc hL2 rL i gi ⟨by omega, by omega, by omega, lawstep (pa_share (inR_t32 _) (inR_t32 _) (inR_t32 _) I) (fun r h1 w => ⟨by omega, by omega, by omega, w⟩) nx⟩
    have c24 : WP D ad ca sc M_LW_law 898 [(0, .ref b), (1, .ref (ad 0)), (2, .ref (ad 28)), (3, vI i)] [] h Q := F_LW_law_898 hsc hL2 rL i gi ⟨by omega, by omega, fun e => lawstep (pa_fear (inR_t32 _) (Or.inl rfl) I) (fun r h1 w => ⟨by omega, by omega, fun _ => w, fun z => absurd e z⟩) nx, fun e => lawstep (pa_fear (inR_t32 _) (Or.inr rfl) I) (fun r h1 w => ⟨by omega, by omega, fun z => absurd z e, fun _ => w⟩) nx⟩
    have c25 : WP D ad ca sc M_LW_law 947 [(0, .ref b), (1, .ref (ad 0)), (2, .ref (ad 28)), (3, vI i)] [] h Q := F_LW_law_947 hsc hL2 rL i gi (lawstep (pa_sound  I) (fun r h1 w => w) nx)
    have c26 : WP D ad ca sc M_LW_law 960 [(0, .ref b), (1, .ref (ad 0)), (2, .ref (ad 28)), (3, vI i)] [] h Q := F_LW_law_960 hsc hL2 rL i gi ⟨by omega, by omega, lawstep (pa_chance (inR_t32 _) (inR_t32 _) I) (fun r h1 w => ⟨by omega, by omega, w⟩) nx⟩
    have c27 : WP D ad ca sc M_LW_law 993 [(0, .ref b), (1, .ref (ad 0)), (2, .ref (ad 28)), (3, vI i)] [] h Q := F_LW_law_993 hsc hL2 rL i gi ⟨by omega, by omega, lawstep (pa_ofNode (inR_t32 _) (inR_t32 _) I) (fun r h1 w => ⟨by omega, by omega, w⟩) nx⟩
    exact F_LW_law_18 hsc hL2 rL i gi ⟨by omega, fun z => absurd z q, fun _ => ⟨by omega, fun _ => c0, fun _ => c1, fun _ => c2, fun _ => c3, fun _ => c4, fun _ => c5, fun _ => c6, fun _ => c7, fun _ => c8, fun _ => c9, fun _ => c10, fun _ => c11, fun _ => c12, fun _ => c13, fun _ => c14, fun _ => c15, fun _ => c16, fun _ => c17, fun _ => c18, fun _ => c19, fun _ => c20, fun _ => c21, fun _ => c22, fun _ => c23, fun _ => c24, fun _ => c25, fun _ => c26, fun _ => c27, fun _ => nx h I.step⟩⟩
end LWL
