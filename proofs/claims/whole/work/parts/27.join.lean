/-! families: the class's joining -/
def mgv (f : Int → Int) (a b i : Int) : Int := if f i = a ∨ f i = b then min a b else f i
section JO
variable {D : va_G} {ad : Nat → Nat} {ca : Nat → ClassId} {sc : SC} {h : Hp} {Q : Option Value → Hp → Prop} {n : Int}
theorem sp_merge_loop {a b v : Int} {f : Int → Int} (ga : InR a) (gb : InR b) (hv : 0 ≤ v ∧ v < 80) (k : ∀ g, (∀ i, 0 ≤ i → i ≤ v → g i = mgv f a b i) → Q none (sw h 5 g)) :
    ∀ (m : Nat) (w : Int) (g : Int → Int), 0 ≤ w → w + m = v + 1 → (∀ i, 0 ≤ i → i < w → g i = mgv f a b i) → (∀ i, w ≤ i → i ≤ v → g i = f i) →
      WP D ad ca sc M_SH_mergeFamilies 10 [(0, .ref (ad 1)), (1, vI a), (2, vI b), (3, vI v), (4, vI (min a b)), (5, vI w)] [] (sw h 5 g) Q := by
  intro m
  induction m with
  | zero =>
    intro w g h0 hm h1 h2
    exact F_SH_mergeFamilies_10 a b v _ w ga gb (by omega) (by omega) (by omega) ⟨fun c => k g (fun i i0 i1 => h1 i i0 (by omega)), fun c => absurd c (by omega)⟩
  | succ m ih =>
    intro w g h0 hm h1 h2
    have e := h2 w (by omega) (by omega)
    have hit : (f w = a ∨ f w = b) → WP D ad ca sc M_SH_mergeFamilies 10 [(0, .ref (ad 1)), (1, vI a), (2, vI b), (3, vI v), (4, vI (min a b)), (5, vI (w + 1))] [] (up (sw h 5 g) 5 w (min a b)) Q := by
      intro q
      rw [up_sw_self]
      refine ih (w + 1) _ (by omega) (by omega) (fun i i0 i1 => ?_) (fun i i0 i1 => ?_)
      · by_cases ei : i = w
        · subst ei
          rw [upf_same]; unfold mgv; rw [if_pos q]
        · rw [upf_ne _ _ ei]; exact h1 i i0 (by omega)
      · rw [upf_ne _ _ (by omega)]; exact h2 i (by omega) i1
    refine F_SH_mergeFamilies_10 a b v _ w ga gb (by omega) (by omega) (by omega) ⟨fun c => absurd c (by omega), fun c => ⟨by omega, fun c1 => ⟨by omega, ?_⟩, fun c1 => ⟨by omega, fun c2 => ?_, fun c2 => ⟨by omega, ?_⟩⟩⟩⟩
    · have c1 : g w = a := c1
      exact hit (Or.inl (by rw [← e]; exact c1))
    · have c1 : ¬ g w = a := c1
      have c2 : ¬ g w = b := c2
      refine ih (w + 1) g (by omega) (by omega) (fun i i0 i1 => ?_) (fun i i0 i1 => h2 i (by omega) i1)
      by_cases ei : i = w
      · subst ei
        unfold mgv; rw [← e, if_neg (by rintro (z | z); exact c1 z; exact c2 z)]
      · exact h1 i i0 (by omega)
    · have c2 : g w = b := c2
      exact hit (Or.inr (by rw [← e]; exact c2))
theorem sp_merge {a b v : Int} {f : Int → Int} (ga : InR a) (gb : InR b) (hv : 0 ≤ v ∧ v < 80) (k : ∀ g, (∀ i, 0 ≤ i → i ≤ v → g i = mgv f a b i) → Q none (sw h 5 g)) : WP D ad ca sc M_SH_mergeFamilies 0 [(0, .ref (ad 1)), (1, vI a), (2, vI b), (3, vI v)] [] (sw h 5 f) Q :=
  F_SH_mergeFamilies_0 a b v ga gb (by omega) (sp_merge_loop ga gb hv k (v + 1).toNat 0 f (by omega) (by omega) (fun i i0 i1 => by omega) (fun i _ _ => rfl))
/-- while shake v is joined, those below w are done -/
def JI (R : Int → Int → Prop) (v w : Int) (f : Int → Int) : Prop := Lab0 R (v + 1) f ∧ Rsp R v f ∧ ∀ o, 0 ≤ o → o < w → R o v → f o = f v
theorem JI.merge {R : Int → Int → Prop} {v w : Int} {f g : Int → Int} (J : JI R v w f) (hw : 0 ≤ w ∧ w < v) (hR : R w v) (hg : ∀ i, 0 ≤ i → i ≤ v → g i = mgv f (f w) (f v) i) : JI R v (w + 1) g := by
  obtain ⟨j1, j2, j3⟩ := J
  have gw : g w = min (f w) (f v) := by rw [hg w hw.1 (by omega)]; unfold mgv; rw [if_pos (Or.inl rfl)]
  have gv : g v = min (f w) (f v) := by rw [hg v (by omega) (by omega)]; unfold mgv; rw [if_pos (Or.inr rfl)]
  have same : ∀ a b, 0 ≤ a → a ≤ v → 0 ≤ b → b ≤ v → f a = f b → g a = g b := by
    intro a b a0 a1 b0 b1 e
    rw [hg a a0 a1, hg b b0 b1]; unfold mgv; rw [e]
  refine ⟨fun i i0 i1 => ?_, fun a b a0 a1 b0 b1 r => same a b a0 (by omega) b0 (by omega) (j2 a b a0 a1 b0 b1 r), fun o o0 o1 r => ?_⟩
  · obtain ⟨⟨b1, b2⟩, b3⟩ := j1 i i0 i1
    have hww := j1 w hw.1 (by omega)
    have hvv := j1 v (by omega) (by omega)
    rw [hg i i0 (by omega)]
    unfold mgv
    split
    · next q =>
      refine ⟨by omega, fun u hu => ?_⟩
      have x1 := hww.2 u hu
      have x2 := hvv.2 u hu
      have x3 := hu w v hw.1 (by omega) (by omega) (by omega) hR
      have x4 := b3 u hu
      have x5 : u (f i) = u (f w) := by
        rcases q with q | q
        · rw [q]
        · rw [q, x1, x2, x3]
      rcases Int.le_total (f w) (f v) with z | z
      · rw [Int.min_eq_left z, ← x5]; exact x4
      · rw [Int.min_eq_right z, x2, ← x3, ← x1, ← x5]; exact x4
    · exact ⟨⟨b1, b2⟩, b3⟩
  · by_cases e : o = w
    · subst e; rw [gw, gv]
    · exact same o v o0 (by omega) (by omega) (by omega) (j3 o o0 (by omega) r)
theorem JI.done {R : Int → Int → Prop} {v : Int} {f : Int → Int} (hs : ∀ a b, R a b → R b a) (J : JI R v v f) : IsLab R (v + 1) f := by
  obtain ⟨j1, j2, j3⟩ := J
  refine ⟨fun a b a0 a1 b0 b1 r => ?_, j1⟩
  by_cases ea : a = v
  · by_cases eb : b = v
    · rw [ea, eb]
    · rw [ea] at r ⊢
      exact (j3 b b0 (by omega) (hs _ _ r)).symm
  · by_cases eb : b = v
    · rw [eb] at r ⊢
      exact j3 a a0 (by omega) r
    · exact j2 a b a0 (by omega) b0 (by omega) r
theorem JI.start {R : Int → Int → Prop} {v : Int} {f : Int → Int} (hv : 0 ≤ v) (L : IsLab R v f) : JI R v 0 (upf f v v) := by
  refine ⟨fun i i0 i1 => ?_, fun a b a0 a1 b0 b1 r => ?_, fun o o0 o1 => by omega⟩
  · by_cases e : i = v
    · subst e
      rw [upf_same]
      exact ⟨by omega, fun _ _ => rfl⟩
    · rw [upf_ne _ _ e]
      obtain ⟨b1, b2⟩ := L.2 i i0 (by omega)
      exact ⟨b1, fun g hg => b2 g (fun a b a0 a1 b0 b1 r => hg a b a0 (by omega) b0 (by omega) r)⟩
  · rw [upf_ne _ _ (by omega), upf_ne _ _ (by omega)]
    exact L.1 a b a0 a1 b0 b1 r
theorem sp_join_loop {v : Int} (hv : 0 ≤ v ∧ v < 80) (hB : Bnd (h 2) (v + 1)) (hq : 1 ≤ h 1 6 ∧ h 1 6 ≤ 100) (k : ∀ g, IsLab (alk (h 2) (h 1 6)) (v + 1) g → Q none (sw h 5 g)) :
    ∀ (m : Nat) (w : Int) (f : Int → Int), 0 ≤ w → w + m = v → JI (alk (h 2) (h 1 6)) v w f →
      WP D ad ca sc M_SH_joinFamilies 9 [(0, .ref (ad 1)), (1, vI v), (2, vI w)] [] (sw h 5 f) Q := by
  intro m
  induction m with
  | zero =>
    intro w f h0 hm J
    obtain rfl : w = v := by omega
    exact F_SH_joinFamilies_9 w w (by omega) (by omega) ⟨fun c => k f (J.done (fun a b r => alk_symm r)), fun c => absurd c (by omega)⟩
  | succ m ih =>
    intro w f h0 hm J
    have bw := (J.1 w h0 (by omega)).1
    have bv := (J.1 v hv.1 (by omega)).1
    refine F_SH_joinFamilies_9 v w (by omega) (by omega) ⟨fun c => absurd c (by omega), fun c => ⟨by omega, by omega, fun c1 => ?_, fun c1 => ?_⟩⟩
    · have c1 : f w = f v := c1
      refine ih (w + 1) f (by omega) (by omega) ⟨J.1, J.2.1, fun o o0 o1 r => ?_⟩
      by_cases e : o = w
      · rw [e]; exact c1
      · exact J.2.2 o o0 (by omega) r
    · refine sp_SH_areAlike (n := v + 1) (h := sw h 5 f) (by omega) hB hq (by omega) (by omega) (fun r => rb1 ⟨by omega, by omega, ?_⟩) (fun r => rb0 ?_)
      · refine sp_merge (h := h) (f := f) (a := f w) (b := f v) (v := v) (by omega) (by omega) hv (fun g hg => RV_mk ?_)
        exact ih (w + 1) g (by omega) (by omega) (J.merge (by omega) r hg)
      · refine ih (w + 1) f (by omega) (by omega) ⟨J.1, J.2.1, fun o o0 o1 r2 => ?_⟩
        by_cases e : o = w
        · rw [e] at r2; exact absurd r2 r
        · exact J.2.2 o o0 (by omega) r2
theorem sp_join {v : Int} (hv : 0 ≤ v ∧ v < 80) (hB : Bnd (h 2) (v + 1)) (hq : 1 ≤ h 1 6 ∧ h 1 6 ≤ 100) (L : IsLab (alk (h 2) (h 1 6)) v (h 5)) (k : ∀ g, IsLab (alk (h 2) (h 1 6)) (v + 1) g → Q none (sw h 5 g)) : WP D ad ca sc M_SH_joinFamilies 0 [(0, .ref (ad 1)), (1, vI v)] [] h Q :=
  F_SH_joinFamilies_0 v (by omega) ⟨hv, sp_join_loop hv hB hq k v.toNat 0 (upf (h 5) v v) (by omega) (by omega) (JI.start hv.1 L)⟩
theorem IsLab.nil (R : Int → Int → Prop) (f : Int → Int) : IsLab R 0 f := ⟨fun a b a0 a1 => by omega, fun i i0 i1 => by omega⟩
theorem sp_ask_loop (hn : h 1 5 = n ∧ 0 ≤ n ∧ n ≤ 80) (hB : Bnd (h 2) n) (hq : 1 ≤ h 1 6 ∧ h 1 6 ≤ 100) (k : ∀ g, IsLab (alk (h 2) (h 1 6)) n g → Q none (sw h 5 g)) :
    ∀ (m : Nat) (w : Int) (f : Int → Int), 0 ≤ w → w + m = n → IsLab (alk (h 2) (h 1 6)) w f →
      WP D ad ca sc M_SH_askLikeness 7 [(0, .ref (ad 1)), (2, vI w)] [] (sw h 5 f) Q := by
  intro m
  induction m with
  | zero =>
    intro w f h0 hm L
    have e : w = n := by omega
    refine F_SH_askLikeness_7 w (by omega) ⟨fun c => k f (by rw [← e]; exact L), fun c => ?_⟩
    have c : w < h 1 5 := c
    omega
  | succ m ih =>
    intro w f h0 hm L
    refine F_SH_askLikeness_7 w (by omega) ⟨fun c => ?_, fun c => ?_⟩
    · have c : h 1 5 ≤ w := c
      omega
    · refine sp_join (h := sw h 5 f) (by omega) (fun i i0 i1 => hB i i0 (by omega)) hq L (fun g hg => RV_mk ?_)
      rw [sw_sw]
      exact ih (w + 1) g (by omega) (by omega) hg
theorem sp_ask {v : Int} (hn : h 1 5 = n ∧ 0 ≤ n ∧ n ≤ 80) (hB : Bnd (h 2) n) (hq : 1 ≤ v ∧ v ≤ 100) (k : ∀ g, IsLab (alk (h 2) v) n g → Q none (sw (up h 1 6 v) 5 g)) : WP D ad ca sc M_SH_askLikeness 0 [(0, .ref (ad 1)), (1, vI v)] [] h Q := by
  refine F_SH_askLikeness_0 v (by omega) ?_
  have := sp_ask_loop (D := D) (ad := ad) (ca := ca) (sc := sc) (Q := Q) (h := up h 1 6 v) (n := n) hn hB hq k n.toNat 0 (h 5) (by omega) (by omega) (IsLab.nil _ _)
  have e : sw (up h 1 6 v) 5 (h 5) = up h 1 6 v := sw_self (up h 1 6 v) 5
  rw [e] at this
  exact this
end JO
