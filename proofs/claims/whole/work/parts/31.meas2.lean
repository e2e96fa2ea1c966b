/-- the reference's cells as they were, or marked -/
def Mk (c h h' : Hp) : Prop := h' = h ∨ ∃ g, IsLab (alk (c 2) (c 1 6)) (c 1 5) g ∧ h' = mkd h g
theorem Mk.rf (c h : Hp) : Mk c h h := Or.inl rfl
theorem Mk.trans {c h h1 h2 : Hp} (a : Mk c h h1) (b : Mk c h1 h2) : Mk c h h2 := by
  rcases a with rfl | ⟨g, hg, rfl⟩
  · exact b
  · rcases b with rfl | ⟨g2, hg2, rfl⟩
    · exact Or.inr ⟨g, hg, rfl⟩
    · exact Or.inr ⟨g2, hg2, mkd_mkd h g g2⟩
theorem Mk.inv {N : Int} {c h h' : Hp} (m : Mk c h h') (I : Inv2 N c h) : Inv2 N c h' := by
  rcases m with rfl | ⟨g, hg, rfl⟩
  · exact I
  · exact I.mark hg
theorem tl_bd {t : Int} {tl gs ht tv gs' : Int → Int} (R : IvR t tl gs ht tv gs') (ht1 : t < 1000) {d : Int} (h0 : 0 ≤ d) (h1 : d ≤ t) : tl d = -1000005 ∨ (-10000 ≤ tl d ∧ tl d ≤ 10000) := by
  rw [R.1 d h0 h1, TAn_TDn]
  have b := TDn_bd ht d.toNat
  split
  · exact Or.inl rfl
  · exact Or.inr (R.2.1 (TDn ht d.toNat) (by omega) (by omega)).2.2
theorem cnt_bd {p : Int → Prop} [∀ j, Decidable (p j)] (a : Int) (k : Nat) : 0 ≤ sumR (fun j => if p j then (1 : Int) else 0) a k ∧ sumR (fun j => if p j then (1 : Int) else 0) a k ≤ k := by
  have := sumR_bd (f := fun j => if p j then (1 : Int) else 0) (m := 0) (M := 1) k a (fun j _ _ => by split <;> omega)
  omega
theorem mv_bd {N k d : Int} {c x : Hp} (I : Inv2 N c x) (hk : 0 ≤ k ∧ k < c 10 4) (hd : 0 ≤ d ∧ d ≤ c 0 5) : 0 ≤ mv c k d ∧ mv c k d ≤ 1000000 := by
  obtain ⟨s1, s2, s3, s4, s5⟩ := I.2.1.facts
  have bt := I.1.2.1
  have l := I.2.2.2.1.2.2 k hk.1 hk.2
  unfold mv
  split
  · have := cnt_bd (p := fun j => mlo c k d ≤ c 3 j ∧ c 3 j ≤ d) 0 (c 1 5).toNat
    omega
  · split
    · have := GFr_bd (c 5) (c 3) (mlo c k d) d (c 1 5).toNat
      omega
    · split
      · unfold tmv
        split
        · omega
        · split
          · omega
          · split
            · omega
            · have a := tl_bd I.2.2.1 (by omega) hd.1 hd.2
              have b := tl_bd I.2.2.1 (by omega) (d := d - c 14 k) (by omega) (by omega)
              split <;> omega
      · split
        · have b := sumR_bd (f := c 9) (m := 0) (M := 10000) (d - mlo c k d + 1).toNat (mlo c k d) (fun j j0 j1 => by
            have := (I.2.2.1.2.2 j (by unfold mlo at j0; omega) (by unfold mlo at j1; omega)).2
            exact this)
          unfold mlo at b ⊢
          omega
        · have := cnt_bd (p := fun j => c 4 j = c 12 k ∧ mlo c k d ≤ c 3 j ∧ c 3 j ≤ d) 0 (c 1 5).toNat
          omega
section MS
variable {D : va_G} {ad : Nat → Nat} {ca : Nat → ClassId} {sc : SC} {h c x : Hp} {Q : Option Value → Hp → Prop} {N n : Int}
theorem sp_measured {k d : Int} (I : Inv2 N h x) (hk : 0 ≤ k ∧ k < h 10 4) (hd : 0 ≤ d ∧ d ≤ h 0 5) (kk : ∀ g, Q (some (vI (mv h k d))) (sw h 6 g)) : WP D ad ca sc M_MW_measured 0 [(0, .ref (ad 0)), (1, vI k), (2, vI d)] [] h Q := by
  obtain ⟨s1, s2, s3, s4, s5⟩ := I.2.1.facts
  have bt := I.1.2.1
  have bn := I.2.2.2.1.2.1
  have l := I.2.2.2.1.2.2 k hk.1 hk.2
  have mb := mv_bd I hk hd
  have k0 := kk (h 6)
  rw [sw_self] at k0
  have mr : InR (mv h k d) := by omega
  refine F_MW_measured_0 k d (by omega) (by omega) ⟨by omega, by omega, by omega, fun e => ?_, fun e => ?_, fun e => ?_, fun e => ?_, fun e => ?_⟩
  · refine F_SH_countOfDays_0 _ d (by omega) (by omega) (sp_cDays (by omega) (by omega) s2 (h 1 5).toNat 0 0 (by omega) (by omega) (by omega) (by omega) ?_)
    have em : mv h k d = 0 + sumR (fun j => if max 0 (d - h 14 k + 1) ≤ h 3 j ∧ h 3 j ≤ d then (1 : Int) else 0) 0 (h 1 5).toNat := by
      unfold mv mlo; rw [if_pos e, Int.zero_add]
    rw [← em]
    exact RI_mk mr k0
  · refine F_SH_countOfGreatestFamily_0 _ d (by omega) (by omega) ?_
    have em : mv h k d = GFr (h 5) (h 3) (max 0 (d - h 14 k + 1)) d (h 1 5).toNat := by
      unfold mv mlo; rw [if_neg (by omega), if_pos e]
    have := sp_gf (D := D) (ad := ad) (ca := ca) (sc := none) (h := h) (Q := RI (fun r10 h9 => Q (some (vI r10)) h9)) (v1 := max 0 (d - h 14 k + 1)) (v2 := d) (by omega) (by omega) s2 I.2.1.2.2.2.2.2.2.2.1 (fun g => by rw [← em]; exact RI_mk mr (kk g)) (h 1 5).toNat 0 (h 6) (by omega) (fun f f0 f1 => by omega)
    rw [sw_self] at this
    exact this
  · refine sp_tiltMove (by omega) (by omega) (fun j j0 j1 => tl_bd I.2.2.1 (by omega) j0 (by omega)) ?_
    have em : mv h k d = tmv h d (h 14 k) := by
      unfold mv; rw [if_neg (by omega), if_neg (by omega), if_pos e]
    rw [← em]
    exact RI_mk mr k0
  · refine F_RE_gasOfDays_0 _ d (by omega) (by omega) (sp_gas (by omega) (fun j j0 j1 => (I.2.2.1.2.2 j j0 j1).2) (by omega) (d - max 0 (d - h 14 k + 1) + 1).toNat 0 _ (by omega) (by omega) (by omega) (by omega) ?_)
    have em : mv h k d = 0 + sumR (h 9) (max 0 (d - h 14 k + 1)) (d - max 0 (d - h 14 k + 1) + 1).toNat := by
      unfold mv mlo; rw [if_neg (by omega), if_neg (by omega), if_neg (by omega), if_pos e, Int.zero_add]
    rw [← em]
    exact RI_mk mr k0
  · refine F_SH_countOfKind_0 _ _ d (by omega) (by omega) (by omega) (sp_cKind (by omega) (by omega) (by omega) s2 (h 1 5).toNat 0 0 (by omega) (by omega) (by omega) (by omega) ?_)
    have em : mv h k d = 0 + sumR (fun j => if h 4 j = h 12 k ∧ max 0 (d - h 14 k + 1) ≤ h 3 j ∧ h 3 j ≤ d then (1 : Int) else 0) 0 (h 1 5).toNat := by
      unfold mv mlo; rw [if_neg (by omega), if_neg (by omega), if_neg (by omega), if_neg (by omega), Int.zero_add]
    rw [← em]
    exact RI_mk mr k0
/-- what the reference's loop counts -/
def wcn (h : Hp) (v3 j : Int) : Prop := v3 = 3 ∨ (v3 < 3 ∧ kdf (h 30) j = v3) ∨ (100 ≤ v3 ∧ h 31 j = v3 - 100)
def wcf (h : Hp) (v1 v2 v3 : Int) : Int → Int := fun j => if (v3 = 3 ∨ (v3 < 3 ∧ kdf (h 30) j = v3) ∨ (100 ≤ v3 ∧ h 31 j = v3 - 100)) ∧ v1 ≤ h 29 j ∧ h 29 j ≤ v2 then 1 else 0
theorem sp_within_loop {v1 v2 v3 : Int} (g1 : InR v1) (g2 : InR v2) (g3 : InR v3) (hn : 0 ≤ h 28 1 ∧ h 28 1 ≤ 80) (hB : Bnd (h 30) (h 28 1)) (hdy : ∀ j, 0 ≤ j → j < h 28 1 → InR (h 29 j)) : ∀ (m : Nat) (acc w : Int), 0 ≤ w → 0 ≤ acc → acc ≤ w → w + m = h 28 1 → Q (some (vI (acc + sumR (wcf h v1 v2 v3) w m))) h →
    WP D ad ca sc M_MO_within 6 [(0, .ref (ad 28)), (1, vI v1), (2, vI v2), (3, vI v3), (4, vI acc), (5, vI w)] [] h Q := by
  intro m
  induction m with
  | zero =>
    intro acc w h0 h2 h3 hm k
    refine F_MO_within_6 v1 v2 v3 acc w g1 g2 g3 (by omega) (by omega) ⟨fun c => ?_, fun c => absurd c (by omega)⟩
    rw [show sumR (wcf h v1 v2 v3) w 0 = 0 from rfl, Int.add_zero] at k
    exact k
  | succ m ih =>
    intro acc w h0 h2 h3 hm k
    rw [show sumR (wcf h v1 v2 v3) w (m + 1) = wcf h v1 v2 v3 w + sumR (wcf h v1 v2 v3) (w + 1) m from rfl] at k
    have n0 : ¬ wcn h v3 w → WP D ad ca sc M_MO_within 59 [(0, .ref (ad 28)), (1, vI v1), (2, vI v2), (3, vI v3), (4, vI acc), (5, vI w)] [] h Q := by
      intro q
      refine F_MO_within_59 v1 v2 v3 acc w g1 g2 g3 (by omega) (by omega) (F_MO_within_60 v1 v2 v3 acc w 0 g1 g2 g3 (by omega) (by omega) i0 ⟨fun _ => ?_, fun z => absurd rfl z⟩)
      rw [show wcf h v1 v2 v3 w = 0 from if_neg (fun z => q z.1), Int.zero_add] at k
      rw [Int.add_zero]
      exact ih acc (w + 1) (by omega) (by omega) (by omega) (by omega) k
    have n1 : wcn h v3 w → WP D ad ca sc M_MO_within 55 [(0, .ref (ad 28)), (1, vI v1), (2, vI v2), (3, vI v3), (4, vI acc), (5, vI w)] [] h Q := by
      intro q
      refine F_MO_within_55 v1 v2 v3 acc w g1 g2 g3 (by omega) (by omega) (F_MO_within_60 v1 v2 v3 acc w 1 g1 g2 g3 (by omega) (by omega) i1 ⟨fun z => absurd z (by decide), fun _ => ⟨by omega, sp_MO_in (hdy w h0 (by omega)) g1 g2 (fun c1 => rb1 ?_) (fun c1 => rb0 ?_)⟩⟩)
      · rw [show wcf h v1 v2 v3 w = 1 from if_pos ⟨q, c1⟩, ← Int.add_assoc] at k
        exact ih (acc + 1) (w + 1) (by omega) (by omega) (by omega) (by omega) k
      · rw [show wcf h v1 v2 v3 w = 0 from if_neg (fun z => c1 z.2), Int.zero_add] at k
        rw [Int.add_zero]
        exact ih acc (w + 1) (by omega) (by omega) (by omega) (by omega) k
    have n35 : ¬ v3 = 3 → (v3 < 3 → ¬ kdf (h 30) w = v3) → WP D ad ca sc M_MO_within 35 [(0, .ref (ad 28)), (1, vI v1), (2, vI v2), (3, vI v3), (4, vI acc), (5, vI w)] [] h Q := by
      intro q1 q2
      refine F_MO_within_35 v1 v2 v3 acc w g1 g2 g3 (by omega) (by omega) ⟨fun c => n0 ?_, fun c => ⟨by omega, by omega, fun c1 => n0 ?_, fun c1 => n1 (Or.inr (Or.inr ⟨c, c1⟩))⟩⟩
      · rintro (z | z | z)
        · exact q1 z
        · exact q2 z.1 z.2
        · omega
      · rintro (z | z | z)
        · exact q1 z
        · exact q2 z.1 z.2
        · exact c1 z.2
    have kb := kdf_bd (h 30) w
    refine F_MO_within_6 v1 v2 v3 acc w g1 g2 g3 (by omega) (by omega) ⟨fun c => absurd c (by omega), fun c => ⟨fun c1 => n1 (Or.inl c1), fun c1 => ⟨fun c2 => n35 c1 (fun z => by omega), fun c2 => sp_MO_kindOf (n := h 28 1) (by omega) hB (by omega) (RI_mk (by omega) ⟨fun c3 => n1 (Or.inr (Or.inl ⟨c2, c3⟩)), fun c3 => n35 c1 (fun _ => c3)⟩)⟩⟩⟩
theorem sp_within {v1 v2 v3 : Int} (g1 : InR v1) (g2 : InR v2) (g3 : InR v3) (hn : 0 ≤ h 28 1 ∧ h 28 1 ≤ 80) (hB : Bnd (h 30) (h 28 1)) (hdy : ∀ j, 0 ≤ j → j < h 28 1 → InR (h 29 j)) (k : Q (some (vI (sumR (wcf h v1 v2 v3) 0 (h 28 1).toNat))) h) : WP D ad ca sc M_MO_within 0 [(0, .ref (ad 28)), (1, vI v1), (2, vI v2), (3, vI v3)] [] h Q :=
  F_MO_within_0 v1 v2 v3 g1 g2 g3 (sp_within_loop g1 g2 g3 hn hB hdy (h 28 1).toNat 0 0 (by omega) (by omega) (by omega) (by omega) (by rw [Int.zero_add]; exact k))
theorem sp_MOgas {v2 : Int} (h2 : v2 < 1000) (hg : ∀ j, 0 ≤ j → j < 1000 → 0 ≤ h 34 j ∧ h 34 j ≤ 10000) (g2 : InR v2) : ∀ (m : Nat) (acc w : Int), 0 ≤ w → 0 ≤ acc → acc ≤ 10000 * w → w + m = v2 + 1 → Q (some (vI (acc + sumR (h 34) w m))) h →
    WP D ad ca sc M_MO_measureOf 206 [(0, .ref (ad 28)), (2, vI v2), (6, vI acc), (7, vI w)] [] h Q := by
  intro m
  induction m with
  | zero =>
    intro acc w h0 h3 h4 hm k
    refine F_MO_measureOf_206 v2 acc w g2 (by omega) (by omega) ⟨fun c => ?_, fun c => absurd c (by omega)⟩
    rw [show sumR (h 34) w 0 = 0 from rfl, Int.add_zero] at k
    exact k
  | succ m ih =>
    intro acc w h0 h3 h4 hm k
    have b := hg w h0 (by omega)
    rw [show sumR (h 34) w (m + 1) = h 34 w + sumR (h 34) (w + 1) m from rfl, ← Int.add_assoc] at k
    exact F_MO_measureOf_206 v2 acc w g2 (by omega) (by omega) ⟨fun c => absurd c (by omega), fun c => ⟨by omega, ih (acc + h 34 w) (w + 1) (by omega) (by omega) (by omega) (by omega) k⟩⟩
theorem wcf_fam (h : Hp) (v1 v2 s : Int) (hs : 0 ≤ s) (n : Nat) : sumR (wcf h v1 v2 (100 + s)) 0 n = oc (h 31) (h 29) v1 v2 s n := by
  unfold oc
  refine sumR_congr n 0 (fun j _ _ => ?_)
  unfold wcf
  by_cases q : h 31 j = s ∧ v1 ≤ h 29 j ∧ h 29 j ≤ v2
  · rw [if_pos q, if_pos ⟨Or.inr (Or.inr ⟨by omega, by omega⟩), q.2⟩]
  · rw [if_neg q, if_neg]
    rintro ⟨z, z2⟩
    rcases z with z | z | z
    · omega
    · omega
    · exact q ⟨by omega, z2⟩
theorem sp_MOgf {v2 v5 : Int} (g2 : InR v2) (g5 : InR v5) (hn : 0 ≤ h 28 1 ∧ h 28 1 ≤ 80) (hB : Bnd (h 30) (h 28 1)) (hdy : ∀ j, 0 ≤ j → j < h 28 1 → InR (h 29 j)) (k : Q (some (vI (MGr (h 31) (h 29) v5 v2 (h 28 1).toNat (h 28 1).toNat))) h) :
    ∀ (m w : Nat), (w : Int) + m = h 28 1 → WP D ad ca sc M_MO_measureOf 52 [(0, .ref (ad 28)), (2, vI v2), (5, vI v5), (6, vI (MGr (h 31) (h 29) v5 v2 (h 28 1).toNat w)), (7, vI (w : Int))] [] h Q := by
  intro m
  induction m with
  | zero =>
    intro w hm
    have b := MGr_bd (h 31) (h 29) v5 v2 (h 28 1).toNat w
    refine F_MO_measureOf_52 v2 v5 _ _ g2 g5 (by omega) (by omega) ⟨fun c => ?_, fun c => absurd c (by omega)⟩
    have e : (h 28 1).toNat = w := by omega
    rw [e] at k ⊢
    exact k
  | succ m ih =>
    intro w hm
    have b := MGr_bd (h 31) (h 29) v5 v2 (h 28 1).toNat w
    have cast : (w : Int) + 1 = ((w + 1 : Nat) : Int) := by omega
    refine F_MO_measureOf_52 v2 v5 _ _ g2 g5 (by omega) (by omega) ⟨fun c => absurd c (by omega), fun c => ⟨by omega, fun c1 => ?_, fun c1 => ?_⟩⟩
    · have em : MGr (h 31) (h 29) v5 v2 (h 28 1).toNat (w + 1) = MGr (h 31) (h 29) v5 v2 (h 28 1).toNat w := by
        show (if h 31 w = w then _ else _) = _
        rw [if_neg c1]
      have nx := ih (w + 1) (by omega)
      rw [em] at nx
      refine F_MO_measureOf_89 v2 v5 _ _ 0 g2 g5 (by omega) (by omega) i0 ⟨fun _ => ?_, fun z => absurd z (by omega)⟩
      rw [cast]; exact nx
    · have em : MGr (h 31) (h 29) v5 v2 (h 28 1).toNat (w + 1) = max (MGr (h 31) (h 29) v5 v2 (h 28 1).toNat w) (oc (h 31) (h 29) v5 v2 w (h 28 1).toNat) := by
        show (if h 31 w = w then _ else _) = _
        rw [if_pos c1]
      have o1 := oc_nonneg (h 31) (h 29) v5 v2 w (h 28 1).toNat
      have o2 := oc_le (h 31) (h 29) v5 v2 w (h 28 1).toNat
      have nx := ih (w + 1) (by omega)
      rw [em] at nx
      refine sp_within g5 g2 (by omega) hn hB hdy ?_
      rw [wcf_fam h v5 v2 w (by omega)]
      refine RI_mk (by omega) (F_MO_measureOf_89 v2 v5 _ _ _ g2 g5 (by omega) (by omega) (by omega) ⟨fun z => ?_, fun z => ?_⟩)
      · rw [cast]
        rw [Int.max_eq_left z] at nx
        exact nx
      · rw [cast]
        rw [Int.max_eq_right (by omega)] at nx
        exact nx
theorem sp_tilt158 (k : Q (some (vI 0)) h) : WP D ad ca sc M_MO_measureOf 158 [] [] h Q := F_MO_measureOf_158 ⟨fun _ => k, fun z => absurd z (by omega)⟩
theorem sp_tilt146 {a b : Int} (ha : -1 ≤ a ∧ a < 1000) (hb : -1 ≤ b ∧ b < 1000) (ht : ∀ j, 0 ≤ j → j < 1000 → -10000 ≤ h 33 j ∧ h 33 j ≤ 10000) (k : Q (some (vI (if a < 0 ∨ b < 0 then 0 else if 0 ≤ h 33 a - h 33 b then h 33 a - h 33 b else -(h 33 a - h 33 b)))) h) : WP D ad ca sc M_MO_measureOf 146 [(0, .ref (ad 28)), (7, vI a)] [vI b] h Q := by
  refine F_MO_measureOf_146 a b (by omega) (by omega) ⟨fun c => sp_tilt158 ?_, fun c => ⟨fun c2 => ⟨by omega, by omega, ?_, fun c3 => ?_, fun c3 => ?_⟩, fun c2 => sp_tilt158 ?_⟩⟩
  · rw [if_pos (Or.inl c)] at k; exact k
  · have := ht a (by omega) (by omega)
    have := ht b (by omega) (by omega)
    omega
  · rw [if_neg (by omega), if_pos c3] at k; exact k
  · rw [if_neg (by omega), if_neg (by omega)] at k; exact k
  · rw [if_pos (Or.inr c2)] at k; exact k
theorem sp_measureOf {k d : Int} (I : Inv2 N c h) (hk : 0 ≤ k ∧ k < c 10 4) (hd : 0 ≤ d ∧ d ≤ c 0 5) (kk : ∀ h', Mk c h h' → Q (some (vI (mv c k d))) h') : WP D ad ca sc M_MO_measureOf 0 [(0, .ref (ad 28)), (1, vI k), (2, vI d)] [] h Q := by
  have S := I.2.1
  have R := I.2.2.1
  obtain ⟨s1, s2, s3, s4, s5⟩ := S.facts
  have bt := I.1.2.1
  have bn := I.2.2.2.1.2.1
  have l := I.2.2.2.1.2.2 k hk.1 hk.2
  have mb := mv_bd I hk hd
  have mr : InR (mv c k d) := by omega
  have k0 := kk h (Mk.rf c h)
  have hdy : ∀ j, 0 ≤ j → j < h 28 1 → InR (h 29 j) := fun j j0 j1 => by
    have := S.2.2.2.2.2.2.1 j j0 (by omega)
    omega
  have lom : ∀ j, 0 ≤ j → j < c 1 5 → (mlo c k d ≤ c 3 j ↔ d - h 38 k + 1 ≤ c 3 j) := fun j j0 j1 => by
    have := S.2.2.2.2.2.2.1 j j0 j1
    unfold mlo
    omega
  refine F_MO_measureOf_0 k d (by omega) (by omega) ⟨by omega, by omega, fun e4 => ⟨fun n4 => ⟨fun n5 => ⟨by omega, fun q => ?_, fun q => ?_⟩, fun e5 => ?_⟩, fun e4 => ?_⟩, fun e3 => ?_⟩
  · have em : mv c k d = 0 + sumR (h 34) (d - h 38 k + 1) (d - (d - h 38 k + 1) + 1).toNat := by
      unfold mv mlo
      rw [if_neg (by omega), if_neg (by omega), if_neg (by omega), if_pos (by omega), Int.zero_add]
      have e : max 0 (d - c 14 k + 1) = d - h 38 k + 1 := by omega
      rw [e]
      exact sumR_congr _ _ (fun j j0 j1 => (R.2.2 j (by omega) (by omega)).1)
    refine sp_MOgas (by omega) (fun j j0 j1 => by have := R.2.2 j j0 j1; omega) (by omega) (d - (d - h 38 k + 1) + 1).toNat 0 _ (by omega) (by omega) (by omega) (by omega) ?_
    rw [← em]
    exact k0
  · have em : mv c k d = 0 + sumR (h 34) 0 (d - 0 + 1).toNat := by
      unfold mv mlo
      rw [if_neg (by omega), if_neg (by omega), if_neg (by omega), if_pos (by omega), Int.zero_add]
      have e : max 0 (d - c 14 k + 1) = 0 := by omega
      rw [e]
      exact sumR_congr _ _ (fun j j0 j1 => (R.2.2 j (by omega) (by omega)).1)
    refine sp_MOgas (by omega) (fun j j0 j1 => by have := R.2.2 j j0 j1; omega) (by omega) (d - 0 + 1).toNat 0 _ (by omega) (by omega) (by omega) (by omega) ?_
    rw [← em]
    exact k0
  · have b1 := TDn_bd (h 32) d.toNat
    have ta := R.1 d hd.1 hd.2
    rw [TAn_TDn] at ta
    refine sp_tiltDay (by omega) (by omega) (RI_mk (by omega) ⟨fun q => ?_, fun q => ?_⟩)
    · have b2 := TDn_bd (h 32) (d - h 38 k).toNat
      have tb := R.1 (d - h 38 k) (by omega) (by omega)
      rw [TAn_TDn] at tb
      refine sp_tiltDay (by omega) (by omega) (RI_mk (by omega) (sp_tilt146 (by omega) (by omega) (fun j j0 j1 => (R.2.1 j j0 j1).2.2) ?_))
      have em : mv c k d = if TDn (h 32) d.toNat < 0 ∨ TDn (h 32) (d - h 38 k).toNat < 0 then 0 else if 0 ≤ h 33 (TDn (h 32) d.toNat) - h 33 (TDn (h 32) (d - h 38 k).toNat) then h 33 (TDn (h 32) d.toNat) - h 33 (TDn (h 32) (d - h 38 k).toNat) else -(h 33 (TDn (h 32) d.toNat) - h 33 (TDn (h 32) (d - h 38 k).toNat)) := by
        unfold mv tmv
        rw [if_neg (by omega), if_neg (by omega), if_pos (by omega), if_neg (by omega)]
        have e : c 14 k = h 38 k := l.2.2.2.1
        rw [e, ta, tb]
        by_cases q1 : TDn (h 32) d.toNat < 0
        · rw [if_pos q1, if_pos rfl, if_pos (Or.inl q1)]
        · rw [if_neg q1]
          have v1 := (R.2.1 (TDn (h 32) d.toNat) (by omega) (by omega)).2.2
          rw [if_neg (by omega)]
          by_cases q2 : TDn (h 32) (d - h 38 k).toNat < 0
          · rw [if_pos q2, if_pos rfl, if_pos (Or.inr q2)]
          · rw [if_neg q2]
            have v2 := (R.2.1 (TDn (h 32) (d - h 38 k).toNat) (by omega) (by omega)).2.2
            rw [if_neg (by omega), if_neg (by omega : ¬ (TDn (h 32) d.toNat < 0 ∨ TDn (h 32) (d - h 38 k).toNat < 0))]
      rw [← em]
      exact k0
    · refine sp_tilt146 (by omega) (by omega) (fun j j0 j1 => (R.2.1 j j0 j1).2.2) ?_
      have em : mv c k d = 0 := by
        unfold mv tmv
        rw [if_neg (by omega), if_neg (by omega), if_pos (by omega), if_pos (by omega)]
      rw [if_pos (Or.inr (by omega)), ← em]
      exact k0
  · refine sp_mark2 S (fun g hg => RV_mk ?_)
    have hl := S.2.2.2.2.2.2.2.1
    have nn : (((c 1 5).toNat : Nat) : Int) = c 1 5 := Int.toNat_of_nonneg s2.1
    have em : mv c k d = MGr g (h 29) (d - h 38 k + 1) d (h 28 1).toNat (h 28 1).toNat := by
      have em1 : mv c k d = GFr (c 5) (c 3) (mlo c k d) d (c 1 5).toNat := by
        unfold mv; rw [if_neg (by omega), if_pos (by omega)]
      have L2 : IsLab (alk (c 2) (c 1 6)) (((c 1 5).toNat : Nat) : Int) (c 5) := by rw [nn]; exact hl
      rw [em1, GF_MG L2, ← s1]
      -- over labels the two agree
      have ocs : ∀ f : Int, oc (c 5) (c 3) (mlo c k d) d f (c 1 5).toNat = oc g (h 29) (d - h 38 k + 1) d f (c 1 5).toNat := fun f => oc_congr _ (fun j j0 j1 => ⟨hl.uniq hg j0 (by omega), (S.2.2.2.2.2.2.1 j j0 (by omega)).1, lom j j0 (by omega)⟩)
      have go : ∀ s : Nat, s ≤ (c 1 5).toNat → MGr (c 5) (c 3) (mlo c k d) d (c 1 5).toNat s = MGr g (h 29) (d - h 38 k + 1) d (c 1 5).toNat s := by
        intro s
        induction s with
        | zero => intro _; rfl
        | succ s ih =>
          intro hs
          unfold MGr
          rw [ih (by omega), ocs, hl.uniq hg (i := (s : Int)) (by omega) (by omega)]
      exact go _ (Nat.le_refl _)
    have := sp_MOgf (D := D) (ad := ad) (ca := ca) (sc := sc) (h := mkd h g) (Q := Q) (v2 := d) (v5 := d - h 38 k + 1) (by omega) (by omega) (by show 0 ≤ h 28 1 ∧ h 28 1 ≤ 80; omega) S.Bnd' hdy (by
      show Q (some (vI (MGr g (h 29) (d - h 38 k + 1) d (h 28 1).toNat (h 28 1).toNat))) (mkd h g)
      rw [← em]
      exact kk (mkd h g) (Or.inr ⟨g, hg, rfl⟩)) (h 28 1).toNat 0 (by show (0 : Int) + (((h 28 1).toNat : Nat) : Int) = h 28 1; omega)
    exact this
  · refine sp_within (by omega) (by omega) (by omega) (by omega) S.Bnd' hdy ?_
    have em : mv c k d = sumR (wcf h (d - h 38 k + 1) d (h 36 k)) 0 (h 28 1).toNat := by
      rw [← s1]
      by_cases q : c 12 k = 3
      · unfold mv
        rw [if_pos q]
        refine sumR_congr _ _ (fun j j0 j1 => ?_)
        have sj := S.2.2.2.2.2.2.1 j j0 (by omega)
        have lj := lom j j0 (by omega)
        unfold wcf
        rw [← sj.1]
        by_cases z : d - h 38 k + 1 ≤ c 3 j ∧ c 3 j ≤ d
        · rw [if_pos ⟨lj.mpr z.1, z.2⟩, if_pos ⟨Or.inl (by omega), z⟩]
        · rw [if_neg (fun y => z ⟨lj.mp y.1, y.2⟩), if_neg (fun y => z y.2)]
      · unfold mv
        rw [if_neg q, if_neg (by omega), if_neg (by omega), if_neg (by omega)]
        refine sumR_congr _ _ (fun j j0 j1 => ?_)
        have sj := S.2.2.2.2.2.2.1 j j0 (by omega)
        have lj := lom j j0 (by omega)
        have kj : c 4 j = kdf (h 30) j := sj.2.2.trans (kdf_congr (n := c 1 5) S.2.2.2.2.1 j0 (by omega))
        unfold wcf
        rw [← sj.1, ← kj]
        by_cases z : c 4 j = c 12 k ∧ d - h 38 k + 1 ≤ c 3 j ∧ c 3 j ≤ d
        · rw [if_pos ⟨z.1, lj.mpr z.2.1, z.2.2⟩, if_pos ⟨Or.inr (Or.inl ⟨by omega, by omega⟩), z.2⟩]
        · rw [if_neg (fun y => z ⟨y.1, lj.mp y.2.1, y.2.2⟩), if_neg]
          rintro ⟨y, y2⟩
          rcases y with y | y | y
          · omega
          · exact z ⟨by omega, y2⟩
          · omega
    rw [← em]
    exact RI_mk mr k0
end MS
