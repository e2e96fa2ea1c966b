/-! likeness of two shakes, kinds -/
section AL
variable {D : va_G} {ad : Nat → Nat} {ca : Nat → ClassId} {sc : SC} {h : Hp} {Q : Option Value → Hp → Prop} {n : Int}
theorem sp_SH_band {v1 v2 : Int} (h1 : 0 ≤ v1 ∧ v1 < 80) (h2 : 0 ≤ v2 ∧ v2 < 6) (k : Q (some (vI (h 2 (6 * v1 + v2)))) h) : WP D ad ca sc M_SH_band 0 [(0, .ref (ad 1)), (1, vI v1), (2, vI v2)] [] h Q := by
  refine F_SH_band_0 v1 v2 (by omega) (by omega) ⟨by omega, ?_⟩
  rw [show v1 * 6 + v2 = 6 * v1 + v2 by omega]
  exact k
theorem SH_prod_step {a b i acc : Int} (hn : n ≤ 80) (hB : Bnd (h 2) n) (ha : 0 ≤ a ∧ a < n) (hb : 0 ≤ b ∧ b < n) (hi : 0 ≤ i ∧ i < 6) (k : WP D ad ca sc M_SH_product 5 [(0, .ref (ad 1)), (1, vI a), (2, vI b), (3, vL (acc + h 2 (6 * a + i) * h 2 (6 * b + i))), (5, vI (i + 1))] [] h Q) : WP D ad ca sc M_SH_product 5 [(0, .ref (ad 1)), (1, vI a), (2, vI b), (3, vL acc), (5, vI i)] [] h Q := by
  have x1 := hB (6 * a + i) (by omega) (by omega)
  have x2 := hB (6 * b + i) (by omega) (by omega)
  have x3 := mul_bd x1 x2
  refine F_SH_product_5 a b acc i (by omega) (by omega) (by omega) ⟨fun c => absurd c (by omega), fun c => ?_⟩
  exact sp_SH_band (by omega) hi (RI_mk (by omega) (sp_SH_band (by omega) hi (RI_mk (by omega) ⟨by omega, k⟩)))
theorem sp_SH_product {a b : Int} (hn : n ≤ 80) (hB : Bnd (h 2) n) (ha : 0 ≤ a ∧ a < n) (hb : 0 ≤ b ∧ b < n) (k : Q (some (vL (pr (h 2) a b))) h) : WP D ad ca sc M_SH_product 0 [(0, .ref (ad 1)), (1, vI a), (2, vI b)] [] h Q := by
  refine F_SH_product_0 a b (by omega) (by omega) ?_
  refine SH_prod_step hn hB ha hb (by omega) ?_
  refine SH_prod_step hn hB ha hb (by omega) ?_
  refine SH_prod_step hn hB ha hb (by omega) ?_
  refine SH_prod_step hn hB ha hb (by omega) ?_
  refine SH_prod_step hn hB ha hb (by omega) ?_
  refine SH_prod_step hn hB ha hb (by omega) ?_
  refine F_SH_product_5 a b _ _ (by omega) (by omega) (by omega) ⟨fun c => ?_, fun c => absurd c (by omega)⟩
  simp only [Int.add_zero, Int.zero_add, Int.reduceAdd]
  exact k
theorem MO_prod_step {a b i acc : Int} (hn : n ≤ 80) (ha : 0 ≤ a ∧ a < n) (hb : 0 ≤ b ∧ b < n) (hi : 0 ≤ i ∧ i < 6) (k : WP D ad ca sc M_MO_product 5 [(0, .ref (ad 28)), (1, vI a), (2, vI b), (3, vL (acc + h 30 (6 * a + i) * h 30 (6 * b + i))), (5, vI (i + 1))] [] h Q) : WP D ad ca sc M_MO_product 5 [(0, .ref (ad 28)), (1, vI a), (2, vI b), (3, vL acc), (5, vI i)] [] h Q := by
  exact F_MO_product_5 a b acc i (by omega) (by omega) (by omega) ⟨fun c => absurd c (by omega), fun c => ⟨by omega, by omega, k⟩⟩
theorem sp_MO_product {a b : Int} (hn : n ≤ 80) (ha : 0 ≤ a ∧ a < n) (hb : 0 ≤ b ∧ b < n) (k : Q (some (vL (pr (h 30) a b))) h) : WP D ad ca sc M_MO_product 0 [(0, .ref (ad 28)), (1, vI a), (2, vI b)] [] h Q := by
  refine F_MO_product_0 a b (by omega) (by omega) ?_
  refine MO_prod_step hn ha hb (by omega) ?_
  refine MO_prod_step hn ha hb (by omega) ?_
  refine MO_prod_step hn ha hb (by omega) ?_
  refine MO_prod_step hn ha hb (by omega) ?_
  refine MO_prod_step hn ha hb (by omega) ?_
  refine MO_prod_step hn ha hb (by omega) ?_
  refine F_MO_product_5 a b _ _ (by omega) (by omega) (by omega) ⟨fun c => ?_, fun c => absurd c (by omega)⟩
  simp only [Int.add_zero, Int.zero_add, Int.reduceAdd]
  exact k
theorem sp_SH_areAlike {a b : Int} (hn : n ≤ 80) (hB : Bnd (h 2) n) (hq : 1 ≤ h 1 6 ∧ h 1 6 ≤ 100) (ha : 0 ≤ a ∧ a < n) (hb : 0 ≤ b ∧ b < n) (k1 : alk (h 2) (h 1 6) a b → Q (some (vI 1)) h) (k0 : ¬ alk (h 2) (h 1 6) a b → Q (some (vI 0)) h) : WP D ad ca sc M_SH_areAlike 0 [(0, .ref (ad 1)), (1, vI a), (2, vI b)] [] h Q := by
  have p1 := pr_bd hB ha.1 ha.2 hb.1 hb.2
  have p2 := pr_bd hB ha.1 ha.2 ha.1 ha.2
  have p3 := pr_bd hB hb.1 hb.2 hb.1 hb.2
  refine F_SH_areAlike_0 a b (by omega) (by omega) (sp_SH_product hn hB ha hb (RL_mk (by omega) (sp_SH_product hn hB ha ha (RL_mk (by omega) (sp_SH_product hn hB hb hb (RL_mk (by omega) ⟨tri_bd (by omega) p1 p1, tri_bd (by omega) p2 p3, fun c => k0 ?_, fun c => k1 c⟩))))))
  exact fun z => absurd z (Int.not_le.mpr c)
theorem sp_MO_areAlike {a b : Int} (hn : n ≤ 80) (hB : Bnd (h 30) n) (hq : 1 ≤ h 28 6 ∧ h 28 6 ≤ 100) (ha : 0 ≤ a ∧ a < n) (hb : 0 ≤ b ∧ b < n) (k1 : alk (h 30) (h 28 6) a b → Q (some (vI 1)) h) (k0 : ¬ alk (h 30) (h 28 6) a b → Q (some (vI 0)) h) : WP D ad ca sc M_MO_areAlike 0 [(0, .ref (ad 28)), (1, vI a), (2, vI b)] [] h Q := by
  have p1 := pr_bd hB ha.1 ha.2 hb.1 hb.2
  have p2 := pr_bd hB ha.1 ha.2 ha.1 ha.2
  have p3 := pr_bd hB hb.1 hb.2 hb.1 hb.2
  refine F_MO_areAlike_0 a b (by omega) (by omega) (sp_MO_product hn ha hb (RL_mk (by omega) (sp_MO_product hn ha ha (RL_mk (by omega) (sp_MO_product hn hb hb (RL_mk (by omega) ⟨tri_bd (by omega) p1 p1, tri_bd (by omega) p2 p3, fun c => k0 ?_, fun c => k1 c⟩))))))
  exact fun z => absurd z (Int.not_le.mpr c)
theorem sp_SH_kindOf {a : Int} (hn : n ≤ 80) (hB : Bnd (h 2) n) (ha : 0 ≤ a ∧ a < n) (k : Q (some (vI (kdf (h 2) a))) h) : WP D ad ca sc M_SH_kindOf 0 [(0, .ref (ad 1)), (1, vI a)] [] h Q := by
  have b0 := hB (6 * a + 0) (by omega) (by omega)
  have b1 := hB (6 * a + 1) (by omega) (by omega)
  have b2 := hB (6 * a + 2) (by omega) (by omega)
  have b3 := hB (6 * a + 3) (by omega) (by omega)
  have b4 := hB (6 * a + 4) (by omega) (by omega)
  have b5 := hB (6 * a + 5) (by omega) (by omega)
  refine F_SH_kindOf_0 a (by omega) (sp_SH_band (by omega) (by omega) (RI_mk (by omega) (sp_SH_band (by omega) (by omega) (RI_mk (by omega) (sp_SH_band (by omega) (by omega) (RI_mk (by omega) (sp_SH_band (by omega) (by omega) (RI_mk (by omega) (sp_SH_band (by omega) (by omega) (RI_mk (by omega) (sp_SH_band (by omega) (by omega) (RI_mk (by omega) ⟨by omega, by omega, fun c => ⟨by omega, by omega, fun c2 => ?_, fun c2 => ?_⟩, fun c => ?_⟩))))))))))))
  · unfold kdf at k
    rw [Int.add_zero] at c c2
    rw [if_neg (by omega), if_neg (by omega)] at k
    exact k
  · unfold kdf at k
    rw [Int.add_zero] at c c2
    rw [if_neg (by omega), if_pos (by omega)] at k
    exact k
  · unfold kdf at k
    rw [Int.add_zero] at c
    rw [if_pos (by omega)] at k
    exact k
theorem sp_MO_kindOf {a : Int} (hn : n ≤ 80) (hB : Bnd (h 30) n) (ha : 0 ≤ a ∧ a < n) (k : Q (some (vI (kdf (h 30) a))) h) : WP D ad ca sc M_MO_kindOf 0 [(0, .ref (ad 28)), (1, vI a)] [] h Q := by
  have b0 := hB (6 * a) (by omega) (by omega)
  have b1 := hB (6 * a + 1) (by omega) (by omega)
  have b2 := hB (6 * a + 2) (by omega) (by omega)
  have b3 := hB (6 * a + 3) (by omega) (by omega)
  have b4 := hB (6 * a + 4) (by omega) (by omega)
  have b5 := hB (6 * a + 5) (by omega) (by omega)
  refine F_MO_kindOf_0 a (by omega) ⟨by omega, by omega, by omega, by omega, by omega, by omega, by omega, by omega, fun c => ⟨by omega, by omega, fun c2 => ?_, fun c2 => ?_⟩, fun c => ?_⟩
  · unfold kdf at k
    rw [if_neg (by omega), if_neg (by omega)] at k
    exact k
  · unfold kdf at k
    rw [if_neg (by omega), if_pos (by omega)] at k
    exact k
  · unfold kdf at k
    rw [if_pos (by omega)] at k
    exact k
end AL
