/-! messages -/
def put5 (g : Int → Int) (K a b c d e : Int) : Int → Int := upf (upf (upf (upf (upf g (5 * K) a) (5 * K + 1) b) (5 * K + 2) c) (5 * K + 3) d) (5 * K + 4) e
theorem put5_old (g : Int → Int) {K a b c d e k i : Int} (hk : k < K) (h0 : 0 ≤ i) (h1 : i ≤ 4) : put5 g K a b c d e (5 * k + i) = g (5 * k + i) := by
  unfold put5
  rw [upf_ne _ _ (by omega), upf_ne _ _ (by omega), upf_ne _ _ (by omega), upf_ne _ _ (by omega), upf_ne _ _ (by omega)]
theorem put5_old0 (g : Int → Int) {K a b c d e k : Int} (hk : k < K) : put5 g K a b c d e (5 * k) = g (5 * k) := by
  have := put5_old g (a := a) (b := b) (c := c) (d := d) (e := e) (i := 0) hk (by omega) (by omega)
  rw [Int.add_zero] at this
  exact this
theorem put5_0 (g : Int → Int) (K a b c d e : Int) : put5 g K a b c d e (5 * K) = a := by
  unfold put5
  rw [upf_ne _ _ (by omega), upf_ne _ _ (by omega), upf_ne _ _ (by omega), upf_ne _ _ (by omega), upf_same]
theorem put5_1 (g : Int → Int) (K a b c d e : Int) : put5 g K a b c d e (5 * K + 1) = b := by
  unfold put5
  rw [upf_ne _ _ (by omega), upf_ne _ _ (by omega), upf_ne _ _ (by omega), upf_same]
theorem put5_2 (g : Int → Int) (K a b c d e : Int) : put5 g K a b c d e (5 * K + 2) = c := by
  unfold put5
  rw [upf_ne _ _ (by omega), upf_ne _ _ (by omega), upf_same]
theorem put5_3 (g : Int → Int) (K a b c d e : Int) : put5 g K a b c d e (5 * K + 3) = d := by
  unfold put5
  rw [upf_ne _ _ (by omega), upf_same]
theorem put5_4 (g : Int → Int) (K a b c d e : Int) : put5 g K a b c d e (5 * K + 4) = e := by
  unfold put5
  rw [upf_same]
theorem ivm_full0 {N cn dc kp kd : Int} {dy lv rs : Int → Int} {K cn' dc' : Int} {g : Int → Int} (M : IvM N cn dc kp kd dy lv rs K cn' dc' g) (hK : 200 ≤ K) : IvM (N + 1) (cn + 1) dc kp kd dy lv rs K (cn' + 1) dc' g := by
  obtain ⟨h1, h2, h3, h4, h5, h6, h7, h8⟩ := M
  exact ⟨by omega, h2, by omega, by omega, h5, by omega, fun q => by omega, h8⟩
theorem ivm_full1 {N cn dc kp kd : Int} {dy lv rs : Int → Int} {K cn' dc' : Int} {g : Int → Int} (M : IvM N cn dc kp kd dy lv rs K cn' dc' g) (hK : 200 ≤ K) : IvM (N + 1) cn (dc + 1) kp kd dy lv rs K cn' (dc' + 1) g := by
  obtain ⟨h1, h2, h3, h4, h5, h6, h7, h8⟩ := M
  exact ⟨h1, by omega, by omega, by omega, h5, by omega, fun q => by omega, h8⟩
theorem ivm_add0 {N cn dc kp kd : Int} {dy lv rs : Int → Int} {K cn' dc' : Int} {g : Int → Int} (M : IvM N cn dc kp kd dy lv rs K cn' dc' g) (hK : K < 200) (d l r : Int) : IvM (N + 1) (cn + 1) dc (kp + 1) kd (upf dy cn d) (upf lv cn l) (upf rs cn r) (K + 1) (cn' + 1) dc' (put5 g K 0 (cn' + 1) d l r) := by
  obtain ⟨h1, h2, h3, h4, h5, h6, h7, h8, h9, h10⟩ := M
  obtain ⟨e1, e2⟩ := h7 hK
  refine ⟨by omega, h2, by omega, by omega, by omega, by omega, fun _ => by omega, fun k k0 k1 => ?_, fun j j0 j1 => ?_, fun j j0 j1 => ?_⟩
  · by_cases q : k = K
    · subst q
      refine Or.inl ?_
      rw [put5_0, put5_1, put5_2, put5_3, put5_4]
      have e : cn' + 1 - 1 = cn := by omega
      rw [e, upf_same, upf_same, upf_same]
      exact ⟨rfl, by omega, rfl, rfl, rfl⟩
    · have hk : k < K := by omega
      unfold EnM
      rw [put5_old0 g hk, put5_old g hk (by omega) (by omega), put5_old g hk (by omega) (by omega), put5_old g hk (by omega) (by omega), put5_old g hk (by omega) (by omega)]
      rcases h8 k k0 hk with ⟨a1, a2, a3⟩ | ⟨a1, a2, a3⟩
      · refine Or.inl ⟨a1, by omega, ?_⟩
        rw [upf_ne _ _ (by omega), upf_ne _ _ (by omega), upf_ne _ _ (by omega)]
        exact a3
      · refine Or.inr ⟨a1, a2, ?_⟩
        rw [upf_ne _ _ (by omega), upf_ne _ _ (by omega), upf_ne _ _ (by omega)]
        exact a3
  · by_cases q : j = kp + 1
    · exact ⟨K, by omega, put5_0 _ _ _ _ _ _ _, by rw [put5_1]; omega⟩
    · obtain ⟨k, b1, b2, b3⟩ := h9 j j0 (by omega)
      exact ⟨k, by omega, by rw [put5_old0 g b1.2]; exact b2, by rw [put5_old g b1.2 (by omega) (by omega)]; exact b3⟩
  · obtain ⟨k, b1, b2, b3⟩ := h10 j j0 j1
    exact ⟨k, by omega, by rw [put5_old0 g b1.2]; exact b2, by rw [put5_old g b1.2 (by omega) (by omega)]; exact b3⟩
theorem ivm_add1 {N cn dc kp kd : Int} {dy lv rs : Int → Int} {K cn' dc' : Int} {g : Int → Int} (M : IvM N cn dc kp kd dy lv rs K cn' dc' g) (hK : K < 200) (d l r : Int) : IvM (N + 1) cn (dc + 1) kp (kd + 1) (upf dy (199 - dc) d) (upf lv (199 - dc) l) (upf rs (199 - dc) r) (K + 1) cn' (dc' + 1) (put5 g K 1 (dc' + 1) d l r) := by
  obtain ⟨h1, h2, h3, h4, h5, h6, h7, h8, h9, h10⟩ := M
  obtain ⟨e1, e2⟩ := h7 hK
  refine ⟨h1, by omega, by omega, by omega, by omega, by omega, fun _ => by omega, fun k k0 k1 => ?_, fun j j0 j1 => ?_, fun j j0 j1 => ?_⟩
  · by_cases q : k = K
    · subst q
      refine Or.inr ?_
      rw [put5_0, put5_1, put5_2, put5_3, put5_4]
      have e : 200 - (dc' + 1) = 199 - dc := by omega
      rw [e, upf_same, upf_same, upf_same]
      exact ⟨rfl, by omega, rfl, rfl, rfl⟩
    · have hk : k < K := by omega
      unfold EnM
      rw [put5_old0 g hk, put5_old g hk (by omega) (by omega), put5_old g hk (by omega) (by omega), put5_old g hk (by omega) (by omega), put5_old g hk (by omega) (by omega)]
      rcases h8 k k0 hk with ⟨a1, a2, a3⟩ | ⟨a1, a2, a3⟩
      · refine Or.inl ⟨a1, a2, ?_⟩
        rw [upf_ne _ _ (by omega), upf_ne _ _ (by omega), upf_ne _ _ (by omega)]
        exact a3
      · refine Or.inr ⟨a1, by omega, ?_⟩
        rw [upf_ne _ _ (by omega), upf_ne _ _ (by omega), upf_ne _ _ (by omega)]
        exact a3
  · obtain ⟨k, b1, b2, b3⟩ := h9 j j0 j1
    exact ⟨k, by omega, by rw [put5_old0 g b1.2]; exact b2, by rw [put5_old g b1.2 (by omega) (by omega)]; exact b3⟩
  · by_cases q : j = kd + 1
    · exact ⟨K, by omega, put5_0 _ _ _ _ _ _ _, by rw [put5_1]; omega⟩
    · obtain ⟨k, b1, b2, b3⟩ := h10 j j0 (by omega)
      exact ⟨k, by omega, by rw [put5_old0 g b1.2]; exact b2, by rw [put5_old g b1.2 (by omega) (by omega)]; exact b3⟩
/-- what the class keeps at a message of the level, at one of a drill -/
def msg0 (h : Hp) (d l r : Int) : Hp := up (up (up (up (up h 15 3 (h 15 3 + 1)) 16 (h 15 3) d) 17 (h 15 3) l) 18 (h 15 3) r) 15 5 (h 15 5 + 1)
def msg1 (h : Hp) (d l r : Int) : Hp := up (up (up (up (up h 15 4 (h 15 4 + 1)) 16 (199 - h 15 4) d) 17 (199 - h 15 4) l) 18 (199 - h 15 4) r) 15 6 (h 15 6 + 1)
def mtl (h : Hp) (s n l r : Int) : Hp := up (up (up (up (up (up h 39 (5 * h 28 20) s) 39 (5 * h 28 20 + 1) n) 39 (5 * h 28 20 + 2) (h 28 0)) 39 (5 * h 28 20 + 3) l) 39 (5 * h 28 20 + 4) r) 28 20 (h 28 20 + 1)
section ME
variable {D : va_G} {ad : Nat → Nat} {ca : Nat → ClassId} {sc : SC} {h : Hp} {Q : Option Value → Hp → Prop} {N : Int}
theorem sp_ME_add0 {v2 v3 v4 : Int} (g2 : InR v2) (g3 : InR v3) (g4 : InR v4) (b3 : 0 ≤ h 15 3 ∧ h 15 3 ≤ 1000000) (b5 : 0 ≤ h 15 5 ∧ 0 ≤ h 15 6 ∧ h 15 5 + h 15 6 ≤ 200) (hk : h 15 5 + h 15 6 < 200 → h 15 5 = h 15 3)
    (k1 : h 15 5 + h 15 6 < 200 → Q (some (vI (h 15 3 + 1))) (msg0 h v2 v3 v4)) (k2 : 200 ≤ h 15 5 + h 15 6 → Q (some (vI (h 15 3 + 1))) (up h 15 3 (h 15 3 + 1))) : WP D ad ca sc M_ME_add 0 [(0, .ref (ad 15)), (1, vI 0), (2, vI v2), (3, vI v3), (4, vI v4)] [] h Q := by
  refine F_ME_add_0 0 v2 v3 v4 i0 g2 g3 g4 (F_ME_takeNumber_0 0 i0 ⟨fun _ => ⟨by omega, RI_mk (by omega) ⟨?_, fun c => ?_, fun c => ?_⟩⟩, fun z => absurd rfl z⟩)
  · show InR (h 15 5 + h 15 6)
    omega
  · exact k2 c
  · have c : h 15 5 + h 15 6 < 200 := c
    have e := hk c
    have e2 : h 15 3 + 1 - 1 = h 15 3 := by omega
    refine F_ME_place_0 0 _ i0 (by omega) ⟨fun _ => RI_mk (by omega) ⟨by omega, by omega, by omega, ?_⟩, fun z => absurd rfl z⟩
    refine F_ME_countKept_0 0 i0 ⟨fun _ => ⟨?_, RV_mk ?_⟩, fun z => absurd rfl z⟩
    · show InR (h 15 5 + 1)
      omega
    · have := k1 c
      unfold msg0 at this
      rw [e2]
      exact this
theorem sp_ME_add1 {v2 v3 v4 : Int} (g2 : InR v2) (g3 : InR v3) (g4 : InR v4) (b3 : 0 ≤ h 15 4 ∧ h 15 4 ≤ 1000000) (b5 : 0 ≤ h 15 5 ∧ 0 ≤ h 15 6 ∧ h 15 5 + h 15 6 ≤ 200) (hk : h 15 5 + h 15 6 < 200 → h 15 6 = h 15 4)
    (k1 : h 15 5 + h 15 6 < 200 → Q (some (vI (h 15 4 + 1))) (msg1 h v2 v3 v4)) (k2 : 200 ≤ h 15 5 + h 15 6 → Q (some (vI (h 15 4 + 1))) (up h 15 4 (h 15 4 + 1))) : WP D ad ca sc M_ME_add 0 [(0, .ref (ad 15)), (1, vI 1), (2, vI v2), (3, vI v3), (4, vI v4)] [] h Q := by
  refine F_ME_add_0 1 v2 v3 v4 i1 g2 g3 g4 (F_ME_takeNumber_0 1 i1 ⟨fun z => absurd z (by decide), fun _ => ⟨by omega, RI_mk (by omega) ⟨?_, fun c => ?_, fun c => ?_⟩⟩⟩)
  · show InR (h 15 5 + h 15 6)
    omega
  · exact k2 c
  · have c : h 15 5 + h 15 6 < 200 := c
    have e := hk c
    have e2 : 200 - (h 15 4 + 1) = 199 - h 15 4 := by omega
    refine F_ME_place_0 1 _ i1 (by omega) ⟨fun z => absurd z (by decide), fun _ => RI_mk (by omega) ⟨by omega, by omega, by omega, ?_⟩⟩
    refine F_ME_countKept_0 1 i1 ⟨fun z => absurd z (by decide), fun _ => ⟨?_, RV_mk ?_⟩⟩
    · show InR (h 15 6 + 1)
      omega
    · have := k1 c
      unfold msg1 at this
      rw [e2]
      exact this
theorem sp_MO_tells {v1 v2 v3 v4 : Int} (g1 : InR v1) (g2 : InR v2) (g3 : InR v3) (g4 : InR v4) (b : 0 ≤ h 28 20 ∧ h 28 20 ≤ 200) (k1 : h 28 20 < 200 → Q none (mtl h v1 v2 v3 v4)) (k2 : 200 ≤ h 28 20 → Q none h) : WP D ad ca sc M_MO_tells 0 [(0, .ref (ad 28)), (1, vI v1), (2, vI v2), (3, vI v3), (4, vI v4)] [] h Q :=
  F_MO_tells_0 v1 v2 v3 v4 g1 g2 g3 g4 ⟨fun c => k2 c, fun c => ⟨by omega, by omega, by omega, by omega, by omega, by omega, k1 c⟩⟩
end ME
