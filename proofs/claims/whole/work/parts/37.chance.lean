/-! chances: class and reference -/
theorem bstR_skip {par sv ch : Int → Int} {p g : Int} (m : Nat) : ∀ (j : Nat) (v cur : Int), (∀ k, v ≤ k → k < v + j → ¬ (par k = p ∧ sv k = 0)) → bstR par sv ch p g (j + m) v cur = bstR par sv ch p g m (v + j) cur
  | 0, v, cur, _ => by simp
  | j + 1, v, cur, h => by
    rw [Nat.add_right_comm]
    show bstR par sv ch p g (j + m) (v + 1) (if (par v = p ∧ sv v = 0) ∧ _ then v else cur) = _
    rw [if_neg (fun z => h v (by omega) (by omega) z.1), bstR_skip m j (v + 1) cur (fun k k0 k1 => h k (by omega) (by omega)), show v + 1 + (j : Int) = v + ((j + 1 : Nat) : Int) by omega]
/-- the reference's search is the class's -/
theorem best_eq {P gv sv CH : Int → Int} {n p g : Int} (hp : 0 ≤ p ∧ p < n) (hq : ∀ k, 1 ≤ k → k < n → P k < k) (hg : ∀ k, 1 ≤ k → k < n → (gv k = 0 ↔ (P k = p ∧ sv k = 0))) : bstR (fun _ => 0) gv CH 0 g (n - 1).toNat 1 0 = bs0 P CH n p g sv := by
  unfold bs0
  have e : bstR (fun _ => 0) gv CH 0 g (n - 1).toNat 1 0 = bstR P sv CH p g (n - 1).toNat 1 0 := bstR_congr _ _ _ (fun k k0 k1 => ⟨⟨fun z => (hg k k0 (by omega)).mp z.2, fun z => ⟨rfl, (hg k k0 (by omega)).mpr z⟩⟩, rfl⟩) (Or.inl rfl)
  rw [e, show (n - 1).toNat = p.toNat + (n - 1 - p).toNat by omega, bstR_skip _ _ _ _ (fun k k0 k1 z => by have := hq k k0 (by omega); omega), show 1 + ((p.toNat : Nat) : Int) = p + 1 by omega]
theorem sumR_pos {f : Int → Int} : ∀ (k : Nat) (a : Int), 0 < sumR f a k → ∃ j, a ≤ j ∧ j < a + k ∧ 0 < f j
  | 0, _, h => by simp [sumR] at h
  | k + 1, a, h => by
    have h : 0 < f a + sumR f (a + 1) k := h
    by_cases e : 0 < f a
    · exact ⟨a, by omega, by omega, e⟩
    · obtain ⟨j, j0, j1, j2⟩ := sumR_pos (f := f) k (a + 1) (by omega)
      exact ⟨j, by omega, by omega, j2⟩
/-- how much can still be given out, and to how many -/
def Ccp (gv LO HI : Int → Int) (n : Int) : Int := sumR (fun k => if gv k = 0 then HI k - LO k else 0) 1 (n - 1).toNat
def Ucp (gv : Int → Int) (n : Int) : Int := sumR (fun k => if gv k = 0 then 1 else 0) 1 (n - 1).toNat
theorem Ccp_serve {gv LO HI : Int → Int} {n b : Int} (hb : 1 ≤ b ∧ b < n) (hz : gv b = 0) : Ccp (upf gv b 1) LO HI n = Ccp gv LO HI n - (HI b - LO b) := by
  unfold Ccp
  have e : sumR (fun k => if upf gv b 1 k = 0 then HI k - LO k else 0) 1 (n - 1).toNat = sumR (upf (fun k => if gv k = 0 then HI k - LO k else 0) b 0) 1 (n - 1).toNat := sumR_congr _ _ (fun k k0 k1 => by
    by_cases q : k = b
    · rw [q, upf_same, upf_same, if_neg (by decide)]
    · rw [upf_ne _ _ q, upf_ne _ _ q])
  rw [e, sumR_upf _ _ hb.1 (by omega), if_pos hz]
  omega
theorem Ucp_serve {gv : Int → Int} {n b : Int} (hb : 1 ≤ b ∧ b < n) (hz : gv b = 0) : Ucp (upf gv b 1) n = Ucp gv n - 1 := by
  unfold Ucp
  have e : sumR (fun k => if upf gv b 1 k = 0 then (1 : Int) else 0) 1 (n - 1).toNat = sumR (upf (fun k => if gv k = 0 then (1 : Int) else 0) b 0) 1 (n - 1).toNat := sumR_congr _ _ (fun k k0 k1 => by
    by_cases q : k = b
    · rw [q, upf_same, upf_same, if_neg (by decide)]
    · rw [upf_ne _ _ q, upf_ne _ _ q])
  rw [e, sumR_upf _ _ hb.1 (by omega), if_pos hz]
  omega
def enc (b : Int) : Int := if b = 0 then -6 else b
section CM
variable {D : va_G} {ad : Nat → Nat} {ca : Nat → ClassId} {sc : SC} {h c x : Hp} {Q : Option Value → Hp → Prop} {N n : Int}
theorem sp_MObest_loop {g s left B : Int} {gv : Int → Int} (gg : InR g) (gl : InR left) (hn : 1 ≤ h 28 25 ∧ h 28 25 ≤ 24) (kend : WP D ad ca sc M_MO_mixed 103 [(0, .ref (ad 28)), (2, vI g), (3, vL s), (5, vI left), (6, vI (enc B)), (7, vI (h 28 25))] [] (sw h 45 gv) Q) : ∀ (m : Nat) (cur w : Int), 1 ≤ w → 0 ≤ cur → cur < 24 → w + m = h 28 25 → bstR (fun _ => 0) gv (h 44) 0 g m w cur = B →
    WP D ad ca sc M_MO_mixed 103 [(0, .ref (ad 28)), (2, vI g), (3, vL s), (5, vI left), (6, vI (enc cur)), (7, vI w)] [] (sw h 45 gv) Q := by
  intro m
  induction m with
  | zero =>
    intro cur w w0 c0 c1 hm e
    have e : cur = B := e
    have ew : w = h 28 25 := by omega
    rw [e, ew]
    exact kend
  | succ m ih =>
    intro cur w w0 c0 c1 hm e
    have e : bstR (fun _ => 0) gv (h 44) 0 g m (w + 1) (if ((0 : Int) = 0 ∧ gv w = 0) ∧ (cur = 0 ∨ (g = 0 ∧ h 44 w < h 44 cur) ∨ (¬ g = 0 ∧ h 44 cur < h 44 w)) then w else cur) = B := e
    have ge : InR (enc cur) := by unfold enc; split <;> omega
    have y : (cur = 0 ∨ (g = 0 ∧ h 44 w < h 44 cur) ∨ (¬ g = 0 ∧ h 44 cur < h 44 w)) → WP D ad ca sc M_MO_mixed 160 [(0, .ref (ad 28)), (2, vI g), (3, vL s), (5, vI left), (6, vI (enc cur)), (7, vI w)] [] (sw h 45 gv) Q := by
      intro q
      refine F_MO_mixed_160 g s left (enc cur) w gg gl ge (by omega) (F_MO_mixed_165 g s left (enc cur) w 1 gg gl ge (by omega) i1 ⟨by omega, fun z => ?_, fun z => ⟨fun z2 => absurd z2 (by decide), fun _ => ?_⟩⟩)
      · have z : ¬ gv w = 0 := z
        rw [if_neg (fun t => z t.1.2)] at e
        exact ih cur (w + 1) (by omega) c0 c1 (by omega) e
      · have z : gv w = 0 := z
        rw [if_pos ⟨⟨rfl, z⟩, q⟩] at e
        have := ih w (w + 1) (by omega) (by omega) (by omega) (by omega) e
        rw [show enc w = w by unfold enc; rw [if_neg (by omega)]] at this
        exact this
    have no : ¬ (cur = 0 ∨ (g = 0 ∧ h 44 w < h 44 cur) ∨ (¬ g = 0 ∧ h 44 cur < h 44 w)) → WP D ad ca sc M_MO_mixed 164 [(0, .ref (ad 28)), (2, vI g), (3, vL s), (5, vI left), (6, vI (enc cur)), (7, vI w)] [] (sw h 45 gv) Q := by
      intro q
      rw [if_neg (fun t => q t.2)] at e
      have nx := ih cur (w + 1) (by omega) c0 c1 (by omega) e
      exact F_MO_mixed_164 g s left (enc cur) w gg gl ge (by omega) (F_MO_mixed_165 g s left (enc cur) w 0 gg gl ge (by omega) i0 ⟨by omega, fun _ => nx, fun _ => ⟨fun _ => nx, fun z => absurd rfl z⟩⟩)
    refine F_MO_mixed_103 g s left (enc cur) w gg gl ge (by omega) ⟨fun z => ?_, fun _ => ⟨fun z => y (Or.inl ?_), fun z => ?_⟩⟩
    · have z : h 28 25 ≤ w := z
      omega
    · unfold enc at z
      split at z <;> omega
    · have e0 : ¬ cur = 0 := by
        intro q
        unfold enc at z
        rw [if_pos q] at z
        omega
      have ee : enc cur = cur := by unfold enc; rw [if_neg e0]
      have ib : 0 ≤ enc cur ∧ enc cur < 24 := by omega
      refine ⟨fun q => ⟨by omega, ib, fun q2 => no ?_, fun q2 => y ?_⟩, fun q => ⟨by omega, ib, fun q2 => no ?_, fun q2 => y ?_⟩⟩
      · have q2 : h 44 w ≤ h 44 (enc cur) := q2
        rw [ee] at q2
        omega
      · have q2 : h 44 (enc cur) < h 44 w := q2
        rw [ee] at q2
        omega
      · have q2 : h 44 (enc cur) ≤ h 44 w := q2
        rw [ee] at q2
        omega
      · have q2 : h 44 w < h 44 (enc cur) := q2
        rw [ee] at q2
        omega
theorem sp_MOgive {p g R : Int} (hp : 0 ≤ p ∧ p < h 28 25) (gg : InR g) (hn : 1 ≤ h 28 25 ∧ h 28 25 ≤ 24) (hq : ∀ k, 1 ≤ k → k < h 28 25 → h 40 k < k) (hl : ∀ k, 0 ≤ k → k < h 28 25 → (0 ≤ h 41 k ∧ h 41 k ≤ 100) ∧ (0 ≤ h 42 k ∧ h 42 k ≤ 100) ∧ h 41 k ≤ h 42 k) (hc : ∀ k, p < k → k < h 28 25 → 0 ≤ h 44 k ∧ h 44 k ≤ 100000000) (k : ∀ gv, Q (some (vL (R / 100))) (sw h 45 gv)) :
    ∀ (t : Nat) (gv sv : Int → Int) (left s : Int), (∀ k, 1 ≤ k → k < h 28 25 → (gv k = 0 ↔ (h 40 k = p ∧ sv k = 0))) → Ucp gv (h 28 25) ≤ t → left ≤ Ccp gv (h 41) (h 42) (h 28 25) → 0 ≤ left → left ≤ 100 → 0 ≤ s → s ≤ 100000000 * (100 - left) → mixR (h 40) (h 41) (h 42) (h 44) (h 28 25) p g t sv left s = R →
      WP D ad ca sc M_MO_mixed 91 [(0, .ref (ad 28)), (2, vI g), (3, vL s), (5, vI left)] [] (sw h 45 gv) Q := by
  intro t
  induction t with
  | zero =>
    intro gv sv left s hg hU hC l0 l1 s0 s1 e
    have e : s = R := e
    refine F_MO_mixed_91 g s left gg (by omega) ⟨fun z => ⟨by omega, by rw [e]; exact k gv⟩, fun z => ?_⟩
    exfalso
    obtain ⟨j, j0, j1, j2⟩ := sumR_pos _ _ (show 0 < sumR (fun k => if gv k = 0 then h 42 k - h 41 k else 0) 1 (h 28 25 - 1).toNat from (by unfold Ccp at hC; omega))
    have jz : gv j = 0 := by
      by_cases q : gv j = 0
      · exact q
      · rw [if_neg q] at j2; omega
    have u1 := Ucp_serve (n := h 28 25) (b := j) ⟨j0, by omega⟩ jz
    have u2 := cnt_bd (p := fun k => upf gv j 1 k = 0) 1 (h 28 25 - 1).toNat
    unfold Ucp at u1 hU
    omega
  | succ t ih =>
    intro gv sv left s hg hU hC l0 l1 s0 s1 e
    unfold mixR at e
    refine F_MO_mixed_91 g s left gg (by omega) ⟨fun z => ⟨by omega, ?_⟩, fun z => ?_⟩
    · rw [if_pos z] at e
      rw [e]
      exact k gv
    · rw [if_neg (by omega)] at e
      have eb := best_eq (CH := h 44) (g := g) hp hq hg
      have bp := bs0_prop (par := h 40) (ch := h 44) (g := g) (sv := sv) hp
      obtain ⟨j, j0, j1, j2⟩ := sumR_pos _ _ (show 0 < sumR (fun k => if gv k = 0 then h 42 k - h 41 k else 0) 1 (h 28 25 - 1).toNat from (by unfold Ccp at hC; omega))
      have jz : gv j = 0 := by
        by_cases q : gv j = 0
        · exact q
        · rw [if_neg q] at j2; omega
      have jp := (hg j j0 (by omega)).mp jz
      rcases bp with ⟨b1, b2⟩ | ⟨b1, b2, b3⟩
      · have := hq j j0 (by omega)
        exact absurd jp (b2 j (by omega) (by omega))
      · generalize hB : bs0 (h 40) (h 44) (h 28 25) p g sv = B at *
        rw [if_neg (by omega)] at e
        have gB : gv B = 0 := (hg B (by omega) b1.2).mpr ⟨b2, b3⟩
        have lB := hl B (by omega) b1.2
        have cB := hc B b1.1 b1.2
        have C1 := Ccp_serve (LO := h 41) (HI := h 42) (n := h 28 25) (b := B) ⟨by omega, b1.2⟩ gB
        have U1 := Ucp_serve (n := h 28 25) (b := B) ⟨by omega, b1.2⟩ gB
        have C0 : 0 ≤ Ccp (upf gv B 1) (h 41) (h 42) (h 28 25) := sumR_nonneg _ _ (fun k k0 k1 => by
          have := hl k (by omega) (by omega)
          split <;> omega)
        have m0 : 0 ≤ min left (h 42 B - h 41 B) := by omega
        have m1 : min left (h 42 B - h 41 B) ≤ left := by omega
        have c0 := Int.mul_nonneg m0 cB.1
        have c1 := Int.mul_le_mul_of_nonneg_left cB.2 m0
        have rel : ∀ k, 1 ≤ k → k < h 28 25 → (upf gv B 1 k = 0 ↔ (h 40 k = p ∧ upf sv B 1 k = 0)) := by
          intro k k0 k1
          by_cases q : k = B
          · rw [q, upf_same, upf_same]
            constructor
            · intro z; exact absurd z (by decide)
            · intro z; exact absurd z.2 (by decide)
          · rw [upf_ne _ _ q, upf_ne _ _ q]
            exact hg k k0 k1
        have go := ih (upf gv B 1) (upf sv B 1) (left - min left (h 42 B - h 41 B)) (s + min left (h 42 B - h 41 B) * h 44 B) rel (by omega) (by omega) (by omega) (by omega) (by omega) (by omega) e
        have eB : enc B = B := by unfold enc; rw [if_neg (by omega)]
        have bb : 0 ≤ B ∧ B < 24 := by omega
        have w245 : ∀ s0, s0 = min left (h 42 B - h 41 B) → WP D ad ca sc M_MO_mixed 245 [(0, .ref (ad 28)), (2, vI g), (3, vL s), (5, vI left), (6, vI B)] [vI s0] (up (sw h 45 gv) 45 B 1) Q := by
          intro s0 hs0
          rw [up_sw_self]
          refine F_MO_mixed_245 g s left B s0 gg (by omega) (by omega) (by omega) ⟨bb, ?_⟩
          show WP D ad ca sc M_MO_mixed 91 [(0, .ref (ad 28)), (2, vI g), (3, vL (s + h 44 B * s0)), (5, vI (left - s0))] [] (sw h 45 (upf gv B 1)) Q
          rw [Int.mul_comm, hs0]
          exact go
        have fin : WP D ad ca sc M_MO_mixed 103 [(0, .ref (ad 28)), (2, vI g), (3, vL s), (5, vI left), (6, vI (enc B)), (7, vI (h 28 25))] [] (sw h 45 gv) Q := by
          rw [eB]
          refine F_MO_mixed_103 g s left B (h 28 25) gg (by omega) (by omega) (by omega) ⟨fun _ => ⟨bb, bb, bb, ?_, fun q => w245 left ?_, fun q => ⟨bb, bb, w245 _ ?_⟩⟩, fun z => ?_⟩
          · show InR (h 42 B - h 41 B)
            omega
          · have q : left ≤ h 42 B - h 41 B := q
            omega
          · have q : h 42 B - h 41 B < left := q
            show h 42 B - h 41 B = min left (h 42 B - h 41 B)
            omega
          · have z : h 28 25 < h 28 25 := z
            omega
        have := sp_MObest_loop (B := B) gg (by omega) hn fin (h 28 25 - 1).toNat 0 1 (by omega) (by omega) (by omega) (by omega) eb
        exact this
theorem sp_MOfirst {p g left Sm : Int} (hp : 0 ≤ p ∧ p < h 28 25) (gg : InR g) (gl : InR left) (hn : 1 ≤ h 28 25 ∧ h 28 25 ≤ 24) (k : ∀ gv, (∀ k, 1 ≤ k → k < h 28 25 → gv k = if h 40 k = p then 0 else 1) → WP D ad ca sc M_MO_mixed 91 [(0, .ref (ad 28)), (2, vI g), (3, vL Sm), (5, vI left)] [] (sw h 45 gv) Q) : ∀ (m : Nat) (gv : Int → Int) (s w : Int), 1 ≤ w → w + m = h 28 25 → s + sumR (fun k => if h 40 k = p then h 41 k * h 44 k else 0) w m = Sm → (∀ k, 1 ≤ k → k < w → gv k = if h 40 k = p then 0 else 1) →
    WP D ad ca sc M_MO_mixed 19 [(0, .ref (ad 28)), (1, vI p), (2, vI g), (3, vL s), (5, vI left), (6, vI w)] [] (sw h 45 gv) Q := by
  intro m
  induction m with
  | zero =>
    intro gv s w w0 hm eS hg
    have eS : s + 0 = Sm := eS
    refine F_MO_mixed_19 p g s left w (by omega) gg gl (by omega) ⟨fun _ => ?_, fun z => ?_⟩
    · obtain rfl : s = Sm := by omega
      exact k gv (fun k k0 k1 => hg k k0 (by omega))
    · have z : w < h 28 25 := z
      omega
  | succ m ih =>
    intro gv s w w0 hm eS hg
    have eS : s + ((if h 40 w = p then h 41 w * h 44 w else 0) + sumR (fun k => if h 40 k = p then h 41 k * h 44 k else 0) (w + 1) m) = Sm := eS
    have nx : ∀ s0 : Int, (s0 = if h 40 w = p then 0 else 1) → ∀ k, 1 ≤ k → k < w + 1 → upf gv w s0 k = if h 40 k = p then 0 else 1 := by
      intro s0 hs k k0 k1
      by_cases e : k = w
      · rw [e, upf_same]; exact hs
      · rw [upf_ne _ _ e]; exact hg k k0 (by omega)
    refine F_MO_mixed_19 p g s left w (by omega) gg gl (by omega) ⟨fun z => ?_, fun _ => ⟨by omega, fun z => ?_, fun z => ?_⟩⟩
    · have z : h 28 25 ≤ w := z
      omega
    · have z : h 40 w = p := z
      refine F_MO_mixed_50 p g s left w 0 w (by omega) gg gl (by omega) i0 (by omega) ⟨by omega, Or.inl rfl, by omega, fun y => absurd z y, fun _ => ⟨by omega, by omega, ?_⟩⟩
      rw [up_sw_self]
      show WP D ad ca sc M_MO_mixed 19 [(0, .ref (ad 28)), (1, vI p), (2, vI g), (3, vL (s + h 44 w * h 41 w)), (5, vI left), (6, vI (w + 1))] [] (sw h 45 (upf gv w 0)) Q
      rw [if_pos z] at eS
      refine ih (upf gv w 0) (s + h 44 w * h 41 w) (w + 1) (by omega) (by omega) ?_ (nx 0 (by rw [if_pos z]))
      rw [Int.mul_comm (h 44 w)]
      omega
    · have z : ¬ h 40 w = p := z
      refine F_MO_mixed_50 p g s left w 1 w (by omega) gg gl (by omega) i1 (by omega) ⟨by omega, Or.inr rfl, by omega, fun _ => ?_, fun y => absurd y z⟩
      rw [up_sw_self]
      rw [if_neg z] at eS
      exact ih (upf gv w 1) (s + 0) (w + 1) (by omega) (by omega) (by omega) (nx 1 (by rw [if_neg z]))
theorem sp_mixed {p g : Int} (hn : 1 ≤ h 28 25 ∧ h 28 25 ≤ 24) (hq : ∀ k, 1 ≤ k → k < h 28 25 → h 40 k < k) (hl : ∀ k, 0 ≤ k → k < h 28 25 → (0 ≤ h 41 k ∧ h 41 k ≤ 100) ∧ (0 ≤ h 42 k ∧ h 42 k ≤ 100) ∧ h 41 k ≤ h 42 k) (S : SND (h 40) (h 41) (h 42) (h 28 25)) (hp : 0 ≤ p ∧ p < h 28 25) (h0 : 0 < chn (h 40) (h 28 25) p) (gg : InR g) (hc : ∀ k, p < k → k < h 28 25 → 0 ≤ h 44 k ∧ h 44 k ≤ 100000000)
    (k : 0 ≤ vsh (h 40) (h 41) (h 42) (h 44) (h 28 25) p g → vsh (h 40) (h 41) (h 42) (h 44) (h 28 25) p g ≤ 100000000 → ∀ gv, Q (some (vL (vsh (h 40) (h 41) (h 42) (h 44) (h 28 25) p g))) (sw h 45 gv)) : WP D ad ca sc M_MO_mixed 0 [(0, .ref (ad 28)), (1, vI p), (2, vI g)] [] h Q := by
  have sp := S p hp.1 hp.2 h0
  have lb := bsm_bd (par := h 40) (X := h 41) (n := h 28 25) (i := p) (fun k k0 k1 => (hl k k0 k1).1) hn.2
  have wb := wsum_bd (par := h 40) (lo := h 41) (ch := h 44) (p := p) (h 28 25 - 1 - p).toNat (p + 1) (fun k k0 k1 _ => ⟨(hl k (by omega) (by omega)).1.1, hc k (by omega) (by omega)⟩)
  have e1 := bsm_from (h 41) hp.1 hp.2 hq
  have e2 := bsm_from (fun k => h 41 k * h 44 k) hp.1 hp.2 hq
  rw [← e1] at wb
  rw [← e2] at wb
  have mb := mixR_bd (par := h 40) (lo := h 41) (hi := h 42) (ch := h 44) (g := g) hp (fun k k0 k1 => (hl k (by omega) k1).2.2) hc (chn (h 40) (h 28 25) p).toNat (fun _ => 0) (100 - bsm (h 40) (h 41) (h 28 25) p) (bsm (h 40) (fun k => h 41 k * h 44 k) (h 28 25) p) (by omega) (by omega) (by omega) (by omega)
  have vb : 0 ≤ vsh (h 40) (h 41) (h 42) (h 44) (h 28 25) p g ∧ vsh (h 40) (h 41) (h 42) (h 44) (h 28 25) p g ≤ 100000000 := by
    unfold vsh
    omega
  refine F_MO_mixed_0 p g (by omega) gg (sp_bounds41 (by omega) hn (fun k k0 k1 => (hl k k0 k1).1) (RI_mk (by omega) ?_))
  have go := sp_MOfirst (D := D) (ad := ad) (ca := ca) (sc := sc) (Q := Q) (h := h) (p := p) (g := g) (left := 100 - bsm (h 40) (h 41) (h 28 25) p) (Sm := bsm (h 40) (fun k => h 41 k * h 44 k) (h 28 25) p) hp gg (by omega) hn (fun gv hg => ?_) (h 28 25 - 1).toNat (h 45) 0 1 (by omega) (by omega) (by rw [Int.zero_add]; rfl) (fun k k0 k1 => by omega)
  · rw [sw_self] at go
    exact go
  · have gz : ∀ k, 1 ≤ k → k < h 28 25 → (gv k = 0 ↔ h 40 k = p) := by
      intro k k0 k1
      rw [hg k k0 k1]
      split
      · next e => exact ⟨fun _ => e, fun _ => rfl⟩
      · next e => exact ⟨fun z => absurd z (by decide), fun z => absurd z e⟩
    have eU : Ucp gv (h 28 25) = chn (h 40) (h 28 25) p := by
      unfold Ucp chn
      exact sumR_congr _ _ (fun k k0 k1 => by
        have := gz k k0 (by omega)
        by_cases q : h 40 k = p
        · rw [if_pos q, if_pos (this.mpr q)]
        · rw [if_neg q, if_neg (fun z => q (this.mp z))])
    have eC : Ccp gv (h 41) (h 42) (h 28 25) = bsm (h 40) (h 42) (h 28 25) p - bsm (h 40) (h 41) (h 28 25) p := by
      have d : ∀ (m : Nat) (a : Int), sumR (fun k => if h 40 k = p then h 42 k - h 41 k else 0) a m = sumR (fun k => if h 40 k = p then h 42 k else 0) a m - sumR (fun k => if h 40 k = p then h 41 k else 0) a m := by
        intro m
        induction m with
        | zero => intro a; simp [sumR]
        | succ m ih =>
          intro a
          show (if h 40 a = p then h 42 a - h 41 a else 0) + sumR (fun k => if h 40 k = p then h 42 k - h 41 k else 0) (a + 1) m = ((if h 40 a = p then h 42 a else 0) + sumR (fun k => if h 40 k = p then h 42 k else 0) (a + 1) m) - ((if h 40 a = p then h 41 a else 0) + sumR (fun k => if h 40 k = p then h 41 k else 0) (a + 1) m)
          rw [ih (a + 1)]
          split <;> omega
      unfold Ccp bsm
      rw [← d]
      exact sumR_congr _ _ (fun k k0 k1 => by
        have := gz k k0 (by omega)
        by_cases q : h 40 k = p
        · rw [if_pos q, if_pos (this.mpr q)]
        · rw [if_neg q, if_neg (fun z => q (this.mp z))])
    refine sp_MOgive (p := p) (R := mixR (h 40) (h 41) (h 42) (h 44) (h 28 25) p g (chn (h 40) (h 28 25) p).toNat (fun _ => 0) (100 - bsm (h 40) (h 41) (h 28 25) p) (bsm (h 40) (fun k => h 41 k * h 44 k) (h 28 25) p)) hp gg hn hq hl hc (fun gv2 => k vb.1 vb.2 gv2) (chn (h 40) (h 28 25) p).toNat gv (fun _ => 0) _ _ (fun k k0 k1 => ?_) (by omega) (by omega) (by omega) (by omega) (by omega) (by omega) rfl
    rw [gz k k0 k1]
    exact ⟨fun z => ⟨z, rfl⟩, fun z => z.1⟩
end CM
