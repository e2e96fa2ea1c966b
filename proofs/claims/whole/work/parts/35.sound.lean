/-! soundness of the tree -/
theorem sumR_split (f : Int → Int) : ∀ (j k : Nat) (a : Int), sumR f a (j + k) = sumR f a j + sumR f (a + j) k
  | 0, k, a => by simp [sumR]
  | j + 1, k, a => by
    rw [Nat.add_right_comm]
    show f a + sumR f (a + 1) (j + k) = f a + sumR f (a + 1) j + sumR f (a + ((j + 1 : Nat) : Int)) k
    rw [sumR_split f j k (a + 1), show a + 1 + (j : Int) = a + ((j + 1 : Nat) : Int) by omega]
    omega
/-- sums over the children of i -/
def bsm (par X : Int → Int) (n i : Int) : Int := sumR (fun k => if par k = i then X k else 0) 1 (n - 1).toNat
theorem bsm_from {par : Int → Int} (X : Int → Int) {n i : Int} (h0 : 0 ≤ i) (h1 : i < n) (hp : ∀ k, 1 ≤ k → k < n → par k < k) : bsm par X n i = sumR (fun k => if par k = i then X k else 0) (i + 1) (n - 1 - i).toNat := by
  unfold bsm
  have e : (n - 1).toNat = i.toNat + (n - 1 - i).toNat := by omega
  rw [e, sumR_split]
  have z : sumR (fun k => if par k = i then X k else 0) 1 i.toNat = 0 := by
    rw [sumR_congr (g := fun _ => 0) _ _ (fun k k0 k1 => if_neg (by have := hp k k0 (by omega); omega))]
    have := sumR_bd (f := fun _ => 0) (m := 0) (M := 0) i.toNat 1 (fun j _ _ => ⟨Int.le_refl 0, Int.le_refl 0⟩)
    omega
  rw [z, Int.zero_add, show 1 + ((i.toNat : Nat) : Int) = i + 1 by omega]
theorem bsm_congr {par par' X X' : Int → Int} {n i : Int} (h : ∀ k, 1 ≤ k → k < n → par k = par' k ∧ (par k = i → X k = X' k)) : bsm par X n i = bsm par' X' n i := by
  unfold bsm
  refine sumR_congr _ _ (fun k k0 k1 => ?_)
  obtain ⟨a, b⟩ := h k k0 (by omega)
  rw [← a]
  split
  · next e => exact b e
  · rfl
def SNDi (par lo hi : Int → Int) (n i : Int) : Prop := 0 < chn par n i → bsm par lo n i ≤ 100 ∧ 100 ≤ bsm par hi n i
def SND (par lo hi : Int → Int) (n : Int) : Prop := ∀ i, 0 ≤ i → i < n → SNDi par lo hi n i
theorem SND_congr {par lo hi par' lo' hi' : Int → Int} {n : Int} (h : ∀ k, 0 ≤ k → k < n → par k = par' k ∧ lo k = lo' k ∧ hi k = hi' k) : SND par lo hi n ↔ SND par' lo' hi' n := by
  have e1 : ∀ i, chn par n i = chn par' n i := fun i => chn_congr (fun k k0 k1 => (h k (by omega) k1).1)
  have e2 : ∀ i, bsm par lo n i = bsm par' lo' n i := fun i => bsm_congr (fun k k0 k1 => ⟨(h k (by omega) k1).1, fun _ => (h k (by omega) k1).2.1⟩)
  have e3 : ∀ i, bsm par hi n i = bsm par' hi' n i := fun i => bsm_congr (fun k k0 k1 => ⟨(h k (by omega) k1).1, fun _ => (h k (by omega) k1).2.2⟩)
  unfold SND SNDi
  constructor
  · intro q i i0 i1
    rw [← e1, ← e2, ← e3]; exact q i i0 i1
  · intro q i i0 i1
    rw [e1, e2, e3]; exact q i i0 i1
section SO
variable {D : va_G} {ad : Nat → Nat} {ca : Nat → ClassId} {sc : SC} {h c x : Hp} {Q : Option Value → Hp → Prop} {N n : Int}
theorem sp_hasShares_loop {p : Int} (hp : InR p) (hn : 1 ≤ h 19 8 ∧ h 19 8 ≤ 24) (hb : ∀ k, 0 ≤ k → k < h 19 8 → (0 ≤ h 21 k ∧ h 21 k ≤ 100) ∧ (0 ≤ h 22 k ∧ h 22 k ≤ 100)) {L H : Int} (k1 : L ≤ 100 ∧ 100 ≤ H → Q (some (vI 1)) h) (k0 : ¬ (L ≤ 100 ∧ 100 ≤ H) → Q (some (vI 0)) h) : ∀ (m : Nat) (a b w : Int), 0 ≤ w → 0 ≤ a → a ≤ 100 * w → 0 ≤ b → b ≤ 100 * w → w + m = h 19 8 → a + sumR (fun k => if h 20 k = p then h 21 k else 0) w m = L → b + sumR (fun k => if h 20 k = p then h 22 k else 0) w m = H →
    WP D ad ca sc M_TR_hasShares 9 [(0, .ref (ad 19)), (1, vI p), (2, vI a), (3, vI b), (4, vI w)] [] h Q := by
  intro m
  induction m with
  | zero =>
    intro a b w w0 a0 a1 b0 b1 hm eL eH
    have eL : a + 0 = L := eL
    have eH : b + 0 = H := eH
    exact F_TR_hasShares_9 p a b w hp (by omega) (by omega) (by omega) ⟨fun _ => ⟨fun z => k0 (by omega), fun z => ⟨fun z2 => k0 (by omega), fun z2 => k1 (by omega)⟩⟩, fun z => absurd z (by omega)⟩
  | succ m ih =>
    intro a b w w0 a0 a1 b0 b1 hm eL eH
    have q := hb w w0 (by omega)
    have eL : a + ((if h 20 w = p then h 21 w else 0) + sumR (fun k => if h 20 k = p then h 21 k else 0) (w + 1) m) = L := eL
    have eH : b + ((if h 20 w = p then h 22 w else 0) + sumR (fun k => if h 20 k = p then h 22 k else 0) (w + 1) m) = H := eH
    refine F_TR_hasShares_9 p a b w hp (by omega) (by omega) (by omega) ⟨fun z => absurd z (by omega), fun _ => ⟨by omega, fun z => ?_, fun z => ⟨by omega, by omega, ?_⟩⟩⟩
    · rw [if_neg z] at eL eH
      exact ih a b (w + 1) (by omega) (by omega) (by omega) (by omega) (by omega) (by omega) (by omega) (by omega)
    · rw [if_pos z] at eL eH
      exact ih (a + h 21 w) (b + h 22 w) (w + 1) (by omega) (by omega) (by omega) (by omega) (by omega) (by omega) (by omega) (by omega)
theorem sp_hasShares {p : Int} (T : IvT (h 19 8) (h 20) (h 21) (h 22) (h 23) (h 24) (h 25) (x 28 25) (x 40) (x 41) (x 42) (x 43)) (hp : 0 ≤ p ∧ p < h 19 8) (k1 : bsm (h 20) (h 21) (h 19 8) p ≤ 100 ∧ 100 ≤ bsm (h 20) (h 22) (h 19 8) p → Q (some (vI 1)) h) (k0 : ¬ (bsm (h 20) (h 21) (h 19 8) p ≤ 100 ∧ 100 ≤ bsm (h 20) (h 22) (h 19 8) p) → Q (some (vI 0)) h) : WP D ad ca sc M_TR_hasShares 0 [(0, .ref (ad 19)), (1, vI p)] [] h Q := by
  have tb := T.2.1
  refine F_TR_hasShares_0 p (by omega) (sp_hasShares_loop (by omega) tb (fun k k0 k1 => by have := (T.2.2.2.2.1 k k0 k1).2.1; omega) k1 k0 (h 19 8 - 1 - p).toNat 0 0 (p + 1) (by omega) (by omega) (by omega) (by omega) (by omega) (by omega) ?_ ?_)
  · rw [bsm_from _ hp.1 hp.2 (fun k k0 k1 => (T.2.2.2.2.2.1 k k0 k1).1.2), Int.zero_add]
  · rw [bsm_from _ hp.1 hp.2 (fun k k0 k1 => (T.2.2.2.2.2.1 k k0 k1).1.2), Int.zero_add]
theorem sp_sound_loop (T : IvT (h 19 8) (h 20) (h 21) (h 22) (h 23) (h 24) (h 25) (x 28 25) (x 40) (x 41) (x 42) (x 43)) (k1 : SND (h 20) (h 21) (h 22) (h 19 8) → Q (some (vI 1)) h) (k0 : ¬ SND (h 20) (h 21) (h 22) (h 19 8) → Q (some (vI 0)) h) : ∀ (m : Nat) (w : Int), 0 ≤ w → w + m = h 19 8 → (∀ i, 0 ≤ i → i < w → SNDi (h 20) (h 21) (h 22) (h 19 8) i) →
    WP D ad ca sc M_TR_isSound 2 [(0, .ref (ad 19)), (1, vI w)] [] h Q := by
  have tb := T.2.1
  intro m
  induction m with
  | zero =>
    intro w w0 hm hs
    exact F_TR_isSound_2 w (by omega) ⟨fun _ => k1 (fun i i0 i1 => hs i i0 (by omega)), fun z => absurd z (by omega)⟩
  | succ m ih =>
    intro w w0 hm hs
    have t := (T.2.2.2.2.1 w w0 (by omega)).2.2.2.2.1
    have nx : SNDi (h 20) (h 21) (h 22) (h 19 8) w → WP D ad ca sc M_TR_isSound 2 [(0, .ref (ad 19)), (1, vI (w + 1))] [] h Q := by
      intro q
      refine ih (w + 1) (by omega) (by omega) (fun i i0 i1 => ?_)
      by_cases e : i = w
      · rw [e]; exact q
      · exact hs i i0 (by omega)
    refine F_TR_isSound_2 w (by omega) ⟨fun z => absurd z (by omega), fun _ => ⟨by omega, fun z => nx (fun q => by omega), fun z => sp_hasShares T ⟨w0, by omega⟩ (fun q => rc1 (nx (fun _ => q))) (fun q => rc0 (k0 (fun s => q (s w w0 (by omega) (by omega)))))⟩⟩
theorem sp_TRsound (T : IvT (h 19 8) (h 20) (h 21) (h 22) (h 23) (h 24) (h 25) (x 28 25) (x 40) (x 41) (x 42) (x 43)) (k1 : SND (h 20) (h 21) (h 22) (h 19 8) → Q (some (vI 1)) h) (k0 : ¬ SND (h 20) (h 21) (h 22) (h 19 8) → Q (some (vI 0)) h) : WP D ad ca sc M_TR_isSound 0 [(0, .ref (ad 19))] [] h Q := by
  have tb := T.2.1
  exact F_TR_isSound_0 (sp_sound_loop T k1 k0 (h 19 8).toNat 0 (by omega) (by omega) (fun i i0 i1 => by omega))
theorem sp_bounds41_loop {v1 : Int} (g1 : InR v1) (hn : 1 ≤ h 28 25 ∧ h 28 25 ≤ 24) (hb : ∀ k, 0 ≤ k → k < h 28 25 → 0 ≤ h 41 k ∧ h 41 k ≤ 100) : ∀ (m : Nat) (acc w : Int), 1 ≤ w → 0 ≤ acc → acc ≤ 100 * w → w + m = h 28 25 → Q (some (vI (acc + sumR (fun k => if h 40 k = v1 then h 41 k else 0) w m))) h →
    WP D ad ca sc M_MO_bounds 5 [(0, .ref (ad 28)), (1, vI v1), (2, .ref (ad 41)), (3, vI acc), (4, vI w)] [] h Q := by
  intro m
  induction m with
  | zero =>
    intro acc w h0 h2 h3 hm k
    refine F_MO_bounds_41_5 v1 acc w g1 (by omega) (by omega) ⟨fun c => ?_, fun c => absurd c (by omega)⟩
    rw [show sumR (fun k => if h 40 k = v1 then h 41 k else 0) w 0 = 0 from rfl, Int.add_zero] at k
    exact k
  | succ m ih =>
    intro acc w h0 h2 h3 hm k
    have b := hb w (by omega) (by omega)
    rw [show sumR (fun k => if h 40 k = v1 then h 41 k else 0) w (m + 1) = (if h 40 w = v1 then h 41 w else 0) + sumR (fun k => if h 40 k = v1 then h 41 k else 0) (w + 1) m from rfl] at k
    refine F_MO_bounds_41_5 v1 acc w g1 (by omega) (by omega) ⟨fun c => absurd c (by omega), fun c => ⟨by omega, fun c1 => ?_, fun c1 => ⟨by omega, ?_⟩⟩⟩
    · rw [if_neg c1, Int.zero_add] at k
      rw [Int.add_zero]
      exact ih acc (w + 1) (by omega) (by omega) (by omega) (by omega) k
    · rw [if_pos c1, ← Int.add_assoc] at k
      exact ih (acc + h 41 w) (w + 1) (by omega) (by omega) (by omega) (by omega) k
theorem sp_bounds42_loop {v1 : Int} (g1 : InR v1) (hn : 1 ≤ h 28 25 ∧ h 28 25 ≤ 24) (hb : ∀ k, 0 ≤ k → k < h 28 25 → 0 ≤ h 42 k ∧ h 42 k ≤ 100) : ∀ (m : Nat) (acc w : Int), 1 ≤ w → 0 ≤ acc → acc ≤ 100 * w → w + m = h 28 25 → Q (some (vI (acc + sumR (fun k => if h 40 k = v1 then h 42 k else 0) w m))) h →
    WP D ad ca sc M_MO_bounds 5 [(0, .ref (ad 28)), (1, vI v1), (2, .ref (ad 42)), (3, vI acc), (4, vI w)] [] h Q := by
  intro m
  induction m with
  | zero =>
    intro acc w h0 h2 h3 hm k
    refine F_MO_bounds_42_5 v1 acc w g1 (by omega) (by omega) ⟨fun c => ?_, fun c => absurd c (by omega)⟩
    rw [show sumR (fun k => if h 40 k = v1 then h 42 k else 0) w 0 = 0 from rfl, Int.add_zero] at k
    exact k
  | succ m ih =>
    intro acc w h0 h2 h3 hm k
    have b := hb w (by omega) (by omega)
    rw [show sumR (fun k => if h 40 k = v1 then h 42 k else 0) w (m + 1) = (if h 40 w = v1 then h 42 w else 0) + sumR (fun k => if h 40 k = v1 then h 42 k else 0) (w + 1) m from rfl] at k
    refine F_MO_bounds_42_5 v1 acc w g1 (by omega) (by omega) ⟨fun c => absurd c (by omega), fun c => ⟨by omega, fun c1 => ?_, fun c1 => ⟨by omega, ?_⟩⟩⟩
    · rw [if_neg c1, Int.zero_add] at k
      rw [Int.add_zero]
      exact ih acc (w + 1) (by omega) (by omega) (by omega) (by omega) k
    · rw [if_pos c1, ← Int.add_assoc] at k
      exact ih (acc + h 42 w) (w + 1) (by omega) (by omega) (by omega) (by omega) k
theorem sp_bounds41 {v1 : Int} (g1 : InR v1) (hn : 1 ≤ h 28 25 ∧ h 28 25 ≤ 24) (hb : ∀ k, 0 ≤ k → k < h 28 25 → 0 ≤ h 41 k ∧ h 41 k ≤ 100) (k : Q (some (vI (bsm (h 40) (h 41) (h 28 25) v1))) h) : WP D ad ca sc M_MO_bounds 0 [(0, .ref (ad 28)), (1, vI v1), (2, .ref (ad 41))] [] h Q :=
  F_MO_bounds_41_0 v1 g1 (sp_bounds41_loop g1 hn hb (h 28 25 - 1).toNat 0 1 (by omega) (by omega) (by omega) (by omega) (by rw [Int.zero_add]; exact k))
theorem sp_bounds42 {v1 : Int} (g1 : InR v1) (hn : 1 ≤ h 28 25 ∧ h 28 25 ≤ 24) (hb : ∀ k, 0 ≤ k → k < h 28 25 → 0 ≤ h 42 k ∧ h 42 k ≤ 100) (k : Q (some (vI (bsm (h 40) (h 42) (h 28 25) v1))) h) : WP D ad ca sc M_MO_bounds 0 [(0, .ref (ad 28)), (1, vI v1), (2, .ref (ad 42))] [] h Q :=
  F_MO_bounds_42_0 v1 g1 (sp_bounds42_loop g1 hn hb (h 28 25 - 1).toNat 0 1 (by omega) (by omega) (by omega) (by omega) (by rw [Int.zero_add]; exact k))
theorem bsm_bd {par X : Int → Int} {n i : Int} (hX : ∀ k, 0 ≤ k → k < n → 0 ≤ X k ∧ X k ≤ 100) (hn : n ≤ 24) : 0 ≤ bsm par X n i ∧ bsm par X n i ≤ 2400 := by
  have := sumR_bd (f := fun k => if par k = i then X k else 0) (m := 0) (M := 100) (n - 1).toNat 1 (fun k k0 k1 => by
    have := hX k (by omega) (by omega)
    split <;> omega)
  unfold bsm
  omega
/-- the bounds of the reference's rows -/
theorem IvT.bd' {n : Int} {par lo hi dep cc fe : Int → Int} {n' : Int} {par' lo' hi' fe' : Int → Int} (T : IvT n par lo hi dep cc fe n' par' lo' hi' fe') : ∀ k, 0 ≤ k → k < n' → (0 ≤ lo' k ∧ lo' k ≤ 100) ∧ (0 ≤ hi' k ∧ hi' k ≤ 100) ∧ lo' k ≤ hi' k := by
  intro k k0 k1
  rw [← T.1] at k1
  have t := T.2.2.2.2.1 k k0 k1
  rw [← t.1.2.1, ← t.1.2.2.1]
  omega
theorem IvT.snd {n : Int} {par lo hi dep cc fe : Int → Int} {n' : Int} {par' lo' hi' fe' : Int → Int} (T : IvT n par lo hi dep cc fe n' par' lo' hi' fe') : SND par lo hi n ↔ SND par' lo' hi' n' := by
  rw [← T.1]
  exact SND_congr (fun k k0 k1 => by have t := (T.2.2.2.2.1 k k0 k1).1; exact ⟨t.1, t.2.1, t.2.2.1⟩)
theorem sp_MOsound_loop (hn : 1 ≤ h 28 25 ∧ h 28 25 ≤ 24) (hb : ∀ k, 0 ≤ k → k < h 28 25 → (0 ≤ h 41 k ∧ h 41 k ≤ 100) ∧ (0 ≤ h 42 k ∧ h 42 k ≤ 100)) (k1 : SND (h 40) (h 41) (h 42) (h 28 25) → Q (some (vI 1)) h) (k0 : ¬ SND (h 40) (h 41) (h 42) (h 28 25) → Q (some (vI 0)) h) : ∀ (m : Nat) (w b : Int), 0 ≤ w → w + m = h 28 25 → ((b = 1 ∧ ∀ i, 0 ≤ i → i < w → SNDi (h 40) (h 41) (h 42) (h 28 25) i) ∨ (b = 0 ∧ ¬ SND (h 40) (h 41) (h 42) (h 28 25))) →
    WP D ad ca sc M_MO_isSound 4 [(0, .ref (ad 28)), (1, vI b), (2, vI w)] [] h Q := by
  intro m
  induction m with
  | zero =>
    intro w b w0 hm hs
    refine F_MO_isSound_4 b w (by rcases hs with z | z <;> omega) (by omega) ⟨fun _ => ⟨by rcases hs with z | z <;> omega, ?_⟩, fun z => absurd z (by omega)⟩
    rcases hs with ⟨e, z⟩ | ⟨e, z⟩
    · rw [e]; exact k1 (fun i i0 i1 => z i i0 (by omega))
    · rw [e]; exact k0 z
  | succ m ih =>
    intro w b w0 hm hs
    have gw : InR w := by omega
    have cb := chn_bd (h 40) (h 28 25) w
    have b1 := bsm_bd (par := h 40) (X := h 41) (n := h 28 25) (i := w) (fun k k0 k1 => (hb k k0 k1).1) hn.2
    have b2 := bsm_bd (par := h 40) (X := h 42) (n := h 28 25) (i := w) (fun k k0 k1 => (hb k k0 k1).2) hn.2
    have ok : b = 1 → (∀ i, 0 ≤ i → i < w → SNDi (h 40) (h 41) (h 42) (h 28 25) i) → SNDi (h 40) (h 41) (h 42) (h 28 25) w → WP D ad ca sc M_MO_isSound 4 [(0, .ref (ad 28)), (1, vI 1), (2, vI (w + 1))] [] h Q := by
      intro e z q
      refine ih (w + 1) 1 (by omega) (by omega) (Or.inl ⟨rfl, fun i i0 i1 => ?_⟩)
      by_cases ei : i = w
      · rw [ei]; exact q
      · exact z i i0 (by omega)
    have bad : ¬ SND (h 40) (h 41) (h 42) (h 28 25) → WP D ad ca sc M_MO_isSound 4 [(0, .ref (ad 28)), (1, vI 0), (2, vI (w + 1))] [] h Q := fun z => ih (w + 1) 0 (by omega) (by omega) (Or.inr ⟨rfl, z⟩)
    refine F_MO_isSound_4 b w (by rcases hs with z | z <;> omega) gw ⟨fun z => absurd z (by omega), fun _ => ⟨fun q => ?_, fun q => ?_⟩⟩
    · rcases hs with ⟨e, z⟩ | ⟨e, z⟩
      · omega
      · exact bad z
    · rcases hs with ⟨e, z⟩ | ⟨e, z⟩
      · refine sp_children gw hn (RI_mk (by omega) ⟨fun y => ok e z (fun q => by omega), fun y => sp_bounds41 gw hn (fun k k0 k1 => (hb k k0 k1).1) (RI_mk (by omega) ⟨fun y1 => bad (fun s => ?_), fun y1 => sp_bounds42 gw hn (fun k k0 k1 => (hb k k0 k1).2) (RI_mk (by omega) ⟨fun y2 => bad (fun s => ?_), fun y2 => ok e z (fun _ => ⟨y1, y2⟩)⟩)⟩)⟩)
        · have := s w w0 (by omega) (by omega)
          omega
        · have := s w w0 (by omega) (by omega)
          omega
      · omega
theorem sp_MOsound (hn : 1 ≤ h 28 25 ∧ h 28 25 ≤ 24) (hb : ∀ k, 0 ≤ k → k < h 28 25 → (0 ≤ h 41 k ∧ h 41 k ≤ 100) ∧ (0 ≤ h 42 k ∧ h 42 k ≤ 100)) (k1 : SND (h 40) (h 41) (h 42) (h 28 25) → Q (some (vI 1)) h) (k0 : ¬ SND (h 40) (h 41) (h 42) (h 28 25) → Q (some (vI 0)) h) : WP D ad ca sc M_MO_isSound 0 [(0, .ref (ad 28))] [] h Q :=
  F_MO_isSound_0 (sp_MOsound_loop hn hb k1 k0 (h 28 25).toNat 0 1 (by omega) (by omega) (Or.inl ⟨rfl, fun i i0 i1 => by omega⟩))
theorem pa_sound (I : Inv N h) : WP D ad ca none M_MW_sound 0 [(0, .ref (ad 0))] [] h (RI (fun r h1 => WP D ad ca none M_MO_sound 0 [(0, .ref (ad 28))] [] h1 (RI (SameA N r)))) := by
  have T := I.2.2.2.2.2
  have te := T.1
  have tb := T.2.1
  have hb := T.bd'
  have es := T.snd
  refine F_MW_sound_0 (sp_TRsound T (fun s => RI_mk i1 (sp_MW_oneIf (Or.inr rfl) (RI_mk i1 (RI_mk i1 ?_)))) (fun s => RI_mk i0 (sp_MW_oneIf (Or.inl rfl) (RI_mk i0 (RI_mk i0 ?_)))))
  · exact F_MO_sound_0 (sp_MOsound (by omega) (fun k k0 k1 => ⟨(hb k k0 k1).1, (hb k k0 k1).2.1⟩) (fun _ => rb1 (done i1 I.step)) (fun z => absurd (es.mp s) z))
  · exact F_MO_sound_0 (sp_MOsound (by omega) (fun k k0 k1 => ⟨(hb k k0 k1).1, (hb k k0 k1).2.1⟩) (fun z => absurd (es.mpr z) s) (fun _ => rb0 (done i0 I.step)))
end SO
