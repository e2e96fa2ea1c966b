/-! chances: the shares' mixing, as a function of numbers -/
/-- the best child that isn't served, from v on, m places; 0: none -/
def bstR (par sv ch : Int → Int) (p g : Int) : Nat → Int → Int → Int
  | 0, _, cur => cur
  | m + 1, v, cur => bstR par sv ch p g m (v + 1) (if (par v = p ∧ sv v = 0) ∧ (cur = 0 ∨ (g = 0 ∧ ch v < ch cur) ∨ (¬ g = 0 ∧ ch cur < ch v)) then v else cur)
theorem bstR_congr {par sv ch par' sv' ch' : Int → Int} {p p' g : Int} : ∀ (m : Nat) (v cur : Int), (∀ k, v ≤ k → k < v + m → ((par k = p ∧ sv k = 0) ↔ (par' k = p' ∧ sv' k = 0)) ∧ ch k = ch' k) → (cur = 0 ∨ ch cur = ch' cur) → bstR par sv ch p g m v cur = bstR par' sv' ch' p' g m v cur
  | 0, _, _, _, _ => rfl
  | m + 1, v, cur, h, hc => by
    obtain ⟨a, b⟩ := h v (by omega) (by omega)
    unfold bstR
    have e : (if (par v = p ∧ sv v = 0) ∧ (cur = 0 ∨ (g = 0 ∧ ch v < ch cur) ∨ (¬ g = 0 ∧ ch cur < ch v)) then v else cur) = (if (par' v = p' ∧ sv' v = 0) ∧ (cur = 0 ∨ (g = 0 ∧ ch' v < ch' cur) ∨ (¬ g = 0 ∧ ch' cur < ch' v)) then v else cur) := by
      rcases hc with z | z
      · simp only [z, true_or, and_true, a]
      · simp only [← z, ← b, a]
    rw [e]
    refine bstR_congr m (v + 1) _ (fun k k0 k1 => h k (by omega) (by omega)) ?_
    split
    · exact Or.inr b
    · exact hc
/-- what the search ends with -/
theorem bstR_prop {par sv ch : Int → Int} {p g : Int} : ∀ (m : Nat) (v cur : Int), (bstR par sv ch p g m v cur = cur ∨ (v ≤ bstR par sv ch p g m v cur ∧ bstR par sv ch p g m v cur < v + m ∧ par (bstR par sv ch p g m v cur) = p ∧ sv (bstR par sv ch p g m v cur) = 0)) ∧ (1 ≤ v → bstR par sv ch p g m v cur = 0 → cur = 0 ∧ ∀ k, v ≤ k → k < v + m → ¬ (par k = p ∧ sv k = 0))
  | 0, v, cur => ⟨Or.inl rfl, fun _ h => ⟨h, fun k k0 k1 => by omega⟩⟩
  | m + 1, v, cur => by
    obtain ⟨a, b⟩ := bstR_prop (par := par) (sv := sv) (ch := ch) (p := p) (g := g) m (v + 1) (if (par v = p ∧ sv v = 0) ∧ (cur = 0 ∨ (g = 0 ∧ ch v < ch cur) ∨ (¬ g = 0 ∧ ch cur < ch v)) then v else cur)
    show (bstR par sv ch p g m (v + 1) _ = cur ∨ (v ≤ bstR par sv ch p g m (v + 1) _ ∧ bstR par sv ch p g m (v + 1) _ < v + ((m + 1 : Nat) : Int) ∧ par (bstR par sv ch p g m (v + 1) _) = p ∧ sv (bstR par sv ch p g m (v + 1) _) = 0)) ∧ (1 ≤ v → bstR par sv ch p g m (v + 1) _ = 0 → cur = 0 ∧ ∀ k, v ≤ k → k < v + ((m + 1 : Nat) : Int) → ¬ (par k = p ∧ sv k = 0))
    constructor
    · rcases a with a | ⟨a1, a2, a3, a4⟩
      · by_cases q : (par v = p ∧ sv v = 0) ∧ (cur = 0 ∨ (g = 0 ∧ ch v < ch cur) ∨ (¬ g = 0 ∧ ch cur < ch v))
        · rw [if_pos q] at a ⊢
          right
          rw [a]
          exact ⟨by omega, by omega, q.1.1, q.1.2⟩
        · rw [if_neg q] at a ⊢
          exact Or.inl a
      · exact Or.inr ⟨by omega, by omega, a3, a4⟩
    · intro hv hz
      obtain ⟨b1, b2⟩ := b (by omega) hz
      by_cases q : (par v = p ∧ sv v = 0) ∧ (cur = 0 ∨ (g = 0 ∧ ch v < ch cur) ∨ (¬ g = 0 ∧ ch cur < ch v))
      · rw [if_pos q] at b1
        omega
      · rw [if_neg q] at b1
        refine ⟨b1, fun k k0 k1 => ?_⟩
        by_cases e : k = v
        · rw [e]
          exact fun z => q ⟨z, Or.inl b1⟩
        · exact b2 k (by omega) (by omega)
def bs0 (par ch : Int → Int) (n p g : Int) (sv : Int → Int) : Int := bstR par sv ch p g (n - 1 - p).toNat (p + 1) 0
theorem bs0_prop {par ch : Int → Int} {n p g : Int} {sv : Int → Int} (hp : 0 ≤ p ∧ p < n) : (bs0 par ch n p g sv = 0 ∧ ∀ k, p < k → k < n → ¬ (par k = p ∧ sv k = 0)) ∨ ((p < bs0 par ch n p g sv ∧ bs0 par ch n p g sv < n) ∧ par (bs0 par ch n p g sv) = p ∧ sv (bs0 par ch n p g sv) = 0) := by
  obtain ⟨a, b⟩ := bstR_prop (par := par) (sv := sv) (ch := ch) (p := p) (g := g) (n - 1 - p).toNat (p + 1) 0
  rcases a with a | ⟨a1, a2, a3, a4⟩
  · left
    exact ⟨a, fun k k0 k1 => (b (by omega) a).2 k (by omega) (by omega)⟩
  · right
    unfold bs0
    exact ⟨⟨by omega, by omega⟩, a3, a4⟩
/-- the giving out of what is left, t turns -/
def mixR (par lo hi ch : Int → Int) (n p g : Int) : Nat → (Int → Int) → Int → Int → Int
  | 0, _, _, s => s
  | t + 1, sv, left, s => if left ≤ 0 then s else if bs0 par ch n p g sv ≤ 0 then mixR par lo hi ch n p g t sv left s else
      mixR par lo hi ch n p g t (upf sv (bs0 par ch n p g sv) 1) (left - min left (hi (bs0 par ch n p g sv) - lo (bs0 par ch n p g sv))) (s + min left (hi (bs0 par ch n p g sv) - lo (bs0 par ch n p g sv)) * ch (bs0 par ch n p g sv))
theorem mixR_congr {par lo hi ch par' lo' hi' ch' : Int → Int} {n p g : Int} (hp : 0 ≤ p ∧ p < n) (he : ∀ k, p < k → k < n → par k = par' k ∧ lo k = lo' k ∧ hi k = hi' k ∧ ch k = ch' k) : ∀ (t : Nat) (sv sv' : Int → Int) (left s : Int), (∀ k, p < k → k < n → par k = p → (sv k = 0 ↔ sv' k = 0)) → mixR par lo hi ch n p g t sv left s = mixR par' lo' hi' ch' n p g t sv' left s
  | 0, _, _, _, _, _ => rfl
  | t + 1, sv, sv', left, s, hs => by
    have eb : bs0 par ch n p g sv = bs0 par' ch' n p g sv' := by
      unfold bs0
      refine bstR_congr _ _ _ (fun k k0 k1 => ?_) (Or.inl rfl)
      obtain ⟨a, b, c, d⟩ := he k (by omega) (by omega)
      refine ⟨?_, d⟩
      rw [← a]
      constructor
      · intro z; exact ⟨z.1, (hs k (by omega) (by omega) z.1).mp z.2⟩
      · intro z; exact ⟨z.1, (hs k (by omega) (by omega) z.1).mpr z.2⟩
    unfold mixR
    rw [← eb]
    by_cases q : left ≤ 0
    · rw [if_pos q, if_pos q]
    · rw [if_neg q, if_neg q]
      by_cases q2 : bs0 par ch n p g sv ≤ 0
      · rw [if_pos q2, if_pos q2]
        exact mixR_congr hp he t sv sv' left s hs
      · rw [if_neg q2, if_neg q2]
        rcases bs0_prop (par := par) (ch := ch) (g := g) (sv := sv) hp with z | ⟨z1, z2, z3⟩
        · omega
        · obtain ⟨a, b, c, d⟩ := he (bs0 par ch n p g sv) z1.1 z1.2
          rw [← b, ← c, ← d]
          refine mixR_congr hp he t _ _ _ _ (fun k k0 k1 kp => ?_)
          by_cases e : k = bs0 par ch n p g sv
          · rw [e, upf_same, upf_same]
          · rw [upf_ne _ _ e, upf_ne _ _ e]
            exact hs k k0 k1 kp
theorem mixR_bd {par lo hi ch : Int → Int} {n p g : Int} (hp : 0 ≤ p ∧ p < n) (hl : ∀ k, p < k → k < n → lo k ≤ hi k) (hc : ∀ k, p < k → k < n → 0 ≤ ch k ∧ ch k ≤ 100000000) : ∀ (t : Nat) (sv : Int → Int) (left s : Int), 0 ≤ left → left ≤ 100 → 0 ≤ s → s ≤ 100000000 * (100 - left) → 0 ≤ mixR par lo hi ch n p g t sv left s ∧ mixR par lo hi ch n p g t sv left s ≤ 10000000000
  | 0, _, left, s, l0, l1, s0, s1 => by
    unfold mixR
    omega
  | t + 1, sv, left, s, l0, l1, s0, s1 => by
    unfold mixR
    by_cases q : left ≤ 0
    · rw [if_pos q]; omega
    · rw [if_neg q]
      by_cases q2 : bs0 par ch n p g sv ≤ 0
      · rw [if_pos q2]; exact mixR_bd hp hl hc t sv left s l0 l1 s0 s1
      · rw [if_neg q2]
        rcases bs0_prop (par := par) (ch := ch) (g := g) (sv := sv) hp with z | ⟨z1, z2, z3⟩
        · omega
        · have a := hl _ z1.1 z1.2
          have b := hc _ z1.1 z1.2
          have m0 : 0 ≤ min left (hi (bs0 par ch n p g sv) - lo (bs0 par ch n p g sv)) := by omega
          have m1 : min left (hi (bs0 par ch n p g sv) - lo (bs0 par ch n p g sv)) ≤ left := by omega
          generalize min left (hi (bs0 par ch n p g sv) - lo (bs0 par ch n p g sv)) = mo at m0 m1 ⊢
          have c0 := Int.mul_nonneg m0 b.1
          have c1 := Int.mul_le_mul_of_nonneg_left b.2 m0
          exact mixR_bd hp hl hc t _ _ _ (by omega) (by omega) (by omega) (by omega)
/-- the chance of a node with children -/
def vsh (par lo hi ch : Int → Int) (n p g : Int) : Int := mixR par lo hi ch n p g (chn par n p).toNat (fun _ => 0) (100 - bsm par lo n p) (bsm par (fun k => lo k * ch k) n p) / 100
theorem vsh_congr {par lo hi ch par' lo' hi' ch' : Int → Int} {n p g : Int} (hp : 0 ≤ p ∧ p < n) (hq : ∀ k, 1 ≤ k → k < n → par k < k) (he : ∀ k, 0 ≤ k → k < n → par k = par' k ∧ lo k = lo' k ∧ hi k = hi' k) (hc : ∀ k, p < k → k < n → ch k = ch' k) : vsh par lo hi ch n p g = vsh par' lo' hi' ch' n p g := by
  unfold vsh
  have e1 : chn par n p = chn par' n p := chn_congr (fun k k0 k1 => (he k (by omega) k1).1)
  have e2 : bsm par lo n p = bsm par' lo' n p := bsm_congr (fun k k0 k1 => ⟨(he k (by omega) k1).1, fun _ => (he k (by omega) k1).2.1⟩)
  have e3 : bsm par (fun k => lo k * ch k) n p = bsm par' (fun k => lo' k * ch' k) n p := bsm_congr (fun k k0 k1 => ⟨(he k (by omega) k1).1, fun z => by
    have := hq k k0 k1
    rw [(he k (by omega) k1).2.1, hc k (by omega) k1]⟩)
  rw [e1, e2, e3]
  rw [mixR_congr hp (fun k k0 k1 => ⟨(he k (by omega) k1).1, (he k (by omega) k1).2.1, (he k (by omega) k1).2.2, hc k k0 k1⟩) _ _ (fun _ => 0) _ _ (fun _ _ _ _ => Iff.rfl)]
/-- weighted sums over children -/
theorem wsum_bd {par lo ch : Int → Int} {p : Int} : ∀ (m : Nat) (a : Int), (∀ k, a ≤ k → k < a + m → par k = p → (0 ≤ lo k) ∧ 0 ≤ ch k ∧ ch k ≤ 100000000) → 0 ≤ sumR (fun k => if par k = p then lo k * ch k else 0) a m ∧ sumR (fun k => if par k = p then lo k * ch k else 0) a m ≤ 100000000 * sumR (fun k => if par k = p then lo k else 0) a m
  | 0, _, _ => by simp [sumR]
  | m + 1, a, h => by
    have ih := wsum_bd (par := par) (lo := lo) (ch := ch) (p := p) m (a + 1) (fun k k0 k1 => h k (by omega) (by omega))
    show 0 ≤ (if par a = p then lo a * ch a else 0) + sumR (fun k => if par k = p then lo k * ch k else 0) (a + 1) m ∧ (if par a = p then lo a * ch a else 0) + sumR (fun k => if par k = p then lo k * ch k else 0) (a + 1) m ≤ 100000000 * ((if par a = p then lo a else 0) + sumR (fun k => if par k = p then lo k else 0) (a + 1) m)
    by_cases e : par a = p
    · rw [if_pos e, if_pos e]
      obtain ⟨x, y, z⟩ := h a (by omega) (by omega) e
      have c0 := Int.mul_nonneg x y
      have c1 := Int.mul_le_mul_of_nonneg_left z x
      omega
    · rw [if_neg e, if_neg e]
      omega
section CB
variable {D : va_G} {ad : Nat → Nat} {ca : Nat → ClassId} {sc : SC} {h c x : Hp} {Q : Option Value → Hp → Prop} {N n : Int}
theorem sp_isBetter {a b g : Int} (ga : InR a) (gb : InR b) (gg : g = 0 ∨ g = 1) (k1 : (g = 0 ∧ a < b) ∨ (¬ g = 0 ∧ b < a) → Q (some (vI 1)) h) (k0 : ¬ ((g = 0 ∧ a < b) ∨ (¬ g = 0 ∧ b < a)) → Q (some (vI 0)) h) : WP D ad ca sc M_TR_isBetter 0 [(0, vI a), (1, vI b), (2, vI g)] [] h Q :=
  F_TR_isBetter_0 a b g ga gb (by omega) ⟨fun e => ⟨fun q => k0 (by omega), fun q => k1 (by omega)⟩, fun e => ⟨fun q => k0 (by omega), fun q => k1 (by omega)⟩⟩
theorem sp_best_loop {p g : Int} (hp : InR p) (gg : g = 0 ∨ g = 1) (hn : 1 ≤ h 19 8 ∧ h 19 8 ≤ 24) : ∀ (m : Nat) (cur w : Int), 0 ≤ w → 0 ≤ cur → cur < 24 → w + m = h 19 8 → Q (some (vI (bstR (h 20) (h 27) (h 26) p g m w cur))) h →
    WP D ad ca sc M_TR_bestUnserved 7 [(0, .ref (ad 19)), (1, vI p), (2, vI g), (3, vI cur), (4, vI w)] [] h Q := by
  intro m
  induction m with
  | zero =>
    intro cur w w0 c0 c1 hm k
    exact F_TR_bestUnserved_7 p g cur w hp (by omega) (by omega) (by omega) ⟨fun _ => k, fun z => absurd z (by omega)⟩
  | succ m ih =>
    intro cur w w0 c0 c1 hm k
    unfold bstR at k
    refine P_HR (fun hh => ?_)
    refine F_TR_bestUnserved_7 p g cur w hp (by omega) (by omega) (by omega) ⟨fun z => absurd z (by omega), fun _ => ⟨by omega, fun z1 => ?_, fun z1 => ⟨by omega, fun z2 => ?_, fun z2 => ⟨fun z3 => ?_, fun z3 => ⟨by omega, by omega, sp_isBetter ((hh 26 w).2 (by decide)) ((hh 26 cur).2 (by decide)) gg (fun q => rb1 ?_) (fun q => rb0 ?_)⟩⟩⟩⟩⟩
    · rw [if_neg (fun z => z1 z.1.1)] at k
      exact ih cur (w + 1) (by omega) c0 c1 (by omega) k
    · rw [if_neg (fun z => z2 z.1.2)] at k
      exact ih cur (w + 1) (by omega) c0 c1 (by omega) k
    · rw [if_pos ⟨⟨z1, z2⟩, Or.inl z3⟩] at k
      exact ih w (w + 1) (by omega) w0 (by omega) (by omega) k
    · rw [if_pos ⟨⟨z1, z2⟩, Or.inr q⟩] at k
      exact ih w (w + 1) (by omega) w0 (by omega) (by omega) k
    · rw [if_neg] at k
      · exact ih cur (w + 1) (by omega) c0 c1 (by omega) k
      · rintro ⟨_, y⟩
        rcases y with y | y
        · exact z3 y
        · exact q y
theorem sp_best {p g : Int} (hp : 0 ≤ p ∧ p < h 19 8) (gg : g = 0 ∨ g = 1) (hn : 1 ≤ h 19 8 ∧ h 19 8 ≤ 24) (k : Q (some (vI (bs0 (h 20) (h 26) (h 19 8) p g (h 27)))) h) : WP D ad ca sc M_TR_bestUnserved 0 [(0, .ref (ad 19)), (1, vI p), (2, vI g)] [] h Q :=
  F_TR_bestUnserved_0 p g (by omega) (by omega) (sp_best_loop (by omega) gg hn (h 19 8 - 1 - p).toNat 0 (p + 1) (by omega) (by omega) (by omega) (by omega) k)
theorem sp_give {p g : Int} (hp : 0 ≤ p ∧ p < h 19 8) (gg : g = 0 ∨ g = 1) (hn : 1 ≤ h 19 8 ∧ h 19 8 ≤ 24) (h24 : 0 ≤ h 24 p ∧ h 24 p ≤ 100) (hl : ∀ k, p < k → k < h 19 8 → 0 ≤ h 21 k ∧ h 21 k ≤ h 22 k ∧ h 22 k ≤ 100) (hc : ∀ k, p < k → k < h 19 8 → 0 ≤ h 26 k ∧ h 26 k ≤ 100000000) {R : Int} (k : ∀ sv, Q (some (vI (R / 100))) (sw h 27 sv)) : ∀ (t : Nat) (sv : Int → Int) (left s w : Int), 0 ≤ w → w + t = h 24 p → 0 ≤ left → left ≤ 100 → 0 ≤ s → s ≤ 100000000 * (100 - left) → mixR (h 20) (h 21) (h 22) (h 26) (h 19 8) p g t sv left s = R →
    WP D ad ca sc M_TR_chanceByShares 80 [(0, .ref (ad 19)), (1, vI p), (2, vI g), (3, vI left), (4, vL s), (6, vI w)] [] (sw h 27 sv) Q := by
  intro t
  induction t with
  | zero =>
    intro sv left s w w0 hw l0 l1 s0 s1 e
    refine F_TR_chanceByShares_80 p g left s w (by omega) (by omega) (by omega) (by omega) ⟨by omega, fun _ => ⟨by omega, ?_⟩, fun z => ?_⟩
    · have := k sv
      rw [← e] at this
      exact this
    · have z : w < h 24 p := z
      omega
  | succ t ih =>
    intro sv left s w w0 hw l0 l1 s0 s1 e
    unfold mixR at e
    have dn : left ≤ 0 → Q (some (vI (s / 100))) (sw h 27 sv) := by
      intro z
      rw [if_pos z] at e
      have := k sv
      rw [← e] at this
      exact this
    refine F_TR_chanceByShares_80 p g left s w (by omega) (by omega) (by omega) (by omega) ⟨by omega, fun z => ?_, fun z => ⟨fun z2 => ⟨by omega, dn z2⟩, fun z2 => ?_⟩⟩
    · have z : h 24 p ≤ w := z
      omega
    · rw [if_neg (by omega)] at e
      have bp := bs0_prop (par := h 20) (ch := h 26) (g := g) (sv := sv) hp
      have bi : InR (bs0 (h 20) (h 26) (h 19 8) p g sv) := by rcases bp with y | y <;> omega
      refine sp_best (h := sw h 27 sv) hp gg hn (RI_mk bi ⟨fun y => ?_, fun y => ?_⟩)
      · have y : bs0 (h 20) (h 26) (h 19 8) p g sv ≤ 0 := y
        rw [if_pos y] at e
        exact ih sv left s (w + 1) (by omega) (by omega) l0 l1 s0 s1 e
      · have y : 0 < bs0 (h 20) (h 26) (h 19 8) p g sv := y
        rw [if_neg (by omega)] at e
        rcases bp with q | ⟨q1, q2, q3⟩
        · omega
        · have a := hl _ q1.1 q1.2
          have b := hc _ q1.1 q1.2
          rw [up_sw_self]
          have go := ih (upf sv (bs0 (h 20) (h 26) (h 19 8) p g sv) 1) (left - min left (h 22 (bs0 (h 20) (h 26) (h 19 8) p g sv) - h 21 (bs0 (h 20) (h 26) (h 19 8) p g sv))) (s + min left (h 22 (bs0 (h 20) (h 26) (h 19 8) p g sv) - h 21 (bs0 (h 20) (h 26) (h 19 8) p g sv)) * h 26 (bs0 (h 20) (h 26) (h 19 8) p g sv)) (w + 1) (by omega) (by omega)
          have m0 : 0 ≤ min left (h 22 (bs0 (h 20) (h 26) (h 19 8) p g sv) - h 21 (bs0 (h 20) (h 26) (h 19 8) p g sv)) := by omega
          have m1 : min left (h 22 (bs0 (h 20) (h 26) (h 19 8) p g sv) - h 21 (bs0 (h 20) (h 26) (h 19 8) p g sv)) ≤ left := by omega
          have c0 := Int.mul_nonneg m0 b.1
          have c1 := Int.mul_le_mul_of_nonneg_left b.2 m0
          have bb : 0 ≤ bs0 (h 20) (h 26) (h 19 8) p g sv ∧ bs0 (h 20) (h 26) (h 19 8) p g sv < 24 := by omega
          refine ⟨bb, bb, ?_, bb, bb, go (by omega) (by omega) (by omega) (by omega) e⟩
          show InR (h 22 (bs0 (h 20) (h 26) (h 19 8) p g sv) - h 21 (bs0 (h 20) (h 26) (h 19 8) p g sv))
          omega
/-- the class's first walk over the children -/
theorem sp_first {p g : Int} (hp : 0 ≤ p ∧ p < h 19 8) (gg : InR g) (hn : 1 ≤ h 19 8 ∧ h 19 8 ≤ 24) (hl : ∀ k, p < k → k < h 19 8 → 0 ≤ h 21 k ∧ h 21 k ≤ h 22 k ∧ h 22 k ≤ 100) {Lf Sm : Int} (k : ∀ sv, (∀ k, p < k → k < h 19 8 → h 20 k = p → sv k = 0) → WP D ad ca sc M_TR_chanceByShares 80 [(0, .ref (ad 19)), (1, vI p), (2, vI g), (3, vI Lf), (4, vL Sm), (6, vI 0)] [] (sw h 27 sv) Q) : ∀ (m : Nat) (sv : Int → Int) (left s w : Int), p < w → w + m = h 19 8 → -3000 + 100 * (h 19 8 - w) ≤ left → left ≤ 100 → left - sumR (fun k => if h 20 k = p then h 21 k else 0) w m = Lf → s + sumR (fun k => if h 20 k = p then h 21 k * h 26 k else 0) w m = Sm → (∀ k, p < k → k < w → h 20 k = p → sv k = 0) →
    WP D ad ca sc M_TR_chanceByShares 11 [(0, .ref (ad 19)), (1, vI p), (2, vI g), (3, vI left), (4, vL s), (6, vI w)] [] (sw h 27 sv) Q := by
  intro m
  induction m with
  | zero =>
    intro sv left s w w0 hm l0 l1 eL eS hs
    have eL : left - 0 = Lf := eL
    have eS : s + 0 = Sm := eS
    refine F_TR_chanceByShares_11 p g left s w (by omega) gg (by omega) (by omega) ⟨fun _ => ?_, fun z => ?_⟩
    · obtain rfl : left = Lf := by omega
      obtain rfl : s = Sm := by omega
      exact k sv (fun k k0 k1 => hs k k0 (by omega))
    · have z : w < h 19 8 := z
      omega
  | succ m ih =>
    intro sv left s w w0 hm l0 l1 eL eS hs
    have a := hl w w0 (by omega)
    have eL : left - ((if h 20 w = p then h 21 w else 0) + sumR (fun k => if h 20 k = p then h 21 k else 0) (w + 1) m) = Lf := eL
    have eS : s + ((if h 20 w = p then h 21 w * h 26 w else 0) + sumR (fun k => if h 20 k = p then h 21 k * h 26 k else 0) (w + 1) m) = Sm := eS
    refine F_TR_chanceByShares_11 p g left s w (by omega) gg (by omega) (by omega) ⟨fun z => ?_, fun z => ⟨by omega, fun z1 => ?_, fun z1 => ⟨by omega, by omega, by omega, by omega, ?_⟩⟩⟩
    · have z : h 19 8 ≤ w := z
      omega
    · have z1 : ¬ h 20 w = p := z1
      rw [if_neg z1] at eL eS
      refine ih sv left s (w + 1) (by omega) (by omega) (by omega) l1 (by omega) (by omega) (fun k k0 k1 kp => ?_)
      by_cases e : k = w
      · rw [e] at kp; exact absurd kp z1
      · exact hs k k0 (by omega) kp
    · have z1 : h 20 w = p := z1
      rw [if_pos z1] at eL eS
      rw [up_sw_self]
      refine ih (upf sv w 0) (left - h 21 w) (s + h 21 w * h 26 w) (w + 1) (by omega) (by omega) (by omega) (by omega) (by omega) (by omega) (fun k k0 k1 kp => ?_)
      by_cases e : k = w
      · rw [e, upf_same]
      · rw [upf_ne _ _ e]; exact hs k k0 (by omega) kp
theorem sp_byShares {p g : Int} (T : IvT (h 19 8) (h 20) (h 21) (h 22) (h 23) (h 24) (h 25) (x 28 25) (x 40) (x 41) (x 42) (x 43)) (S : SND (h 20) (h 21) (h 22) (h 19 8)) (hp : 0 ≤ p ∧ p < h 19 8) (h0 : 0 < h 24 p) (gg : g = 0 ∨ g = 1) (hc : ∀ k, p < k → k < h 19 8 → 0 ≤ h 26 k ∧ h 26 k ≤ 100000000)
    (k : 0 ≤ vsh (h 20) (h 21) (h 22) (h 26) (h 19 8) p g → vsh (h 20) (h 21) (h 22) (h 26) (h 19 8) p g ≤ 100000000 → ∀ sv, Q (some (vI (vsh (h 20) (h 21) (h 22) (h 26) (h 19 8) p g))) (sw h 27 sv)) : WP D ad ca sc M_TR_chanceByShares 0 [(0, .ref (ad 19)), (1, vI p), (2, vI g)] [] h Q := by
  have tb := T.2.1
  have t := T.2.2.2.2.1 p hp.1 hp.2
  have sp := S p hp.1 hp.2 (by omega)
  have hl : ∀ k, p < k → k < h 19 8 → 0 ≤ h 21 k ∧ h 21 k ≤ h 22 k ∧ h 22 k ≤ 100 := fun k k0 k1 => (T.2.2.2.2.1 k (by omega) k1).2.1
  have pl : ∀ k, 1 ≤ k → k < h 19 8 → h 20 k < k := fun k k0 k1 => (T.2.2.2.2.2.1 k k0 k1).1.2
  have lb := bsm_bd (par := h 20) (X := h 21) (n := h 19 8) (i := p) (fun k k0 k1 => by have := (T.2.2.2.2.1 k k0 k1).2.1; omega) tb.2
  have wb := wsum_bd (par := h 20) (lo := h 21) (ch := h 26) (p := p) (h 19 8 - 1 - p).toNat (p + 1) (fun k k0 k1 _ => ⟨(hl k (by omega) (by omega)).1, hc k (by omega) (by omega)⟩)
  have e1 := bsm_from (h 21) hp.1 hp.2 pl
  have e2 := bsm_from (fun k => h 21 k * h 26 k) hp.1 hp.2 pl
  rw [← e1] at wb
  rw [← e2] at wb
  have mb := mixR_bd (par := h 20) (lo := h 21) (hi := h 22) (ch := h 26) (g := g) hp (fun k k0 k1 => (hl k k0 k1).2.1) hc (chn (h 20) (h 19 8) p).toNat (fun _ => 0) (100 - bsm (h 20) (h 21) (h 19 8) p) (bsm (h 20) (fun k => h 21 k * h 26 k) (h 19 8) p) (by omega) (by omega) (by omega) (by omega)
  have vb : 0 ≤ vsh (h 20) (h 21) (h 22) (h 26) (h 19 8) p g ∧ vsh (h 20) (h 21) (h 22) (h 26) (h 19 8) p g ≤ 100000000 := by
    unfold vsh
    omega
  refine F_TR_chanceByShares_0 p g (by omega) (by omega) ?_
  have go := sp_first (D := D) (ad := ad) (ca := ca) (sc := sc) (Q := Q) (h := h) (p := p) (g := g) (Lf := 100 - bsm (h 20) (h 21) (h 19 8) p) (Sm := bsm (h 20) (fun k => h 21 k * h 26 k) (h 19 8) p) hp (by omega) tb hl (fun sv hs => ?_) (h 19 8 - 1 - p).toNat (h 27) 100 0 (p + 1) (by omega) (by omega) (by omega) (by omega) (by rw [e1]) (by rw [e2, Int.zero_add]) (fun k k0 k1 => by omega)
  · rw [sw_self] at go
    exact go
  · refine sp_give (R := mixR (h 20) (h 21) (h 22) (h 26) (h 19 8) p g (chn (h 20) (h 19 8) p).toNat (fun _ => 0) (100 - bsm (h 20) (h 21) (h 19 8) p) (bsm (h 20) (fun k => h 21 k * h 26 k) (h 19 8) p)) hp gg tb (by omega) hl hc (fun sv2 => k vb.1 vb.2 sv2) (chn (h 20) (h 19 8) p).toNat sv _ _ 0 (by omega) (by omega) (by omega) (by omega) (by omega) (by omega) ?_
    exact mixR_congr hp (fun _ _ _ => ⟨rfl, rfl, rfl, rfl⟩) _ _ _ _ _ (fun k k0 k1 kp => by rw [hs k k0 k1 kp])
end CB
