/-! families: the reference's marking -/
theorem sumR_upf {f : Int → Int} {i v : Int} : ∀ (k : Nat) (a : Int), a ≤ i → i < a + k → sumR (upf f i v) a k = sumR f a k + v - f i
  | 0, a, h1, h2 => by omega
  | k + 1, a, h1, h2 => by
    show upf f i v a + sumR (upf f i v) (a + 1) k = f a + sumR f (a + 1) k + v - f i
    by_cases e : a = i
    · subst e
      rw [upf_same, sumR_congr (f := upf f a v) (g := f) k (a + 1) (fun j h3 h4 => upf_ne _ _ (by omega))]
      omega
    · rw [upf_ne _ _ e, sumR_upf k (a + 1) (by omega) (by omega)]
      omega
theorem sumR_nonneg {f : Int → Int} : ∀ (k : Nat) (a : Int), (∀ j, a ≤ j → j < a + k → 0 ≤ f j) → 0 ≤ sumR f a k
  | 0, _, _ => by simp [sumR]
  | k + 1, a, h => by
    have h1 := h a (Int.le_refl a) (by omega)
    have h2 := sumR_nonneg k (a + 1) (fun j h1 h2 => h j (by omega) (by omega))
    show 0 ≤ f a + sumR f (a + 1) k
    omega
section MK
variable {D : va_G} {ad : Nat → Nat} {ca : Nat → ClassId} {sc : SC} {h : Hp} {Q : Option Value → Hp → Prop} {n : Int}
/-- within a sweep: at row a, column b, the pairs before are in order, or something was moved -/
def SW (R : Int → Int → Prop) (n : Int) (f0 : Int → Int) (a b more : Int) (f : Int → Int) : Prop :=
  Lab0 R n f ∧ ((more = 0 ∧ f = f0 ∧ (∀ x y, 0 ≤ x → x < a → 0 ≤ y → y < n → R x y → f x ≤ f y) ∧ (∀ y, 0 ≤ y → y < b → R a y → f a ≤ f y)) ∨ (more = 1 ∧ sumR f 0 n.toNat < sumR f0 0 n.toNat))
theorem sp_mark_56 (hn : h 28 1 = n ∧ 0 ≤ n ∧ n ≤ 80) (hB : Bnd (h 30) n) (hq : 1 ≤ h 28 6 ∧ h 28 6 ≤ 100) {f0 : Int → Int} {a : Int} (ha : 0 ≤ a ∧ a < n)
    (k : ∀ (more : Int) (f : Int → Int), SW (alk (h 30) (h 28 6)) n f0 (a + 1) 0 more f → WP D ad ca sc M_MO_mark 46 [(0, .ref (ad 28)), (1, vI more), (2, vI (a + 1))] [] (sw h 31 f) Q) :
    ∀ (m : Nat) (b more : Int) (f : Int → Int), 0 ≤ b → b + m = n → SW (alk (h 30) (h 28 6)) n f0 a b more f →
      WP D ad ca sc M_MO_mark 56 [(0, .ref (ad 28)), (1, vI more), (2, vI a), (3, vI b)] [] (sw h 31 f) Q := by
  intro m
  induction m with
  | zero =>
    intro b more f h0 hm S
    have gm : InR more := by rcases S.2 with ⟨z, _⟩ | ⟨z, _⟩ <;> omega
    refine F_MO_mark_56 more a b gm (by omega) (by omega) ⟨fun c => k more f ⟨S.1, ?_⟩, fun c => ?_⟩
    · rcases S.2 with ⟨z1, z2, z3, z4⟩ | z
      · refine Or.inl ⟨z1, z2, fun x y x0 x1 y0 y1 r => ?_, fun y y0 y1 => by omega⟩
        by_cases e : x = a
        · subst e; exact z4 y y0 (by omega) r
        · exact z3 x y x0 (by omega) y0 y1 r
      · exact Or.inr z
    · have c : b < h 28 1 := c
      omega
  | succ m ih =>
    intro b more f h0 hm S
    have gm : InR more := by rcases S.2 with ⟨z, _⟩ | ⟨z, _⟩ <;> omega
    have stay : (alk (h 30) (h 28 6) a b → f a ≤ f b) → WP D ad ca sc M_MO_mark 56 [(0, .ref (ad 28)), (1, vI more), (2, vI a), (3, vI (b + 1))] [] (sw h 31 f) Q := by
      intro q
      refine ih (b + 1) more f (by omega) (by omega) ⟨S.1, ?_⟩
      rcases S.2 with ⟨z1, z2, z3, z4⟩ | z
      · refine Or.inl ⟨z1, z2, z3, fun y y0 y1 r => ?_⟩
        by_cases e : y = b
        · subst e; exact q r
        · exact z4 y y0 (by omega) r
      · exact Or.inr z
    refine F_MO_mark_56 more a b gm (by omega) (by omega) ⟨fun c => ?_, fun c => ⟨by omega, by omega, fun c1 => ?_, fun c1 => ?_⟩⟩
    · have c : h 28 1 ≤ b := c
      omega
    · exact stay (fun _ => c1)
    · have c1 : f b < f a := c1
      refine sp_MO_areAlike (n := n) (h := sw h 31 f) (by omega) hB hq ha (by omega) (fun r => rb1 ⟨by omega, by omega, ?_⟩) (fun r => rb0 (stay (fun z => absurd z r)))
      rw [up_sw_self]
      have r : alk (h 30) (h 28 6) a b := r
      refine ih (b + 1) 1 _ (by omega) (by omega) ⟨fun i i0 i1 => ?_, Or.inr ⟨rfl, ?_⟩⟩
      · by_cases e : i = a
        · subst e
          rw [upf_same]
          have x := S.1 b (by omega) (by omega)
          refine ⟨?_, fun g hg => ?_⟩
          · have y := (S.1 i i0 i1).1
            show 0 ≤ f b ∧ f b ≤ i
            omega
          · show g (f b) = g i
            rw [x.2 g hg]
            exact (hg i b i0 i1 (by omega) (by omega) r).symm
        · rw [upf_ne _ _ e]
          exact S.1 i i0 i1
      · rw [sumR_upf _ _ ha.1 (by omega)]
        show sumR f 0 n.toNat + f b - f a < _
        rcases S.2 with ⟨z1, z2, z3, z4⟩ | z
        · rw [← z2]; omega
        · have := z.2; omega
theorem sp_mark_46 (hn : h 28 1 = n ∧ 0 ≤ n ∧ n ≤ 80) (hB : Bnd (h 30) n) (hq : 1 ≤ h 28 6 ∧ h 28 6 ≤ 100) {f0 : Int → Int}
    (k : ∀ (more : Int) (f : Int → Int), SW (alk (h 30) (h 28 6)) n f0 n 0 more f → WP D ad ca sc M_MO_mark 38 [(0, .ref (ad 28)), (1, vI more)] [] (sw h 31 f) Q) :
    ∀ (m : Nat) (a more : Int) (f : Int → Int), 0 ≤ a → a + m = n → SW (alk (h 30) (h 28 6)) n f0 a 0 more f →
      WP D ad ca sc M_MO_mark 46 [(0, .ref (ad 28)), (1, vI more), (2, vI a)] [] (sw h 31 f) Q := by
  intro m
  induction m with
  | zero =>
    intro a more f h0 hm S
    have gm : InR more := by rcases S.2 with ⟨z, _⟩ | ⟨z, _⟩ <;> omega
    have e : a = n := by omega
    refine F_MO_mark_46 more a gm (by omega) ⟨fun c => k more f (by rw [e] at S; exact S), fun c => ?_⟩
    have c : a < h 28 1 := c
    omega
  | succ m ih =>
    intro a more f h0 hm S
    have gm : InR more := by rcases S.2 with ⟨z, _⟩ | ⟨z, _⟩ <;> omega
    refine F_MO_mark_46 more a gm (by omega) ⟨fun c => ?_, fun c => ?_⟩
    · have c : h 28 1 ≤ a := c
      omega
    · exact sp_mark_56 hn hB hq (by omega) (fun more f S => ih (a + 1) more f (by omega) (by omega) S) n.toNat 0 more f (by omega) (by omega) S
theorem sp_mark_38 (hn : h 28 1 = n ∧ 0 ≤ n ∧ n ≤ 80) (hB : Bnd (h 30) n) (hq : 1 ≤ h 28 6 ∧ h 28 6 ≤ 100) (k : ∀ g, IsLab (alk (h 30) (h 28 6)) n g → Q none (sw h 31 g)) :
    ∀ (s : Nat) (f : Int → Int), sumR f 0 n.toNat < s → Lab0 (alk (h 30) (h 28 6)) n f → WP D ad ca sc M_MO_mark 38 [(0, .ref (ad 28)), (1, vI 1)] [] (sw h 31 f) Q := by
  intro s
  induction s with
  | zero =>
    intro f hs L
    have := sumR_nonneg (f := f) n.toNat 0 (fun j j0 j1 => (L j j0 (by omega)).1.1)
    omega
  | succ s ih =>
    intro f hs L
    refine F_MO_mark_38 1 i1 ⟨fun c => absurd c (by decide), fun _ => ?_⟩
    refine sp_mark_46 (f0 := f) hn hB hq (fun more f2 S => ?_) n.toNat 0 0 f (by omega) (by omega) ⟨L, Or.inl ⟨rfl, rfl, fun x y x0 x1 => by omega, fun y y0 y1 => by omega⟩⟩
    rcases S.2 with ⟨z1, z2, z3, z4⟩ | ⟨z1, z2⟩
    · subst z1
      refine F_MO_mark_38 0 i0 ⟨fun _ => k f2 ⟨fun a b a0 a1 b0 b1 r => ?_, S.1⟩, fun c => absurd rfl c⟩
      exact Int.le_antisymm (z3 a b a0 a1 b0 b1 r) (z3 b a b0 b1 a0 a1 (alk_symm r))
    · subst z1
      exact ih f2 (by omega) S.1
theorem sp_mark_15 (hn : h 28 1 = n ∧ 0 ≤ n ∧ n ≤ 80) (hB : Bnd (h 30) n) (hq : 1 ≤ h 28 6 ∧ h 28 6 ≤ 100) (k : ∀ g, IsLab (alk (h 30) (h 28 6)) n g → Q none (sw h 31 g)) :
    ∀ (m : Nat) (w : Int) (f : Int → Int), 0 ≤ w → w + m = n → (∀ i, 0 ≤ i → i < w → f i = i) → WP D ad ca sc M_MO_mark 15 [(0, .ref (ad 28)), (1, vI w)] [] (sw h 31 f) Q := by
  intro m
  induction m with
  | zero =>
    intro w f h0 hm hf
    refine F_MO_mark_15 w (by omega) ⟨fun c => ?_, fun c => ?_⟩
    · refine sp_mark_38 hn hB hq k (sumR f 0 n.toNat + 1).toNat f ?_ (fun i i0 i1 => ?_)
      · have := sumR_nonneg (f := f) n.toNat 0 (fun j j0 j1 => by rw [hf j j0 (by omega)]; exact j0)
        omega
      · rw [hf i i0 (by omega)]
        exact ⟨by omega, fun _ _ => rfl⟩
    · have c : w < h 28 1 := c
      omega
  | succ m ih =>
    intro w f h0 hm hf
    refine F_MO_mark_15 w (by omega) ⟨fun c => ?_, fun c => ⟨by omega, ?_⟩⟩
    · have c : h 28 1 ≤ w := c
      omega
    · rw [up_sw_self]
      refine ih (w + 1) _ (by omega) (by omega) (fun i i0 i1 => ?_)
      by_cases e : i = w
      · subst e; exact upf_same _ _ _
      · rw [upf_ne _ _ e]; exact hf i i0 (by omega)
/-- the reference with its families marked -/
def mkd (h : Hp) (g : Int → Int) : Hp := sw (up h 28 5 1) 31 g
theorem mkd_self (h : Hp) (e : h 28 5 = 1) : mkd h (h 31) = h := by
  unfold mkd
  have e2 : up h 28 5 1 = h := by
    rw [up_sw, ← e, upf_id, sw_self]
  rw [e2, sw_self]
theorem mkd_mkd (h : Hp) (g g2 : Int → Int) : mkd (mkd h g) g2 = mkd h g2 := by
  unfold mkd
  funext k
  by_cases e1 : k = 31
  · simp [sw, e1]
  · by_cases e2 : k = 28
    · subst e2
      simp [sw, up]
      funext i
      unfold upf
      split <;> rfl
    · simp [sw, up, e1, e2]
theorem sp_mark (hn : 0 ≤ h 28 1 ∧ h 28 1 ≤ 80) (hB : Bnd (h 30) (h 28 1)) (hq : 1 ≤ h 28 6 ∧ h 28 6 ≤ 100) (hm : h 28 5 = 0 ∨ h 28 5 = 1) (hl : h 28 5 = 1 → IsLab (alk (h 30) (h 28 6)) (h 28 1) (h 31)) (k : ∀ g, IsLab (alk (h 30) (h 28 6)) (h 28 1) g → Q none (mkd h g)) : WP D ad ca sc M_MO_mark 0 [(0, .ref (ad 28))] [] h Q := by
  refine F_MO_mark_0 ⟨fun c => ?_, fun c => ?_⟩
  · have := sp_mark_15 (D := D) (ad := ad) (ca := ca) (sc := sc) (Q := Q) (h := up h 28 5 1) (n := h 28 1) ⟨rfl, hn.1, hn.2⟩ hB hq k (h 28 1).toNat 0 (h 31) (by omega) (by omega) (fun i i0 i1 => by omega)
    have e : sw (up h 28 5 1) 31 (h 31) = up h 28 5 1 := sw_self (up h 28 5 1) 31
    rw [e] at this
    exact this
  · have e : h 28 5 = 1 := by omega
    have := k (h 31) (hl e)
    rw [mkd_self h e] at this
    exact this
/-- marking out of the invariant: the labels are the class's -/
theorem IvS.facts {n a : Int} {B dy kd fm : Int → Int} {n' a' mk : Int} {B' dy' fm' : Int → Int} (S : IvS n a B dy kd fm n' a' mk B' dy' fm') : n = n' ∧ (0 ≤ n ∧ n ≤ 80) ∧ a = a' ∧ (1 ≤ a ∧ a ≤ 100) ∧ (mk = 0 ∨ mk = 1) := ⟨S.1, S.2.1, S.2.2.1, S.2.2.2.1, S.2.2.2.2.2.2.2.2.1⟩
theorem IvS.Bnd' {n a : Int} {B dy kd fm : Int → Int} {n' a' mk : Int} {B' dy' fm' : Int → Int} (S : IvS n a B dy kd fm n' a' mk B' dy' fm') : Bnd B' n' := by
  intro i i0 i1
  rw [← S.1] at i1
  rw [← S.2.2.2.2.1 i i0 i1]
  exact S.2.2.2.2.2.1 i i0 i1
theorem IvS.lab {n a : Int} {B dy kd fm : Int → Int} {n' a' mk : Int} {B' dy' fm' : Int → Int} (S : IvS n a B dy kd fm n' a' mk B' dy' fm') {g : Int → Int} : IsLab (alk B a) n g ↔ IsLab (alk B' a') n' g := by
  rw [← S.1, ← S.2.2.1]
  constructor
  · exact IsLab.congr (fun x y x0 x1 y0 y1 => alk_congr S.2.2.2.2.1 x0 x1 y0 y1) (fun _ _ _ => rfl)
  · exact IsLab.congr (fun x y x0 x1 y0 y1 => (alk_congr S.2.2.2.2.1 x0 x1 y0 y1).symm) (fun _ _ _ => rfl)
theorem sp_mark2 {c : Hp} (S : IvS (c 1 5) (c 1 6) (c 2) (c 3) (c 4) (c 5) (h 28 1) (h 28 6) (h 28 5) (h 30) (h 29) (h 31)) (k : ∀ g, IsLab (alk (c 2) (c 1 6)) (c 1 5) g → Q none (mkd h g)) : WP D ad ca sc M_MO_mark 0 [(0, .ref (ad 28))] [] h Q := by
  obtain ⟨s1, s2, s3, s4, s5⟩ := S.facts
  exact sp_mark (by omega) S.Bnd' (by omega) s5 (fun e => S.lab.mp (S.2.2.2.2.2.2.2.2.2 e)) (fun g hg => k g (S.lab.mpr hg))
theorem IvS.mark {c : Hp} (S : IvS (c 1 5) (c 1 6) (c 2) (c 3) (c 4) (c 5) (h 28 1) (h 28 6) (h 28 5) (h 30) (h 29) (h 31)) {g : Int → Int} (hg : IsLab (alk (c 2) (c 1 6)) (c 1 5) g) : IvS (c 1 5) (c 1 6) (c 2) (c 3) (c 4) (c 5) (mkd h g 28 1) (mkd h g 28 6) (mkd h g 28 5) (mkd h g 30) (mkd h g 29) (mkd h g 31) :=
  ⟨S.1, S.2.1, S.2.2.1, S.2.2.2.1, S.2.2.2.2.1, S.2.2.2.2.2.1, S.2.2.2.2.2.2.1, S.2.2.2.2.2.2.2.1, Or.inr rfl, fun _ => hg⟩
theorem Inv2.mark {N : Int} {c : Hp} (I : Inv2 N c h) {g : Int → Int} (hg : IsLab (alk (c 2) (c 1 6)) (c 1 5) g) : Inv2 N c (mkd h g) := ⟨I.1, I.2.1.mark hg, I.2.2.1, I.2.2.2.1, I.2.2.2.2.1, I.2.2.2.2.2⟩
end MK
