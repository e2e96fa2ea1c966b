/-! measures -/
/-- how many of family f were on days lo .. d, among the first v -/
def oc (fm dy : Int → Int) (lo d f : Int) (v : Nat) : Int := sumR (fun j => if fm j = f ∧ lo ≤ dy j ∧ dy j ≤ d then 1 else 0) 0 v
theorem oc_succ (fm dy : Int → Int) (lo d f : Int) (v : Nat) : oc fm dy lo d f (v + 1) = oc fm dy lo d f v + (if fm v = f ∧ lo ≤ dy v ∧ dy v ≤ d then 1 else 0) := by
  unfold oc
  rw [sumR_snoc, Int.zero_add]
theorem oc_nonneg (fm dy : Int → Int) (lo d f : Int) : ∀ v : Nat, 0 ≤ oc fm dy lo d f v
  | 0 => by simp [oc, sumR]
  | v + 1 => by
    have := oc_nonneg fm dy lo d f v
    rw [oc_succ]; split <;> omega
theorem oc_le (fm dy : Int → Int) (lo d f : Int) : ∀ v : Nat, oc fm dy lo d f v ≤ v
  | 0 => by simp [oc, sumR]
  | v + 1 => by
    have := oc_le fm dy lo d f v
    rw [oc_succ]; split <;> omega
theorem oc_mono (fm dy : Int → Int) (lo d f : Int) {v : Nat} : ∀ k : Nat, oc fm dy lo d f v ≤ oc fm dy lo d f (v + k)
  | 0 => Int.le_refl _
  | k + 1 => by
    have := oc_mono fm dy lo d f (v := v) k
    rw [← Nat.add_assoc, oc_succ]; split <;> omega
/-- the class's running greatest -/
def GFr (fm dy : Int → Int) (lo d : Int) : Nat → Int
  | 0 => 0
  | v + 1 => if lo ≤ dy v ∧ dy v ≤ d then max (GFr fm dy lo d v) (oc fm dy lo d (fm v) (v + 1)) else GFr fm dy lo d v
/-- the reference's: over labels -/
def MGr (fm dy : Int → Int) (lo d : Int) (n : Nat) : Nat → Int
  | 0 => 0
  | s + 1 => if fm s = s then max (MGr fm dy lo d n s) (oc fm dy lo d s n) else MGr fm dy lo d n s
theorem GFr_bd (fm dy : Int → Int) (lo d : Int) : ∀ v : Nat, 0 ≤ GFr fm dy lo d v ∧ GFr fm dy lo d v ≤ v
  | 0 => by simp [GFr]
  | v + 1 => by
    have := GFr_bd fm dy lo d v
    have := oc_le fm dy lo d (fm v) (v + 1)
    unfold GFr; split <;> omega
theorem GFr_ge (fm dy : Int → Int) (lo d f : Int) : ∀ v : Nat, oc fm dy lo d f v ≤ GFr fm dy lo d v
  | 0 => by simp [oc, sumR, GFr]
  | v + 1 => by
    have := GFr_ge fm dy lo d f v
    unfold GFr
    by_cases q : lo ≤ dy v ∧ dy v ≤ d
    · rw [if_pos q]
      by_cases e : fm v = f
      · rw [e]; omega
      · rw [oc_succ, if_neg (fun z => e z.1)]; omega
    · rw [if_neg q, oc_succ, if_neg (fun z => q z.2)]; omega
theorem GFr_le (fm dy : Int → Int) (lo d X : Int) {n : Nat} (hX : 0 ≤ X) (h : ∀ j : Nat, j < n → oc fm dy lo d (fm j) n ≤ X) : ∀ v : Nat, v ≤ n → GFr fm dy lo d v ≤ X
  | 0, _ => hX
  | v + 1, hv => by
    have a := GFr_le fm dy lo d X hX h v (by omega)
    have b := h v (by omega)
    have c := oc_mono fm dy lo d (fm v) (v := v + 1) (n - (v + 1))
    rw [Nat.add_sub_cancel' hv] at c
    unfold GFr; split <;> omega
theorem MGr_ge (fm dy : Int → Int) (lo d : Int) (n : Nat) : ∀ s : Nat, 0 ≤ MGr fm dy lo d n s ∧ ∀ j : Nat, j < s → fm j = j → oc fm dy lo d j n ≤ MGr fm dy lo d n s
  | 0 => ⟨by simp [MGr], fun j hj => absurd hj (Nat.not_lt_zero j)⟩
  | s + 1 => by
    obtain ⟨a, b⟩ := MGr_ge fm dy lo d n s
    unfold MGr
    constructor
    · split <;> omega
    · intro j hj hl
      by_cases e : j = s
      · subst e
        rw [if_pos hl]; omega
      · have := b j (by omega) hl
        split <;> omega
theorem MGr_le (fm dy : Int → Int) (lo d X : Int) {n : Nat} (hX : 0 ≤ X) (h : ∀ f : Int, oc fm dy lo d f n ≤ X) : ∀ s : Nat, MGr fm dy lo d n s ≤ X
  | 0 => hX
  | s + 1 => by
    have a := MGr_le fm dy lo d X hX h s
    have b := h s
    unfold MGr; split <;> omega
theorem MGr_bd (fm dy : Int → Int) (lo d : Int) (n : Nat) (s : Nat) : 0 ≤ MGr fm dy lo d n s ∧ MGr fm dy lo d n s ≤ n := ⟨(MGr_ge fm dy lo d n s).1, MGr_le fm dy lo d n (by omega) (fun f => oc_le fm dy lo d f n) s⟩
theorem GF_MG {R : Int → Int → Prop} {fm dy : Int → Int} {lo d : Int} {n : Nat} (L : IsLab R n fm) : GFr fm dy lo d n = MGr fm dy lo d n n := by
  apply Int.le_antisymm
  · refine GFr_le fm dy lo d _ (MGr_ge fm dy lo d n n).1 (fun j hj => ?_) n (Nat.le_refl n)
    have b := (L.2 j (by omega) (by omega)).1
    have e := L.idem (i := (j : Int)) (by omega) (by omega)
    obtain ⟨k, hk⟩ : ∃ k : Nat, (k : Int) = fm j := ⟨(fm j).toNat, Int.toNat_of_nonneg b.1⟩
    rw [← hk]
    refine (MGr_ge fm dy lo d n n).2 k (by omega) ?_
    rw [hk]; exact e
  · exact MGr_le fm dy lo d _ (GFr_bd fm dy lo d n).1 (fun f => GFr_ge fm dy lo d f n) n
theorem oc_congr {fm fm' dy dy' : Int → Int} {lo lo' d f : Int} (n : Nat) (h : ∀ j : Int, 0 ≤ j → j < n → fm j = fm' j ∧ dy j = dy' j ∧ (lo ≤ dy j ↔ lo' ≤ dy j)) : oc fm dy lo d f n = oc fm' dy' lo' d f n := by
  unfold oc
  refine sumR_congr n 0 (fun j j0 j1 => ?_)
  obtain ⟨a, b, c⟩ := h j j0 (by omega)
  simp only [← a, ← b, c]
/-- a law's measure on a day, by the class's cells -/
def mlo (c : Hp) (k d : Int) : Int := max 0 (d - c 14 k + 1)
def tmv (c : Hp) (d s : Int) : Int := if d < s then 0 else if c 8 d = -1000005 then 0 else if c 8 (d - s) = -1000005 then 0 else if 0 ≤ c 8 d - c 8 (d - s) then c 8 d - c 8 (d - s) else -(c 8 d - c 8 (d - s))
def mv (c : Hp) (k d : Int) : Int :=
  if c 12 k = 3 then sumR (fun j => if mlo c k d ≤ c 3 j ∧ c 3 j ≤ d then 1 else 0) 0 (c 1 5).toNat
  else if c 12 k = 4 then GFr (c 5) (c 3) (mlo c k d) d (c 1 5).toNat
  else if c 12 k = 5 then tmv c d (c 14 k)
  else if c 12 k = 6 then sumR (c 9) (mlo c k d) (d - mlo c k d + 1).toNat
  else sumR (fun j => if c 4 j = c 12 k ∧ mlo c k d ≤ c 3 j ∧ c 3 j ≤ d then 1 else 0) 0 (c 1 5).toNat
theorem mv_sw (h : Hp) (g : Int → Int) (k d : Int) : mv (sw h 6 g) k d = mv h k d := rfl
section ME2
variable {D : va_G} {ad : Nat → Nat} {ca : Nat → ClassId} {sc : SC} {h : Hp} {Q : Option Value → Hp → Prop} {N n : Int}
theorem sp_isOfDays {v1 v2 v3 : Int} (h1 : 0 ≤ v1 ∧ v1 < 80) (g2 : InR v2) (g3 : InR v3) (k1 : v2 ≤ h 3 v1 ∧ h 3 v1 ≤ v3 → Q (some (vI 1)) h) (k0 : ¬ (v2 ≤ h 3 v1 ∧ h 3 v1 ≤ v3) → Q (some (vI 0)) h) : WP D ad ca sc M_SH_isOfDays 0 [(0, .ref (ad 1)), (1, vI v1), (2, vI v2), (3, vI v3)] [] h Q :=
  F_SH_isOfDays_0 v1 v2 v3 (by omega) g2 g3 ⟨h1, fun c => k0 (by omega), fun c => ⟨h1, fun c => k0 (by omega), fun c => k1 (by omega)⟩⟩
theorem sp_cDays {v1 v2 : Int} (g1 : InR v1) (g2 : InR v2) (hn : 0 ≤ h 1 5 ∧ h 1 5 ≤ 80) : ∀ (m : Nat) (acc w : Int), 0 ≤ w → 0 ≤ acc → acc ≤ w → w + m = h 1 5 → Q (some (vI (acc + sumR (fun j => if v1 ≤ h 3 j ∧ h 3 j ≤ v2 then 1 else 0) w m))) h →
    WP D ad ca sc M_SH_countOfDays 5 [(0, .ref (ad 1)), (1, vI v1), (2, vI v2), (3, vI acc), (4, vI w)] [] h Q := by
  intro m
  induction m with
  | zero =>
    intro acc w h0 h2 h3 hm k
    refine F_SH_countOfDays_5 v1 v2 acc w g1 g2 (by omega) (by omega) ⟨fun c => ?_, fun c => absurd c (by omega)⟩
    rw [show sumR (fun j => if v1 ≤ h 3 j ∧ h 3 j ≤ v2 then (1 : Int) else 0) w 0 = 0 from rfl, Int.add_zero] at k
    exact k
  | succ m ih =>
    intro acc w h0 h2 h3 hm k
    have ek : sumR (fun j => if v1 ≤ h 3 j ∧ h 3 j ≤ v2 then (1 : Int) else 0) w (m + 1) = (if v1 ≤ h 3 w ∧ h 3 w ≤ v2 then 1 else 0) + sumR (fun j => if v1 ≤ h 3 j ∧ h 3 j ≤ v2 then (1 : Int) else 0) (w + 1) m := rfl
    rw [ek] at k
    refine F_SH_countOfDays_5 v1 v2 acc w g1 g2 (by omega) (by omega) ⟨fun c => absurd c (by omega), fun c => sp_isOfDays (by omega) g1 g2 (fun c1 => rb1 ?_) (fun c1 => rb0 ?_)⟩
    · rw [if_pos c1, ← Int.add_assoc] at k
      exact ih (acc + 1) (w + 1) (by omega) (by omega) (by omega) (by omega) k
    · rw [if_neg c1, Int.zero_add] at k
      exact ih acc (w + 1) (by omega) (by omega) (by omega) (by omega) k
theorem sp_cKind {v1 v2 v3 : Int} (g1 : InR v1) (g2 : InR v2) (g3 : InR v3) (hn : 0 ≤ h 1 5 ∧ h 1 5 ≤ 80) : ∀ (m : Nat) (acc w : Int), 0 ≤ w → 0 ≤ acc → acc ≤ w → w + m = h 1 5 → Q (some (vI (acc + sumR (fun j => if h 4 j = v1 ∧ v2 ≤ h 3 j ∧ h 3 j ≤ v3 then 1 else 0) w m))) h →
    WP D ad ca sc M_SH_countOfKind 6 [(0, .ref (ad 1)), (1, vI v1), (2, vI v2), (3, vI v3), (4, vI acc), (5, vI w)] [] h Q := by
  intro m
  induction m with
  | zero =>
    intro acc w h0 h2 h3 hm k
    refine F_SH_countOfKind_6 v1 v2 v3 acc w g1 g2 g3 (by omega) (by omega) ⟨fun c => ?_, fun c => absurd c (by omega)⟩
    rw [show sumR (fun j => if h 4 j = v1 ∧ v2 ≤ h 3 j ∧ h 3 j ≤ v3 then (1 : Int) else 0) w 0 = 0 from rfl, Int.add_zero] at k
    exact k
  | succ m ih =>
    intro acc w h0 h2 h3 hm k
    have ek : sumR (fun j => if h 4 j = v1 ∧ v2 ≤ h 3 j ∧ h 3 j ≤ v3 then (1 : Int) else 0) w (m + 1) = (if h 4 w = v1 ∧ v2 ≤ h 3 w ∧ h 3 w ≤ v3 then 1 else 0) + sumR (fun j => if h 4 j = v1 ∧ v2 ≤ h 3 j ∧ h 3 j ≤ v3 then (1 : Int) else 0) (w + 1) m := rfl
    rw [ek] at k
    refine F_SH_countOfKind_6 v1 v2 v3 acc w g1 g2 g3 (by omega) (by omega) ⟨fun c => absurd c (by omega), fun c => ⟨by omega, fun c0 => ?_, fun c0 => sp_isOfDays (by omega) g2 g3 (fun c1 => rb1 ?_) (fun c1 => rb0 ?_)⟩⟩
    · rw [if_neg (fun z => c0 z.1), Int.zero_add] at k
      exact ih acc (w + 1) (by omega) (by omega) (by omega) (by omega) k
    · rw [if_pos ⟨c0, c1⟩, ← Int.add_assoc] at k
      exact ih (acc + 1) (w + 1) (by omega) (by omega) (by omega) (by omega) k
    · rw [if_neg (fun z => c1 z.2), Int.zero_add] at k
      exact ih acc (w + 1) (by omega) (by omega) (by omega) (by omega) k
theorem sp_gas {v2 : Int} (h2 : v2 < 1000) (hg : ∀ j, 0 ≤ j → j < 1000 → 0 ≤ h 9 j ∧ h 9 j ≤ 10000) (g2 : InR v2) : ∀ (m : Nat) (acc w : Int), 0 ≤ w → 0 ≤ acc → acc ≤ 10000 * w → w + m = v2 + 1 → Q (some (vI (acc + sumR (h 9) w m))) h →
    WP D ad ca sc M_RE_gasOfDays 5 [(0, .ref (ad 7)), (2, vI v2), (3, vI acc), (4, vI w)] [] h Q := by
  intro m
  induction m with
  | zero =>
    intro acc w h0 h3 h4 hm k
    refine F_RE_gasOfDays_5 v2 acc w g2 (by omega) (by omega) ⟨fun c => ?_, fun c => absurd c (by omega)⟩
    rw [show sumR (h 9) w 0 = 0 from rfl, Int.add_zero] at k
    exact k
  | succ m ih =>
    intro acc w h0 h3 h4 hm k
    have b := hg w h0 (by omega)
    rw [show sumR (h 9) w (m + 1) = h 9 w + sumR (h 9) (w + 1) m from rfl, ← Int.add_assoc] at k
    exact F_RE_gasOfDays_5 v2 acc w g2 (by omega) (by omega) ⟨fun c => absurd c (by omega), fun c => ⟨by omega, ih (acc + h 9 w) (w + 1) (by omega) (by omega) (by omega) (by omega) k⟩⟩
theorem sp_tiltMove {d s : Int} (hd : 0 ≤ d ∧ d < 1000) (hs : 1 ≤ s ∧ s ≤ 30) (hb : ∀ j, 0 ≤ j → j ≤ d → h 8 j = -1000005 ∨ (-10000 ≤ h 8 j ∧ h 8 j ≤ 10000)) (k : Q (some (vI (tmv h d s))) h) : WP D ad ca sc M_RE_tiltMove 0 [(0, .ref (ad 7)), (1, vI d), (2, vI s)] [] h Q := by
  refine F_RE_tiltMove_0 d s (by omega) (by omega) ⟨fun c => ?_, fun c => ⟨by omega, fun c1 => ?_, fun c1 => ⟨by omega, fun c2 => ⟨by omega, by omega, ?_, ?_⟩, fun c2 => ?_⟩⟩⟩
  · unfold tmv at k; rw [if_pos c] at k; exact k
  · unfold tmv at k; rw [if_neg (by omega), if_pos c1] at k; exact k
  · have := hb d (by omega) (by omega)
    have := hb (d - s) (by omega) (by omega)
    omega
  · unfold tmv at k; rw [if_neg (by omega), if_neg c1, if_neg c2] at k; exact k
  · unfold tmv at k; rw [if_neg (by omega), if_neg c1, if_pos c2] at k; exact k
theorem sp_gf {R : Int → Int → Prop} {v1 v2 : Int} (g1 : InR v1) (g2 : InR v2) (hn : 0 ≤ h 1 5 ∧ h 1 5 ≤ 80) (L : IsLab R (h 1 5) (h 5)) (k : ∀ g, Q (some (vI (GFr (h 5) (h 3) v1 v2 (h 1 5).toNat))) (sw h 6 g)) :
    ∀ (m : Nat) (w : Nat) (ta : Int → Int), (w : Int) + m = h 1 5 → (∀ f : Int, 0 ≤ f → f < w → h 5 f = f → ta f = oc (h 5) (h 3) v1 v2 f w) →
      WP D ad ca sc M_SH_countOfGreatestFamily 5 [(0, .ref (ad 1)), (1, vI v1), (2, vI v2), (3, vI (GFr (h 5) (h 3) v1 v2 w)), (4, vI (w : Int))] [] (sw h 6 ta) Q := by
  intro m
  induction m with
  | zero =>
    intro w ta hm ht
    have b := GFr_bd (h 5) (h 3) v1 v2 w
    refine F_SH_countOfGreatestFamily_5 v1 v2 _ _ g1 g2 (by omega) (by omega) ⟨fun c => ?_, fun c => ?_⟩
    · have := k ta
      rw [show (h 1 5).toNat = w by omega] at this
      exact this
    · have c : (w : Int) < h 1 5 := c
      omega
  | succ m ih =>
    intro w ta hm ht
    have b := GFr_bd (h 5) (h 3) v1 v2 w
    have lw := (L.2 w (by omega) (by omega)).1
    have ow := oc_le (h 5) (h 3) v1 v2 (h 5 w) w
    have ow0 := oc_nonneg (h 5) (h 3) v1 v2 (h 5 w) w
    -- the tally of w's family, once w's own is cleared
    have tw : upf ta w 0 (h 5 w) = oc (h 5) (h 3) v1 v2 (h 5 w) w := by
      by_cases e : h 5 w = w
      · rw [e, upf_same]
        symm
        unfold oc
        rw [sumR_congr (g := fun _ => 0) w 0 (fun j j0 j1 => by
          have := (L.2 j j0 (by omega)).1
          rw [if_neg (by omega)])]
        have := sumR_bd (f := fun _ => 0) (m := 0) (M := 0) w 0 (fun j _ _ => ⟨Int.le_refl 0, Int.le_refl 0⟩)
        omega
      · rw [upf_ne _ _ e]
        exact ht (h 5 w) lw.1 (by omega) (L.idem (by omega) (by omega))
    have old : ∀ f : Int, 0 ≤ f → f < ((w + 1 : Nat) : Int) → h 5 f = f → ¬ f = h 5 w → upf ta w 0 f = oc (h 5) (h 3) v1 v2 f (w + 1) := by
      intro f f0 f1 fl fe
      have e : ¬ f = w := fun z => fe (by rw [← z]; exact fl.symm)
      rw [upf_ne _ _ e, oc_succ, if_neg (fun z => fe z.1.symm), Int.add_zero]
      exact ht f f0 (by omega) fl
    refine F_SH_countOfGreatestFamily_5 v1 v2 _ _ g1 g2 (by omega) (by omega) ⟨fun c => ?_, fun c => ⟨by omega, ?_⟩⟩
    · have c : h 1 5 ≤ (w : Int) := c
      omega
    · rw [up_sw_self]
      have cast : (w : Int) + 1 = ((w + 1 : Nat) : Int) := by omega
      refine sp_isOfDays (h := sw h 6 (upf ta w 0)) (by omega) g1 g2 (fun c1 => rb1 ⟨by omega, ?_⟩) (fun c1 => rb0 ?_)
      · have c1 : v1 ≤ h 3 w ∧ h 3 w ≤ v2 := c1
        have o1 : oc (h 5) (h 3) v1 v2 (h 5 w) (w + 1) = oc (h 5) (h 3) v1 v2 (h 5 w) w + 1 := by rw [oc_succ, if_pos ⟨rfl, c1⟩]
        refine ⟨?_, ?_, ?_, ?_, ?_⟩
        · show 0 ≤ h 5 w ∧ h 5 w < 80
          omega
        · show 0 ≤ h 5 w ∧ h 5 w < 80
          omega
        · show InR (upf ta w 0 (h 5 w) + 1)
          omega
        · show 0 ≤ h 5 w ∧ h 5 w < 80
          omega
        · rw [up_sw_self]
          show WP D ad ca sc M_SH_countOfGreatestFamily 5 [(0, .ref (ad 1)), (1, vI v1), (2, vI v2), (3, vI (max (GFr (h 5) (h 3) v1 v2 w) (upf (upf ta w 0) (h 5 w) (upf ta w 0 (h 5 w) + 1) (h 5 w)))), (4, vI ((w : Int) + 1))] [] (sw h 6 (upf (upf ta w 0) (h 5 w) (upf ta w 0 (h 5 w) + 1))) Q
          rw [upf_same, tw, ← o1, cast]
          have eg : max (GFr (h 5) (h 3) v1 v2 w) (oc (h 5) (h 3) v1 v2 (h 5 w) (w + 1)) = GFr (h 5) (h 3) v1 v2 (w + 1) := by
            show _ = if v1 ≤ h 3 w ∧ h 3 w ≤ v2 then _ else _
            rw [if_pos c1]
          rw [eg]
          refine ih (w + 1) _ (by omega) (fun f f0 f1 fl => ?_)
          by_cases fe : f = h 5 w
          · rw [fe, upf_same]
          · rw [upf_ne _ _ fe]; exact old f f0 f1 fl fe
      · have c1 : ¬ (v1 ≤ h 3 w ∧ h 3 w ≤ v2) := c1
        have eg : GFr (h 5) (h 3) v1 v2 w = GFr (h 5) (h 3) v1 v2 (w + 1) := by
          show _ = if v1 ≤ h 3 w ∧ h 3 w ≤ v2 then _ else _
          rw [if_neg c1]
        rw [eg, cast]
        refine ih (w + 1) _ (by omega) (fun f f0 f1 fl => ?_)
        by_cases fe : f = h 5 w
        · rw [fe, tw, oc_succ, if_neg (fun z => c1 z.2), Int.add_zero]
        · exact old f f0 f1 fl fe
end ME2
