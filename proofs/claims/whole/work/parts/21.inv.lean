/-! THE INVARIANT between the class (cells 0 to 27, of a heap c) and the reference (cells 28 to 45, of a heap h) -/
/-- products of two shakes' bands -/
def pr (B : Int → Int) (a b : Int) : Int := B (6 * a) * B (6 * b) + B (6 * a + 1) * B (6 * b + 1) + B (6 * a + 2) * B (6 * b + 2) + B (6 * a + 3) * B (6 * b + 3) + B (6 * a + 4) * B (6 * b + 4) + B (6 * a + 5) * B (6 * b + 5)
def alk (B : Int → Int) (q a b : Int) : Prop := q * pr B a a * pr B b b ≤ 100 * pr B a b * pr B a b
def kdf (B : Int → Int) (s : Int) : Int := if 2 * (B (6 * s + 3) + B (6 * s + 4) + B (6 * s + 5)) ≤ B (6 * s) + B (6 * s + 1) + B (6 * s + 2) then 0 else if 2 * (B (6 * s) + B (6 * s + 1) + B (6 * s + 2)) ≤ B (6 * s + 3) + B (6 * s + 4) + B (6 * s + 5) then 1 else 2
/-- a function goes along with a likeness on 0 .. n-1 -/
def Rsp (R : Int → Int → Prop) (n : Int) (g : Int → Int) : Prop := ∀ a b, 0 ≤ a → a < n → 0 ≤ b → b < n → R a b → g a = g b
/-- labels of families: the least number of each -/
def Lab0 (R : Int → Int → Prop) (n : Int) (f : Int → Int) : Prop := ∀ i, 0 ≤ i → i < n → (0 ≤ f i ∧ f i ≤ i) ∧ ∀ g, Rsp R n g → g (f i) = g i
def IsLab (R : Int → Int → Prop) (n : Int) (f : Int → Int) : Prop := Rsp R n f ∧ Lab0 R n f
theorem IsLab.le {R : Int → Int → Prop} {n : Int} {f g : Int → Int} (hf : IsLab R n f) (hg : IsLab R n g) {i : Int} (h0 : 0 ≤ i) (h1 : i < n) : g i ≤ f i := by
  obtain ⟨⟨a1, a2⟩, a3⟩ := hf.2 i h0 h1
  rw [← a3 g hg.1]
  exact (hg.2 (f i) a1 (by omega)).1.2
theorem IsLab.uniq {R : Int → Int → Prop} {n : Int} {f g : Int → Int} (hf : IsLab R n f) (hg : IsLab R n g) {i : Int} (h0 : 0 ≤ i) (h1 : i < n) : f i = g i := Int.le_antisymm (hg.le hf h0 h1) (hf.le hg h0 h1)
theorem IsLab.idem {R : Int → Int → Prop} {n : Int} {f : Int → Int} (hf : IsLab R n f) {i : Int} (h0 : 0 ≤ i) (h1 : i < n) : f (f i) = f i := (hf.2 i h0 h1).2 f hf.1
theorem Rsp.congr {R R' : Int → Int → Prop} {n : Int} {g : Int → Int} (hR : ∀ a b, 0 ≤ a → a < n → 0 ≤ b → b < n → (R a b ↔ R' a b)) (h : Rsp R n g) : Rsp R' n g := fun a b a0 a1 b0 b1 r => h a b a0 a1 b0 b1 ((hR a b a0 a1 b0 b1).mpr r)
theorem IsLab.congr {R R' : Int → Int → Prop} {n : Int} {f f' : Int → Int} (hR : ∀ a b, 0 ≤ a → a < n → 0 ≤ b → b < n → (R a b ↔ R' a b)) (hff : ∀ i, 0 ≤ i → i < n → f i = f' i) (h : IsLab R n f) : IsLab R' n f' := by
  refine ⟨fun a b a0 a1 b0 b1 r => ?_, fun i h0 h1 => ?_⟩
  · rw [← hff a a0 a1, ← hff b b0 b1]
    exact h.1 a b a0 a1 b0 b1 ((hR a b a0 a1 b0 b1).mpr r)
  · rw [← hff i h0 h1]
    exact ⟨(h.2 i h0 h1).1, fun g hg => (h.2 i h0 h1).2 g (Rsp.congr (fun a b a0 a1 b0 b1 => (hR a b a0 a1 b0 b1).symm) hg)⟩
theorem pr_comm (B : Int → Int) (a b : Int) : pr B a b = pr B b a := by
  unfold pr
  rw [Int.mul_comm (B (6 * a)), Int.mul_comm (B (6 * a + 1)), Int.mul_comm (B (6 * a + 2)), Int.mul_comm (B (6 * a + 3)), Int.mul_comm (B (6 * a + 4)), Int.mul_comm (B (6 * a + 5))]
theorem alk_symm {B : Int → Int} {q a b : Int} (h : alk B q a b) : alk B q b a := by
  unfold alk at *
  rw [pr_comm B b a]
  have e : q * pr B b b * pr B a a = q * pr B a a * pr B b b := by rw [Int.mul_assoc, Int.mul_assoc, Int.mul_comm (pr B b b)]
  rw [e]; exact h
theorem pr_congr {B B' : Int → Int} {n a b : Int} (hB : ∀ i, 0 ≤ i → i < 6 * n → B i = B' i) (a0 : 0 ≤ a) (a1 : a < n) (b0 : 0 ≤ b) (b1 : b < n) : pr B a b = pr B' a b := by
  unfold pr
  rw [hB (6 * a) (by omega) (by omega), hB (6 * a + 1) (by omega) (by omega), hB (6 * a + 2) (by omega) (by omega), hB (6 * a + 3) (by omega) (by omega), hB (6 * a + 4) (by omega) (by omega), hB (6 * a + 5) (by omega) (by omega), hB (6 * b) (by omega) (by omega), hB (6 * b + 1) (by omega) (by omega), hB (6 * b + 2) (by omega) (by omega), hB (6 * b + 3) (by omega) (by omega), hB (6 * b + 4) (by omega) (by omega), hB (6 * b + 5) (by omega) (by omega)]
theorem alk_congr {B B' : Int → Int} {q n a b : Int} (hB : ∀ i, 0 ≤ i → i < 6 * n → B i = B' i) (a0 : 0 ≤ a) (a1 : a < n) (b0 : 0 ≤ b) (b1 : b < n) : alk B q a b ↔ alk B' q a b := by
  unfold alk
  rw [pr_congr hB a0 a1 a0 a1, pr_congr hB b0 b1 b0 b1, pr_congr hB a0 a1 b0 b1]
theorem kdf_congr {B B' : Int → Int} {n s : Int} (hB : ∀ i, 0 ≤ i → i < 6 * n → B i = B' i) (a0 : 0 ≤ s) (a1 : s < n) : kdf B s = kdf B' s := by
  unfold kdf
  rw [hB (6 * s) (by omega) (by omega), hB (6 * s + 1) (by omega) (by omega), hB (6 * s + 2) (by omega) (by omega), hB (6 * s + 3) (by omega) (by omega), hB (6 * s + 4) (by omega) (by omega), hB (6 * s + 5) (by omega) (by omega)]
theorem kdf_bd (B : Int → Int) (s : Int) : 0 ≤ kdf B s ∧ kdf B s ≤ 2 := by unfold kdf; split <;> (try split) <;> omega
/-- bands within 0 .. 100 -/
def Bnd (B : Int → Int) (n : Int) : Prop := ∀ i, 0 ≤ i → i < 6 * n → 0 ≤ B i ∧ B i ≤ 100
theorem pr_bd {B : Int → Int} {n a b : Int} (hB : Bnd B n) (a0 : 0 ≤ a) (a1 : a < n) (b0 : 0 ≤ b) (b1 : b < n) : 0 ≤ pr B a b ∧ pr B a b ≤ 60000 := by
  unfold pr
  have h0 := mul_bd (hB (6 * a) (by omega) (by omega)) (hB (6 * b) (by omega) (by omega))
  have h1 := mul_bd (hB (6 * a + 1) (by omega) (by omega)) (hB (6 * b + 1) (by omega) (by omega))
  have h2 := mul_bd (hB (6 * a + 2) (by omega) (by omega)) (hB (6 * b + 2) (by omega) (by omega))
  have h3 := mul_bd (hB (6 * a + 3) (by omega) (by omega)) (hB (6 * b + 3) (by omega) (by omega))
  have h4 := mul_bd (hB (6 * a + 4) (by omega) (by omega)) (hB (6 * b + 4) (by omega) (by omega))
  have h5 := mul_bd (hB (6 * a + 5) (by omega) (by omega)) (hB (6 * b + 5) (by omega) (by omega))
  omega
theorem tri_bd {q x y : Int} (hq : 0 ≤ q ∧ q ≤ 100) (hx : 0 ≤ x ∧ x ≤ 60000) (hy : 0 ≤ y ∧ y ≤ 60000) : InL (q * x * y) := by
  have h1 := mul_bd (mul_bd hq hx) hy
  omega
/-- the scalars: today, level, calm, rest, the hold's level and end, the drill's level -/
def IvA (N t l c r hl he dl t' l' c' r' hl' he' dl' : Int) : Prop := t = t' ∧ (0 ≤ t ∧ t ≤ 999) ∧ l = l' ∧ (0 ≤ l ∧ l ≤ 4) ∧ c = c' ∧ (0 ≤ c ∧ c ≤ N) ∧ r = r' ∧ (1 ≤ r ∧ r ≤ 30) ∧ hl = hl' ∧ (0 ≤ hl ∧ hl ≤ 4) ∧ (he = he' ∨ hl = 0) ∧ (0 ≤ he ∧ he ≤ 1099) ∧ (0 ≤ he' ∧ he' ≤ 1099) ∧ dl = dl' ∧ (0 ≤ dl ∧ dl ≤ 4)
/-- shakes: count, likeness, bands, days, kinds, families; of the reference count, likeness, the mark, bands, days, families -/
def IvS (n a : Int) (B dy kd fm : Int → Int) (n' a' mk : Int) (B' dy' fm' : Int → Int) : Prop := n = n' ∧ (0 ≤ n ∧ n ≤ 80) ∧ a = a' ∧ (1 ≤ a ∧ a ≤ 100) ∧ (∀ i, 0 ≤ i → i < 6 * n → B i = B' i) ∧ Bnd B n ∧ (∀ i, 0 ≤ i → i < n → dy i = dy' i ∧ (0 ≤ dy i ∧ dy i ≤ 999) ∧ kd i = kdf B i) ∧ IsLab (alk B a) n fm ∧ (mk = 0 ∨ mk = 1) ∧ (mk = 1 → IsLab (alk B a) n fm')
/-- the tilt at a day, by the reference's rows -/
def TAn (ht tv : Int → Int) : Nat → Int
  | 0 => if ht 0 = 0 then -1000005 else tv 0
  | d + 1 => if ht ((d + 1 : Nat) : Int) = 0 then TAn ht tv d else tv ((d + 1 : Nat) : Int)
def IvR (t : Int) (tl gs : Int → Int) (ht tv gs' : Int → Int) : Prop := (∀ d : Int, 0 ≤ d → d ≤ t → tl d = TAn ht tv d.toNat) ∧ (∀ d, 0 ≤ d → d < 1000 → (ht d = 0 ∨ ht d = 1) ∧ (t < d → ht d = 0) ∧ (-10000 ≤ tv d ∧ tv d ≤ 10000)) ∧ (∀ d, 0 ≤ d → d < 1000 → gs d = gs' d ∧ (0 ≤ gs d ∧ gs d ≤ 10000))
def IvL (n : Int) (lv lm ln ls : Int → Int) (n' : Int) (lv' lm' ln' ls' : Int → Int) : Prop := n = n' ∧ (0 ≤ n ∧ n ≤ 8) ∧ ∀ i, 0 ≤ i → i < n → (lv i = lv' i ∧ (1 ≤ lv i ∧ lv i ≤ 4)) ∧ (lm i = lm' i ∧ (0 ≤ lm i ∧ lm i ≤ 6)) ∧ (ln i = ln' i ∧ (1 ≤ ln i ∧ ln i ≤ 10000)) ∧ (ls i = ls' i ∧ (1 ≤ ls i ∧ ls i ≤ 30))
/-- an entry of the reference's list of messages, and its place in the class's rows -/
def EnM (kp kd : Int) (dy lv rs : Int → Int) (g : Int → Int) (k : Int) : Prop :=
  (g (5 * k) = 0 ∧ (1 ≤ g (5 * k + 1) ∧ g (5 * k + 1) ≤ kp) ∧ g (5 * k + 2) = dy (g (5 * k + 1) - 1) ∧ g (5 * k + 3) = lv (g (5 * k + 1) - 1) ∧ g (5 * k + 4) = rs (g (5 * k + 1) - 1)) ∨
  (g (5 * k) = 1 ∧ (1 ≤ g (5 * k + 1) ∧ g (5 * k + 1) ≤ kd) ∧ g (5 * k + 2) = dy (200 - g (5 * k + 1)) ∧ g (5 * k + 3) = lv (200 - g (5 * k + 1)) ∧ g (5 * k + 4) = rs (200 - g (5 * k + 1)))
def IvM (N cn dc kp kd : Int) (dy lv rs : Int → Int) (K cn' dc' : Int) (g : Int → Int) : Prop := cn = cn' ∧ dc = dc' ∧ (0 ≤ cn ∧ cn ≤ N) ∧ (0 ≤ dc ∧ dc ≤ N) ∧ (0 ≤ kp ∧ 0 ≤ kd ∧ kp + kd = K ∧ K ≤ 200) ∧ (kp ≤ cn ∧ kd ≤ dc) ∧ (K < 200 → kp = cn ∧ kd = dc) ∧ (∀ k, 0 ≤ k → k < K → EnM kp kd dy lv rs g k) ∧ (∀ j, 1 ≤ j → j ≤ kp → ∃ k, (0 ≤ k ∧ k < K) ∧ g (5 * k) = 0 ∧ g (5 * k + 1) = j) ∧ (∀ j, 1 ≤ j → j ≤ kd → ∃ k, (0 ≤ k ∧ k < K) ∧ g (5 * k) = 1 ∧ g (5 * k + 1) = j)
/-- how many of 1 .. n-1 have the parent i -/
def chn (par : Int → Int) (n i : Int) : Int := sumR (fun k => if par k = i then 1 else 0) 1 (n - 1).toNat
def IvT (n : Int) (par lo hi dep cc fe : Int → Int) (n' : Int) (par' lo' hi' fe' : Int → Int) : Prop := n = n' ∧ (1 ≤ n ∧ n ≤ 24) ∧ par 0 = -6 ∧ dep 0 = 0 ∧ (∀ i, 0 ≤ i → i < n → (par i = par' i ∧ lo i = lo' i ∧ hi i = hi' i ∧ fe i = fe' i) ∧ (0 ≤ lo i ∧ lo i ≤ hi i ∧ hi i ≤ 100) ∧ (fe i = 0 ∨ fe i = 1) ∧ (0 ≤ dep i ∧ dep i ≤ 4) ∧ cc i = chn par n i ∧ cc i ≤ 6) ∧ (∀ i, 1 ≤ i → i < n → (0 ≤ par i ∧ par i < i) ∧ dep i = dep (par i) + 1) ∧ (∀ i, n ≤ i → i < 24 → fe i = 0 ∧ cc i = 0)
/-- all of it: the class's cells of c, the reference's of h -/
def Inv2 (N : Int) (c h : Hp) : Prop :=
  IvA N (c 0 5) (c 0 6) (c 0 7) (c 0 8) (c 0 9) (c 0 10) (c 0 11) (h 28 0) (h 28 16) (h 28 17) (h 28 15) (h 28 18) (h 28 19) (h 28 24) ∧
  IvS (c 1 5) (c 1 6) (c 2) (c 3) (c 4) (c 5) (h 28 1) (h 28 6) (h 28 5) (h 30) (h 29) (h 31) ∧
  IvR (c 0 5) (c 8) (c 9) (h 32) (h 33) (h 34) ∧
  IvL (c 10 4) (c 11) (c 12) (c 13) (c 14) (h 28 10) (h 35) (h 36) (h 37) (h 38) ∧
  IvM N (c 15 3) (c 15 4) (c 15 5) (c 15 6) (c 16) (c 17) (c 18) (h 28 20) (h 28 22) (h 28 23) (h 39) ∧
  IvT (c 19 8) (c 20) (c 21) (c 22) (c 23) (c 24) (c 25) (h 28 25) (h 40) (h 41) (h 42) (h 43)
def Inv (N : Int) (h : Hp) : Prop := Inv2 N h h
theorem IvA.step {N t l c r hl he dl t' l' c' r' hl' he' dl' : Int} (h : IvA N t l c r hl he dl t' l' c' r' hl' he' dl') : IvA (N + 1) t l c r hl he dl t' l' c' r' hl' he' dl' := by
  unfold IvA at *; omega
theorem IvM.step {N cn dc kp kd : Int} {dy lv rs : Int → Int} {K cn' dc' : Int} {g : Int → Int} (h : IvM N cn dc kp kd dy lv rs K cn' dc' g) : IvM (N + 1) cn dc kp kd dy lv rs K cn' dc' g := by
  obtain ⟨h1, h2, h3, h4, h5⟩ := h
  exact ⟨h1, h2, by omega, by omega, h5⟩
theorem Inv2.step {N : Int} {c h : Hp} (I : Inv2 N c h) : Inv2 (N + 1) c h := ⟨I.1.step, I.2.1, I.2.2.1, I.2.2.2.1, I.2.2.2.2.1.step, I.2.2.2.2.2⟩
