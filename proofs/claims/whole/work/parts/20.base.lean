/-! helpers for the proofs over numbers -/
theorem i0 : InR 0 := ⟨by decide, by decide⟩
theorem i1 : InR 1 := ⟨by decide, by decide⟩
theorem RI_mk {K : Int → Hp → Prop} {r : Int} {h : Hp} (hr : InR r) (k : K r h) : RI K (some (vI r)) h := ⟨r, rfl, hr, k⟩
theorem RL_mk {K : Int → Hp → Prop} {r : Int} {h : Hp} (hr : InL r) (k : K r h) : RL K (some (vL r)) h := ⟨r, rfl, hr, k⟩
theorem RV_mk {K : Hp → Prop} {h : Hp} (k : K h) : RV K none h := ⟨rfl, k⟩
theorem rb1 {A B : Hp → Prop} {h : Hp} (hb : B h) : RI (fun r h' => (r = 0 → A h') ∧ (¬ r = 0 → B h')) (some (vI 1)) h := RI_mk i1 ⟨fun z => absurd z (by decide), fun _ => hb⟩
theorem rb0 {A B : Hp → Prop} {h : Hp} (ha : A h) : RI (fun r h' => (r = 0 → A h') ∧ (¬ r = 0 → B h')) (some (vI 0)) h := RI_mk i0 ⟨fun _ => ha, fun z => absurd rfl z⟩
theorem rc1 {A B : Hp → Prop} {h : Hp} (hb : B h) : RI (fun r h' => (¬ r = 0 → B h') ∧ (r = 0 → A h')) (some (vI 1)) h := RI_mk i1 ⟨fun _ => hb, fun z => absurd z (by decide)⟩
theorem rc0 {A B : Hp → Prop} {h : Hp} (ha : A h) : RI (fun r h' => (¬ r = 0 → B h') ∧ (r = 0 → A h')) (some (vI 0)) h := RI_mk i0 ⟨fun z => absurd rfl z, fun _ => ha⟩
def sw (h : Hp) (k : Nat) (g : Int → Int) : Hp := fun k2 => if k2 = k then g else h k2
theorem up_sw (h : Hp) (k : Nat) (i v : Int) : up h k i v = sw h k (upf (h k) i v) := rfl
theorem sw_sw (h : Hp) (k : Nat) (g g2 : Int → Int) : sw (sw h k g) k g2 = sw h k g2 := by
  funext k2; unfold sw; split <;> rfl
theorem sw_self (h : Hp) (k : Nat) : sw h k (h k) = h := by
  funext k2; unfold sw; split
  · next e => rw [e]
  · rfl
theorem sw_comm (h : Hp) {k k' : Nat} (g g2 : Int → Int) (hne : k ≠ k') : sw (sw h k g) k' g2 = sw (sw h k' g2) k g := by
  funext k2; unfold sw
  by_cases h1 : k2 = k
  · have h2 : ¬ k2 = k' := fun z => hne (h1.symm.trans z)
    rw [if_neg h2, if_pos h1, if_pos h1]
  · rw [if_neg h1]
    by_cases h2 : k2 = k'
    · rw [if_pos h2, if_neg h1]
    · rw [if_neg h2, if_neg h1]
theorem up_sw_self (h : Hp) (k : Nat) (g : Int → Int) (i v : Int) : up (sw h k g) k i v = sw h k (upf g i v) := by
  rw [up_sw, sw_sw]; unfold sw; simp
theorem upf_same (f : Int → Int) (i v : Int) : upf f i v i = v := by unfold upf; simp
theorem upf_ne (f : Int → Int) {i j : Int} (v : Int) (hn : ¬ j = i) : upf f i v j = f j := by unfold upf; simp [hn]
theorem upf_id (f : Int → Int) (i : Int) : upf f i (f i) = f := by
  funext j; unfold upf; split
  · next e => rw [e]
  · rfl
/-- a sum over places a, a+1, .. of k terms -/
def sumR (f : Int → Int) (a : Int) : Nat → Int
  | 0 => 0
  | k + 1 => f a + sumR f (a + 1) k
theorem sumR_congr {f g : Int → Int} : ∀ (k : Nat) (a : Int), (∀ j, a ≤ j → j < a + k → f j = g j) → sumR f a k = sumR g a k
  | 0, _, _ => rfl
  | k + 1, a, h => by
    show f a + sumR f (a + 1) k = g a + sumR g (a + 1) k
    rw [h a (Int.le_refl a) (by omega), sumR_congr k (a + 1) (fun j h1 h2 => h j (by omega) (by omega))]
theorem sumR_bd {f : Int → Int} {m M : Int} : ∀ (k : Nat) (a : Int), (∀ j, a ≤ j → j < a + k → m ≤ f j ∧ f j ≤ M) → m * k ≤ sumR f a k ∧ sumR f a k ≤ M * k
  | 0, _, _ => by simp [sumR]
  | k + 1, a, h => by
    have h1 := h a (Int.le_refl a) (by omega)
    have h2 := sumR_bd k (a + 1) (fun j h1 h2 => h j (by omega) (by omega))
    have e1 : m * ((k + 1 : Nat) : Int) = m * k + m := by rw [Int.natCast_succ, Int.mul_add, Int.mul_one]
    have e2 : M * ((k + 1 : Nat) : Int) = M * k + M := by rw [Int.natCast_succ, Int.mul_add, Int.mul_one]
    rw [e1, e2]
    show _ ≤ f a + sumR f (a + 1) k ∧ f a + sumR f (a + 1) k ≤ _
    omega
theorem sumR_snoc (f : Int → Int) : ∀ (k : Nat) (a : Int), sumR f a (k + 1) = sumR f a k + f (a + k)
  | 0, a => by simp [sumR]
  | k + 1, a => by
    show f a + sumR f (a + 1) (k + 1) = f a + sumR f (a + 1) k + f (a + ((k + 1 : Nat) : Int))
    rw [sumR_snoc f k (a + 1)]
    have : a + 1 + (k : Int) = a + ((k + 1 : Nat) : Int) := by omega
    rw [this]
    omega
theorem mul_bd {x y a b : Int} (hx : 0 ≤ x ∧ x ≤ a) (hy : 0 ≤ y ∧ y ≤ b) : 0 ≤ x * y ∧ x * y ≤ a * b :=
  ⟨Int.mul_nonneg hx.1 hy.1, Int.mul_le_mul hx.2 hy.2 hy.1 (Int.le_trans hx.1 hx.2)⟩
section LF
variable {D : va_G} {ad : Nat → Nat} {ca : Nat → ClassId} {sc : SC} {h : Hp} {Q : Option Value → Hp → Prop}
theorem sp_MW_isWithin {v0 v1 v2 : Int} (g0 : InR v0) (g1 : InR v1) (g2 : InR v2) (k1 : v1 ≤ v0 ∧ v0 ≤ v2 → Q (some (vI 1)) h) (k0 : ¬ (v1 ≤ v0 ∧ v0 ≤ v2) → Q (some (vI 0)) h) : WP D ad ca sc M_MW_isWithin 0 [(0, vI v0), (1, vI v1), (2, vI v2)] [] h Q :=
  F_MW_isWithin_0 v0 v1 v2 g0 g1 g2 ⟨fun c => k0 (by omega), fun c => ⟨fun c => k0 (by omega), fun c => k1 (by omega)⟩⟩
theorem sp_MO_in {v0 v1 v2 : Int} (g0 : InR v0) (g1 : InR v1) (g2 : InR v2) (k1 : v1 ≤ v0 ∧ v0 ≤ v2 → Q (some (vI 1)) h) (k0 : ¬ (v1 ≤ v0 ∧ v0 ≤ v2) → Q (some (vI 0)) h) : WP D ad ca sc M_MO_in 0 [(0, vI v0), (1, vI v1), (2, vI v2)] [] h Q :=
  F_MO_in_0 v0 v1 v2 g0 g1 g2 ⟨fun c => k0 (by omega), fun c => ⟨fun c => k0 (by omega), fun c => k1 (by omega)⟩⟩
theorem sp_MW_isLevel {v0 : Int} (g0 : InR v0) (k1 : 0 ≤ v0 ∧ v0 ≤ 4 → Q (some (vI 1)) h) (k0 : ¬ (0 ≤ v0 ∧ v0 ≤ 4) → Q (some (vI 0)) h) : WP D ad ca sc M_MW_isLevel 0 [(0, vI v0)] [] h Q :=
  F_MW_isLevel_0 v0 g0 (sp_MW_isWithin g0 i0 (by omega) (fun c => RI_mk i1 ⟨Or.inr rfl, k1 c⟩) (fun c => RI_mk i0 ⟨Or.inl rfl, k0 c⟩))
theorem sp_MW_isLawLevel {v0 : Int} (g0 : InR v0) (k1 : 1 ≤ v0 ∧ v0 ≤ 4 → Q (some (vI 1)) h) (k0 : ¬ (1 ≤ v0 ∧ v0 ≤ 4) → Q (some (vI 0)) h) : WP D ad ca sc M_MW_isLawLevel 0 [(0, vI v0)] [] h Q :=
  F_MW_isLawLevel_0 v0 g0 (sp_MW_isWithin g0 i1 (by omega) (fun c => RI_mk i1 ⟨Or.inr rfl, k1 c⟩) (fun c => RI_mk i0 ⟨Or.inl rfl, k0 c⟩))
theorem sp_MW_areBounds {v0 v1 : Int} (g0 : InR v0) (g1 : InR v1) (k1 : 0 ≤ v0 ∧ v0 ≤ v1 ∧ v1 ≤ 100 → Q (some (vI 1)) h) (k0 : ¬ (0 ≤ v0 ∧ v0 ≤ v1 ∧ v1 ≤ 100) → Q (some (vI 0)) h) : WP D ad ca sc M_MW_areBounds 0 [(0, vI v0), (1, vI v1)] [] h Q :=
  F_MW_areBounds_0 v0 v1 g0 g1 ⟨fun c => k0 (by omega), fun c => ⟨fun c => k0 (by omega), fun c => ⟨fun c => k0 (by omega), fun c => k1 (by omega)⟩⟩⟩
theorem sp_MO_isShare {v0 v1 : Int} (g0 : InR v0) (g1 : InR v1) (k1 : 0 ≤ v0 ∧ v0 ≤ v1 ∧ v1 ≤ 100 → Q (some (vI 1)) h) (k0 : ¬ (0 ≤ v0 ∧ v0 ≤ v1 ∧ v1 ≤ 100) → Q (some (vI 0)) h) : WP D ad ca sc M_MO_isShare 0 [(0, vI v0), (1, vI v1)] [] h Q :=
  F_MO_isShare_0 v0 v1 g0 g1 (sp_MO_in g0 i0 (by omega) (fun c => rb1 (sp_MO_in g1 g0 (by omega) (fun c => rb1 (k1 (by omega))) (fun c => rb0 (k0 (by omega))))) (fun c => rb0 (k0 (by omega))))
theorem sp_MW_oneIf {v0 : Int} (hv : v0 = 0 ∨ v0 = 1) (k : Q (some (vI v0)) h) : WP D ad ca sc M_MW_oneIf 0 [(0, vI v0)] [] h Q :=
  F_MW_oneIf_0 v0 (by omega) ⟨fun c => by subst c; exact k, fun c => by obtain rfl : v0 = 1 := (by omega); exact k⟩
theorem sp_SH_has {v1 : Int} (g1 : InR v1) (k1 : 0 ≤ v1 ∧ v1 < h 1 5 → Q (some (vI 1)) h) (k0 : ¬ (0 ≤ v1 ∧ v1 < h 1 5) → Q (some (vI 0)) h) : WP D ad ca sc M_SH_has 0 [(0, .ref (ad 1)), (1, vI v1)] [] h Q :=
  F_SH_has_0 v1 g1 ⟨fun c => k0 (by omega), fun c => ⟨fun c => k0 (by omega), fun c => k1 (by omega)⟩⟩
theorem sp_LA_has {v1 : Int} (g1 : InR v1) (k1 : 0 ≤ v1 ∧ v1 < h 10 4 → Q (some (vI 1)) h) (k0 : ¬ (0 ≤ v1 ∧ v1 < h 10 4) → Q (some (vI 0)) h) : WP D ad ca sc M_LA_has 0 [(0, .ref (ad 10)), (1, vI v1)] [] h Q :=
  F_LA_has_0 v1 g1 ⟨fun c => k0 (by omega), fun c => ⟨fun c => k0 (by omega), fun c => k1 (by omega)⟩⟩
theorem sp_TR_has {v1 : Int} (g1 : InR v1) (k1 : 0 ≤ v1 ∧ v1 < h 19 8 → Q (some (vI 1)) h) (k0 : ¬ (0 ≤ v1 ∧ v1 < h 19 8) → Q (some (vI 0)) h) : WP D ad ca sc M_TR_has 0 [(0, .ref (ad 19)), (1, vI v1)] [] h Q :=
  F_TR_has_0 v1 g1 ⟨fun c => k0 (by omega), fun c => ⟨fun c => k0 (by omega), fun c => k1 (by omega)⟩⟩
theorem sp_MW_isDay {v1 : Int} (g1 : InR v1) (ht : InR (h 0 5)) (k1 : 0 ≤ v1 ∧ v1 ≤ h 0 5 → Q (some (vI 1)) h) (k0 : ¬ (0 ≤ v1 ∧ v1 ≤ h 0 5) → Q (some (vI 0)) h) : WP D ad ca sc M_MW_isDay 0 [(0, .ref (ad 0)), (1, vI v1)] [] h Q :=
  F_MW_isDay_0 v1 g1 (sp_MW_isWithin g1 i0 ht (fun c => RI_mk i1 ⟨Or.inr rfl, k1 c⟩) (fun c => RI_mk i0 ⟨Or.inl rfl, k0 c⟩))
theorem sp_MO_isDay {v1 : Int} (g1 : InR v1) (ht : InR (h 28 0)) (k1 : 0 ≤ v1 ∧ v1 ≤ h 28 0 → Q (some (vI 1)) h) (k0 : ¬ (0 ≤ v1 ∧ v1 ≤ h 28 0) → Q (some (vI 0)) h) : WP D ad ca sc M_MO_isDay 0 [(0, .ref (ad 28)), (1, vI v1)] [] h Q :=
  F_MO_isDay_0 v1 g1 (sp_MO_in g1 i0 ht (fun c => RI_mk i1 ⟨Or.inr rfl, k1 c⟩) (fun c => RI_mk i0 ⟨Or.inl rfl, k0 c⟩))
theorem sp_MO_isShake {v1 : Int} (g1 : InR v1) (ht : 0 ≤ h 28 1 ∧ h 28 1 ≤ 80) (k1 : 0 ≤ v1 ∧ v1 < h 28 1 → Q (some (vI 1)) h) (k0 : ¬ (0 ≤ v1 ∧ v1 < h 28 1) → Q (some (vI 0)) h) : WP D ad ca sc M_MO_isShake 0 [(0, .ref (ad 28)), (1, vI v1)] [] h Q :=
  F_MO_isShake_0 v1 g1 (sp_MO_in g1 i0 (by omega) (fun c => RI_mk i1 ⟨Or.inr rfl, k1 (by omega)⟩) (fun c => RI_mk i0 ⟨Or.inl rfl, k0 (by omega)⟩))
theorem sp_MO_isLaw {v1 : Int} (g1 : InR v1) (ht : 0 ≤ h 28 10 ∧ h 28 10 ≤ 8) (k1 : 0 ≤ v1 ∧ v1 < h 28 10 → Q (some (vI 1)) h) (k0 : ¬ (0 ≤ v1 ∧ v1 < h 28 10) → Q (some (vI 0)) h) : WP D ad ca sc M_MO_isLaw 0 [(0, .ref (ad 28)), (1, vI v1)] [] h Q :=
  F_MO_isLaw_0 v1 g1 (sp_MO_in g1 i0 (by omega) (fun c => RI_mk i1 ⟨Or.inr rfl, k1 (by omega)⟩) (fun c => RI_mk i0 ⟨Or.inl rfl, k0 (by omega)⟩))
theorem sp_MO_isNode {v1 : Int} (g1 : InR v1) (ht : 0 ≤ h 28 25 ∧ h 28 25 ≤ 24) (k1 : 0 ≤ v1 ∧ v1 < h 28 25 → Q (some (vI 1)) h) (k0 : ¬ (0 ≤ v1 ∧ v1 < h 28 25) → Q (some (vI 0)) h) : WP D ad ca sc M_MO_isNode 0 [(0, .ref (ad 28)), (1, vI v1)] [] h Q :=
  F_MO_isNode_0 v1 g1 (sp_MO_in g1 i0 (by omega) (fun c => RI_mk i1 ⟨Or.inr rfl, k1 (by omega)⟩) (fun c => RI_mk i0 ⟨Or.inl rfl, k0 (by omega)⟩))
theorem sp_MW_held (k : Q (some (vI (if h 0 5 < h 0 10 then h 0 9 else 0))) h) : WP D ad ca sc M_MW_heldToday 0 [(0, .ref (ad 0))] [] h Q :=
  F_MW_heldToday_0 ⟨fun c => by rw [if_neg (by omega)] at k; exact k, fun c => by rw [if_pos c] at k; exact k⟩
theorem sp_MO_holdNow (k : Q (some (vI (if h 28 0 < h 28 19 then h 28 18 else 0))) h) : WP D ad ca sc M_MO_holdNow 0 [(0, .ref (ad 28))] [] h Q :=
  F_MO_holdNow_0 ⟨fun c => by rw [if_neg (by omega)] at k; exact k, fun c => by rw [if_pos c] at k; exact k⟩
end LF
