theorem wsH_at {ad : Nat → Nat} {ca : Nat → ClassId} {h : Hp} {k : Nat} (hk : k < 46) : (wsH ad ca h)[k]? = some (ad k, wE ad ca k (h k)) := by
  unfold wsH
  rw [List.getElem?_map, List.getElem?_range hk]
  rfl
theorem wsH_set {ad : Nat → Nat} {ca : Nat → ClassId} {h : Hp} {k : Nat} {g : Int → Int} {x : va_E} (hx : x = wE ad ca k g) : (wsH ad ca h).set k (ad k, x) = wsH ad ca (fun k2 => if k2 = k then g else h k2) := by
  subst hx
  apply List.ext_getElem?
  intro j
  unfold wsH
  by_cases hj : j = k
  · subst hj
    by_cases hk : j < 46
    · rw [List.getElem?_set_self (by simpa using hk), List.getElem?_map, List.getElem?_range hk]
      simp
    · rw [List.getElem?_eq_none (by simpa using hk), List.getElem?_eq_none (by simpa using hk)]
  · rw [List.getElem?_set_ne (Ne.symm hj), List.getElem?_map, List.getElem?_map]
    by_cases hk : j < 46
    · rw [List.getElem?_range hk]
      simp [hj]
    · rw [List.getElem?_eq_none (by simpa using hk)]
      rfl
theorem wsH_D {ad : Nat → Nat} {ca : Nat → ClassId} {h : Hp} {A : Nat → Prop} (hi : ∀ i j, i < 46 → j < 46 → ad i = ad j → i = j) (hA : ∀ k, k < 46 → A (ad k)) : va_D A (wsH ad ca h) := by
  have key : ∀ (k : Nat) (q : Nat × va_E), (wsH ad ca h)[k]? = some q → k < 46 ∧ q.1 = ad k := by
    intro k q hq
    have hk : k < 46 := by
      have := (List.getElem?_eq_some_iff.mp hq).1
      simpa [wsH] using this
    rw [wsH_at hk] at hq
    cases hq
    exact ⟨hk, rfl⟩
  refine ⟨fun i j p q h1 h2 h3 => ?_, fun k q hk => ?_⟩
  · obtain ⟨a1, b1⟩ := key i p h1
    obtain ⟨a2, b2⟩ := key j q h2
    exact hi i j a1 a2 (by rw [← b1, ← b2]; exact h3)
  · obtain ⟨a1, b1⟩ := key k q hk
    rw [b1]
    exact hA k a1
/-! numbers in their bounds -/
abbrev InR (x : Int) : Prop := -2147483648 ≤ x ∧ x ≤ 2147483647
abbrev InL (x : Int) : Prop := -9223372036854775808 ≤ x ∧ x ≤ 9223372036854775807
def HR (h : Hp) : Prop := ∀ (k : Nat) (i : Int), InL (h k i) ∧ (k ≠ 44 → InR (h k i))
theorem InR.toL {x : Int} (h : InR x) : InL x := by unfold InR at h; unfold InL; omega
theorem toInt_I {x : Int} (h : InR x) : (Int32.ofInt x).toInt = x := by
  rw [Int32.toInt_ofInt]
  unfold InR at h
  apply Int.bmod_eq_of_le <;> simp [Int32.size] <;> omega
theorem toInt_L {x : Int} (h : InL x) : (Int64.ofInt x).toInt = x := by
  rw [Int64.toInt_ofInt]
  unfold InL at h
  apply Int.bmod_eq_of_le <;> simp [Int64.size] <;> omega
theorem ofI_lt {x y : Int} (hx : InR x) (hy : InR y) : Int32.ofInt x < Int32.ofInt y ↔ x < y := by
  rw [Int32.lt_iff_toInt_lt, toInt_I hx, toInt_I hy]
theorem ofI_le {x y : Int} (hx : InR x) (hy : InR y) : Int32.ofInt x ≤ Int32.ofInt y ↔ x ≤ y := by
  rw [Int32.le_iff_toInt_le, toInt_I hx, toInt_I hy]
theorem ofI_eq {x y : Int} (hx : InR x) (hy : InR y) : Int32.ofInt x = Int32.ofInt y ↔ x = y := by
  rw [← Int32.toInt_inj, toInt_I hx, toInt_I hy]
theorem ofI_add (x y : Int) : Int32.ofInt x + Int32.ofInt y = Int32.ofInt (x + y) := (Int32.ofInt_add x y).symm
theorem ofI_sub (x y : Int) : Int32.ofInt x - Int32.ofInt y = Int32.ofInt (x - y) := (Int32.ofInt_sub x y).symm
theorem ofI_mul (x y : Int) : Int32.ofInt x * Int32.ofInt y = Int32.ofInt (x * y) := (Int32.ofInt_mul x y).symm
theorem ofI_neg (x : Int) : -Int32.ofInt x = Int32.ofInt (-x) := (Int32.ofInt_neg x).symm
theorem ofL_add (x y : Int) : Int64.ofInt x + Int64.ofInt y = Int64.ofInt (x + y) := (Int64.ofInt_add x y).symm
theorem ofL_mul (x y : Int) : Int64.ofInt x * Int64.ofInt y = Int64.ofInt (x * y) := (Int64.ofInt_mul x y).symm
theorem ofL_sub (x y : Int) : Int64.ofInt x - Int64.ofInt y = Int64.ofInt (x - y) := (Int64.ofInt_sub x y).symm
theorem ofI_nat {i : Int} {n : Nat} (h0 : 0 ≤ i) (h1 : i < n) (hn : n ≤ 100000) : vp_in (Int32.ofInt i) n ∧ (Int32.ofInt i).toNatClampNeg = i.toNat := by
  have hr : InR i := by unfold InR; omega
  have e : (Int32.ofInt i).toNatClampNeg = i.toNat := by
    show (Int32.ofInt i).toInt.toNat = i.toNat
    rw [toInt_I hr]
  refine ⟨?_, e⟩
  unfold vp_in
  rw [e]
  rintro (q | q)
  · have z : (0 : Int32) = Int32.ofInt 0 := by decide
    rw [z, ofI_lt hr (by unfold InR; omega)] at q
    omega
  · omega
theorem ofI_toL {x : Int} (h : InR x) : (Int32.ofInt x).toInt64 = Int64.ofInt x := by
  rw [← Int64.toInt_inj, toInt_L h.toL, Int32.toInt_toInt64, toInt_I h]
theorem ofL_toI (x : Int) : (Int64.ofInt x).toInt32 = Int32.ofInt x := by
  rw [← Int32.toInt_inj]
  simp [Int64.toInt_toInt32, Int64.toInt_ofInt, Int32.toInt_ofInt, Int32.size, Int64.size]
