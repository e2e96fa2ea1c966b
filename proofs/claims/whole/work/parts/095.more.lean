theorem inR_max {x y : Int} (hx : InR x) (hy : InR y) : InR (max x y) := by omega
theorem inR_min {x y : Int} (hx : InR x) (hy : InR y) : InR (min x y) := by omega
theorem inR_t32 (x : Int32) : InR x.toInt := by
  have h1 := Int32.le_toInt x
  have h2 := Int32.toInt_lt x
  constructor <;> omega
theorem inL_t64 (x : Int64) : InL x.toInt := by
  have h1 := Int64.le_toInt x
  have h2 := Int64.toInt_lt x
  constructor <;> omega
section PM2
variable {D : va_G} {ad : Nat → Nat} {ca : Nat → ClassId} {sc : SC} {M : MI} {pc : Nat} {lv : List (Nat × Value)} {st : List Value} {h : Hp} {Q Q' : Option Value → Hp → Prop}
theorem P_iand {x y : Int} (hd : decode M.2.1 pc = .ok (.iand, 1)) (k : WP D ad ca sc M (pc + 1) lv (vI ((Int32.ofInt x &&& Int32.ofInt y).toInt) :: st) h Q) : WP D ad ca sc M pc lv (vI y :: vI x :: st) h Q :=
  fun p l e R s m args below meth c A H locs cells slots Z ls hc hR hS hl hr => lv_iand hc.1 hc.2.1 hd (by rw [← Int32.ofInt_toInt (Int32.ofInt x &&& Int32.ofInt y)]; exact k p l e R s m args below meth c A H locs cells slots Z ls hc hR hS hl hr)
theorem P_land {x y : Int} (hd : decode M.2.1 pc = .ok (.land, 1)) (k : WP D ad ca sc M (pc + 1) lv (vL ((Int64.ofInt x &&& Int64.ofInt y).toInt) :: st) h Q) : WP D ad ca sc M pc lv (vL y :: vL x :: st) h Q :=
  fun p l e R s m args below meth c A H locs cells slots Z ls hc hR hS hl hr => lv_land hc.1 hc.2.1 hd (by rw [← Int64.ofInt_toInt (Int64.ofInt x &&& Int64.ofInt y)]; exact k p l e R s m args below meth c A H locs cells slots Z ls hc hR hS hl hr)
theorem P_lor {x y : Int} (hd : decode M.2.1 pc = .ok (.lor, 1)) (k : WP D ad ca sc M (pc + 1) lv (vL ((Int64.ofInt x ||| Int64.ofInt y).toInt) :: st) h Q) : WP D ad ca sc M pc lv (vL y :: vL x :: st) h Q :=
  fun p l e R s m args below meth c A H locs cells slots Z ls hc hR hS hl hr => lv_lor hc.1 hc.2.1 hd (by rw [← Int64.ofInt_toInt (Int64.ofInt x ||| Int64.ofInt y)]; exact k p l e R s m args below meth c A H locs cells slots Z ls hc hR hS hl hr)
theorem P_lshl {x y : Int} (hd : decode M.2.1 pc = .ok (.lshl, 1)) (k : WP D ad ca sc M (pc + 1) lv (vL ((Int64.ofInt x <<< ((Int32.ofInt y).toInt64 &&& 63)).toInt) :: st) h Q) : WP D ad ca sc M pc lv (vI y :: vL x :: st) h Q :=
  fun p l e R s m args below meth c A H locs cells slots Z ls hc hR hS hl hr => lv_lshl hc.1 hc.2.1 hd (Int64.ofInt_toInt _).symm (k p l e R s m args below meth c A H locs cells slots Z ls hc hR hS hl hr)
end PM2
