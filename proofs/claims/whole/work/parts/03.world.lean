/-! the heap as numbers: cell, place -/
abbrev Hp : Type := Nat → Int → Int
abbrev vI (i : Int) : Value := .int (Int32.ofInt i)
abbrev vL (i : Int) : Value := .long (Int64.ofInt i)
def upf (f : Int → Int) (i v : Int) : Int → Int := fun j => if j = i then v else f j
def up (h : Hp) (k : Nat) (i v : Int) : Hp := fun k2 => if k2 = k then upf (h k) i v else h k2
def aI (n : Nat) (f : Int → Int) : vp_A := (n, .inl (fun j => Int32.ofInt (f (j : Int))))
def aL (n : Nat) (f : Int → Int) : vp_A := (n, .inr (.inl (fun j => Int64.ofInt (f (j : Int)))))
def fs_MW (ad : Nat → Nat) (f : Int → Int) : List Value := [.ref (ad 1), .ref (ad 7), .ref (ad 10), .ref (ad 15), .ref (ad 19), vI (f 5), vI (f 6), vI (f 7), vI (f 8), vI (f 9), vI (f 10), vI (f 11)]
def fs_SH (ad : Nat → Nat) (f : Int → Int) : List Value := [.ref (ad 2), .ref (ad 3), .ref (ad 4), .ref (ad 5), .ref (ad 6), vI (f 5), vI (f 6)]
def fs_RE (ad : Nat → Nat) (f : Int → Int) : List Value := [.ref (ad 8), .ref (ad 9)]
def fs_LA (ad : Nat → Nat) (f : Int → Int) : List Value := [.ref (ad 11), .ref (ad 12), .ref (ad 13), .ref (ad 14), vI (f 4)]
def fs_ME (ad : Nat → Nat) (f : Int → Int) : List Value := [.ref (ad 16), .ref (ad 17), .ref (ad 18), vI (f 3), vI (f 4), vI (f 5), vI (f 6)]
def fs_TR (ad : Nat → Nat) (f : Int → Int) : List Value := [.ref (ad 20), .ref (ad 21), .ref (ad 22), .ref (ad 23), .ref (ad 24), .ref (ad 25), .ref (ad 26), .ref (ad 27), vI (f 8)]
def fs_MO (ad : Nat → Nat) (f : Int → Int) : List Value := [vI (f 0), vI (f 1), .ref (ad 29), .ref (ad 30), .ref (ad 31), vI (f 5), vI (f 6), .ref (ad 32), .ref (ad 33), .ref (ad 34), vI (f 10), .ref (ad 35), .ref (ad 36), .ref (ad 37), .ref (ad 38), vI (f 15), vI (f 16), vI (f 17), vI (f 18), vI (f 19), vI (f 20), .ref (ad 39), vI (f 22), vI (f 23), vI (f 24), vI (f 25), .ref (ad 40), .ref (ad 41), .ref (ad 42), .ref (ad 43), .ref (ad 44), .ref (ad 45)]
def wE (ad : Nat → Nat) (ca : Nat → ClassId) (k : Nat) (f : Int → Int) : va_E := match k with
  | 0 => .inr (0, fs_MW ad f)
  | 1 => .inr (1, fs_SH ad f)
  | 2 => .inl (ca 0, aI 480 f)
  | 3 => .inl (ca 0, aI 80 f)
  | 4 => .inl (ca 0, aI 80 f)
  | 5 => .inl (ca 0, aI 80 f)
  | 6 => .inl (ca 0, aI 80 f)
  | 7 => .inr (2, fs_RE ad f)
  | 8 => .inl (ca 0, aI 1000 f)
  | 9 => .inl (ca 0, aI 1000 f)
  | 10 => .inr (3, fs_LA ad f)
  | 11 => .inl (ca 0, aI 8 f)
  | 12 => .inl (ca 0, aI 8 f)
  | 13 => .inl (ca 0, aI 8 f)
  | 14 => .inl (ca 0, aI 8 f)
  | 15 => .inr (4, fs_ME ad f)
  | 16 => .inl (ca 0, aI 200 f)
  | 17 => .inl (ca 0, aI 200 f)
  | 18 => .inl (ca 0, aI 200 f)
  | 19 => .inr (5, fs_TR ad f)
  | 20 => .inl (ca 0, aI 24 f)
  | 21 => .inl (ca 0, aI 24 f)
  | 22 => .inl (ca 0, aI 24 f)
  | 23 => .inl (ca 0, aI 24 f)
  | 24 => .inl (ca 0, aI 24 f)
  | 25 => .inl (ca 1, aI 24 f)
  | 26 => .inl (ca 0, aI 24 f)
  | 27 => .inl (ca 1, aI 24 f)
  | 28 => .inr (6, fs_MO ad f)
  | 29 => .inl (ca 0, aI 80 f)
  | 30 => .inl (ca 0, aI 480 f)
  | 31 => .inl (ca 0, aI 80 f)
  | 32 => .inl (ca 1, aI 1000 f)
  | 33 => .inl (ca 0, aI 1000 f)
  | 34 => .inl (ca 0, aI 1000 f)
  | 35 => .inl (ca 0, aI 8 f)
  | 36 => .inl (ca 0, aI 8 f)
  | 37 => .inl (ca 0, aI 8 f)
  | 38 => .inl (ca 0, aI 8 f)
  | 39 => .inl (ca 0, aI 1000 f)
  | 40 => .inl (ca 0, aI 24 f)
  | 41 => .inl (ca 0, aI 24 f)
  | 42 => .inl (ca 0, aI 24 f)
  | 43 => .inl (ca 1, aI 24 f)
  | 44 => .inl (ca 2, aL 24 f)
  | _ => .inl (ca 1, aI 24 f)
def wsH (ad : Nat → Nat) (ca : Nat → ClassId) (h : Hp) : va_W := (List.range 46).map (fun k => (ad k, wE ad ca k (h k)))
def tysC (ca : Nat → ClassId) : List (ClassId × FieldType) := [(ca 0, .int), (ca 1, .boolean), (ca 2, .long)]
