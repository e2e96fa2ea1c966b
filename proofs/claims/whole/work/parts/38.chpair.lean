/-! the call 'chance' -/
def nodeV (P LO HI FE CH : Int → Int) (n j g : Int) : Int := if 0 < chn P n j then vsh P LO HI CH n j g else if FE j = 0 then 0 else 100000000
/-- chances of the last m nodes -/
def chF (P LO HI FE : Int → Int) (n g : Int) : Nat → Int → Int
  | 0 => fun _ => 0
  | m + 1 => upf (chF P LO HI FE n g m) (n - 1 - m) (nodeV P LO HI FE (chF P LO HI FE n g m) n (n - 1 - m) g)
theorem chF_stable {P LO HI FE : Int → Int} {n g j : Int} {m : Nat} (hj : n - 1 - m < j) : ∀ k : Nat, chF P LO HI FE n g (m + k) j = chF P LO HI FE n g m j
  | 0 => rfl
  | k + 1 => by
    show upf (chF P LO HI FE n g (m + k)) (n - 1 - ((m + k : Nat) : Int)) _ j = _
    rw [upf_ne _ _ (by omega)]
    exact chF_stable hj k
theorem nodeV_congr {P LO HI FE CH P' LO' HI' FE' CH' : Int → Int} {n j g : Int} (hj : 0 ≤ j ∧ j < n) (hq : ∀ k, 1 ≤ k → k < n → P k < k) (he : ∀ k, 0 ≤ k → k < n → P k = P' k ∧ LO k = LO' k ∧ HI k = HI' k ∧ FE k = FE' k) (hc : ∀ k, j < k → k < n → CH k = CH' k) : nodeV P LO HI FE CH n j g = nodeV P' LO' HI' FE' CH' n j g := by
  unfold nodeV
  rw [chn_congr (fun k k0 k1 => (he k (by omega) k1).1), vsh_congr hj hq (fun k k0 k1 => ⟨(he k k0 k1).1, (he k k0 k1).2.1, (he k k0 k1).2.2.1⟩) hc, (he j hj.1 hj.2).2.2.2]
theorem chF_congr {P LO HI FE P' LO' HI' FE' : Int → Int} {n g : Int} (hq : ∀ k, 1 ≤ k → k < n → P k < k) (he : ∀ k, 0 ≤ k → k < n → P k = P' k ∧ LO k = LO' k ∧ HI k = HI' k ∧ FE k = FE' k) : ∀ m : Nat, (m : Int) ≤ n → ∀ j, n - 1 - m < j → j < n → chF P LO HI FE n g m j = chF P' LO' HI' FE' n g m j
  | 0, _, j, h0, h1 => by omega
  | m + 1, hm, j, h0, h1 => by
    have ih := chF_congr (g := g) hq he m (by omega)
    show upf (chF P LO HI FE n g m) (n - 1 - m) _ j = upf (chF P' LO' HI' FE' n g m) (n - 1 - m) _ j
    by_cases e : j = n - 1 - m
    · rw [e, upf_same, upf_same]
      exact nodeV_congr (by omega) hq he (fun k k0 k1 => ih k k0 k1)
    · rw [upf_ne _ _ e, upf_ne _ _ e]
      exact ih j (by omega) h1
section CP
variable {D : va_G} {ad : Nat → Nat} {ca : Nat → ClassId} {sc : SC} {h c x : Hp} {Q : Option Value → Hp → Prop} {N n : Int}
theorem sw2 (h : Hp) (a b a2 : Int → Int) : sw (sw (sw h 27 a) 26 b) 27 a2 = sw (sw h 27 a2) 26 b := by
  rw [sw_comm (sw h 27 a) b a2 (by decide), sw_sw]
theorem sw2' (h : Hp) (a b a2 : Int → Int) : sw (sw (sw h 45 a) 44 b) 45 a2 = sw (sw h 45 a2) 44 b := by
  rw [sw_comm (sw h 45 a) b a2 (by decide), sw_sw]
theorem sp_chanceOf_loop {a g : Int} (T : IvT (h 19 8) (h 20) (h 21) (h 22) (h 23) (h 24) (h 25) (x 28 25) (x 40) (x 41) (x 42) (x 43)) (S : SND (h 20) (h 21) (h 22) (h 19 8)) (ha : 0 ≤ a ∧ a < h 19 8) (gg : g = 0 ∨ g = 1)
    (k : ∀ sv ch, 0 ≤ chF (h 20) (h 21) (h 22) (h 25) (h 19 8) g (h 19 8 - a).toNat a → chF (h 20) (h 21) (h 22) (h 25) (h 19 8) g (h 19 8 - a).toNat a ≤ 100000000 → Q (some (vI (chF (h 20) (h 21) (h 22) (h 25) (h 19 8) g (h 19 8 - a).toNat a))) (sw (sw h 27 sv) 26 ch)) :
    ∀ (t m : Nat) (sv ch : Int → Int), (m : Int) + t = h 19 8 - a → (∀ j, h 19 8 - 1 - m < j → j < h 19 8 → ch j = chF (h 20) (h 21) (h 22) (h 25) (h 19 8) g m j ∧ 0 ≤ ch j ∧ ch j ≤ 100000000) →
      WP D ad ca sc M_TR_chanceOf 7 [(0, .ref (ad 19)), (1, vI a), (2, vI g), (3, vI (h 19 8 - 1 - m))] [] (sw (sw h 27 sv) 26 ch) Q := by
  have tb := T.2.1
  have pl : ∀ k, 1 ≤ k → k < h 19 8 → h 20 k < k := fun k k0 k1 => (T.2.2.2.2.2.1 k k0 k1).1.2
  intro t
  induction t with
  | zero =>
    intro m sv ch hm hc
    refine F_TR_chanceOf_7 a g _ (by omega) (by omega) (by omega) ⟨fun _ => ⟨by omega, ?_⟩, fun z => absurd z (by omega)⟩
    have := hc a (by omega) ha.2
    rw [show m = (h 19 8 - a).toNat by omega] at this
    show Q (some (vI (ch a))) _
    rw [this.1]
    exact k sv ch (by omega) (by omega)
  | succ t ih =>
    intro m sv ch hm hc
    have hj : 0 ≤ h 19 8 - 1 - m ∧ h 19 8 - 1 - m < h 19 8 := by omega
    have tj := T.2.2.2.2.1 (h 19 8 - 1 - m) hj.1 hj.2
    have e1 : h 19 8 - 1 - m + -1 = h 19 8 - 1 - ((m + 1 : Nat) : Int) := by omega
    have nv : nodeV (h 20) (h 21) (h 22) (h 25) (chF (h 20) (h 21) (h 22) (h 25) (h 19 8) g m) (h 19 8) (h 19 8 - 1 - m) g = nodeV (h 20) (h 21) (h 22) (h 25) ch (h 19 8) (h 19 8 - 1 - m) g := nodeV_congr hj pl (fun _ _ _ => ⟨rfl, rfl, rfl, rfl⟩) (fun k k0 k1 => (hc k k0 k1).1.symm)
    have nx : ∀ (v : Int) (sv2 : Int → Int), v = nodeV (h 20) (h 21) (h 22) (h 25) ch (h 19 8) (h 19 8 - 1 - m) g → 0 ≤ v → v ≤ 100000000 → WP D ad ca sc M_TR_chanceOf 7 [(0, .ref (ad 19)), (1, vI a), (2, vI g), (3, vI (h 19 8 - 1 - m + -1))] [] (up (sw (sw h 27 sv2) 26 ch) 26 (h 19 8 - 1 - m) v) Q := by
      intro v sv2 hv v0 v1
      rw [e1, up_sw_self]
      refine ih (m + 1) sv2 _ (by omega) (fun j j0 j1 => ?_)
      show upf ch (h 19 8 - 1 - m) v j = upf (chF (h 20) (h 21) (h 22) (h 25) (h 19 8) g m) (h 19 8 - 1 - m) _ j ∧ _
      by_cases e : j = h 19 8 - 1 - m
      · rw [e, upf_same, upf_same, nv]
        exact ⟨hv, v0, v1⟩
      · rw [upf_ne _ _ e, upf_ne _ _ e]
        exact hc j (by omega) j1
    refine F_TR_chanceOf_7 a g _ (by omega) (by omega) (by omega) ⟨fun z => absurd z (by omega), fun _ => ⟨by omega, fun z => ⟨by omega, fun z2 => ⟨by omega, ?_⟩, fun z2 => ⟨by omega, ?_⟩⟩, fun z => ?_⟩⟩
    · have z : h 24 (h 19 8 - 1 - m) ≤ 0 := z
      have z2 : h 25 (h 19 8 - 1 - m) = 0 := z2
      exact nx 0 sv (by unfold nodeV; rw [if_neg (by omega), if_pos z2]) (by omega) (by omega)
    · have z : h 24 (h 19 8 - 1 - m) ≤ 0 := z
      have z2 : ¬ h 25 (h 19 8 - 1 - m) = 0 := z2
      exact nx 100000000 sv (by unfold nodeV; rw [if_neg (by omega), if_neg z2]) (by omega) (by omega)
    · have z : 0 < h 24 (h 19 8 - 1 - m) := z
      refine sp_byShares (h := sw (sw h 27 sv) 26 ch) (x := x) T S hj z gg (fun k k0 k1 => (hc k k0 k1).2) (fun v0 v1 sv2 => RI_mk (by omega) ⟨by omega, ?_⟩)
      rw [sw2]
      exact nx _ sv2 (by unfold nodeV; rw [if_pos (by omega)]; rfl) v0 v1
theorem sp_MOchance_loop {a g : Int} (hn : 1 ≤ h 28 25 ∧ h 28 25 ≤ 24) (hq : ∀ k, 1 ≤ k → k < h 28 25 → h 40 k < k) (hl : ∀ k, 0 ≤ k → k < h 28 25 → (0 ≤ h 41 k ∧ h 41 k ≤ 100) ∧ (0 ≤ h 42 k ∧ h 42 k ≤ 100) ∧ h 41 k ≤ h 42 k) (hf : ∀ k, 0 ≤ k → k < h 28 25 → h 43 k = 0 ∨ h 43 k = 1) (S : SND (h 40) (h 41) (h 42) (h 28 25)) (ha : 0 ≤ a ∧ a < h 28 25) (gg : InR g)
    (k : ∀ gv ch, Q (some (vI (chF (h 40) (h 41) (h 42) (h 43) (h 28 25) g (h 28 25).toNat a))) (sw (sw h 45 gv) 44 ch)) :
    ∀ (t m : Nat) (gv ch : Int → Int), (m : Int) + t = h 28 25 → (∀ j, h 28 25 - 1 - m < j → j < h 28 25 → ch j = chF (h 40) (h 41) (h 42) (h 43) (h 28 25) g m j ∧ 0 ≤ ch j ∧ ch j ≤ 100000000) →
      WP D ad ca sc M_MO_chance 39 [(0, .ref (ad 28)), (1, vI a), (2, vI g), (3, vI (h 28 25 - 1 - m))] [] (sw (sw h 45 gv) 44 ch) Q := by
  intro t
  induction t with
  | zero =>
    intro m gv ch hm hc
    refine F_MO_chance_39 a g _ (by omega) gg (by omega) ⟨fun _ => ⟨by omega, ?_⟩, fun z => absurd z (by omega)⟩
    have := hc a (by omega) ha.2
    rw [show m = (h 28 25).toNat by omega] at this
    show Q (some (vI (ch a))) _
    rw [this.1]
    exact k gv ch
  | succ t ih =>
    intro m gv ch hm hc
    have hj : 0 ≤ h 28 25 - 1 - m ∧ h 28 25 - 1 - m < h 28 25 := by omega
    have e1 : h 28 25 - 1 - m + -1 = h 28 25 - 1 - ((m + 1 : Nat) : Int) := by omega
    have cb := chn_bd (h 40) (h 28 25) (h 28 25 - 1 - m)
    have nv : nodeV (h 40) (h 41) (h 42) (h 43) (chF (h 40) (h 41) (h 42) (h 43) (h 28 25) g m) (h 28 25) (h 28 25 - 1 - m) g = nodeV (h 40) (h 41) (h 42) (h 43) ch (h 28 25) (h 28 25 - 1 - m) g := nodeV_congr hj hq (fun _ _ _ => ⟨rfl, rfl, rfl, rfl⟩) (fun k k0 k1 => (hc k k0 k1).1.symm)
    have nx : ∀ (v : Int) (gv2 : Int → Int), v = nodeV (h 40) (h 41) (h 42) (h 43) ch (h 28 25) (h 28 25 - 1 - m) g → 0 ≤ v → v ≤ 100000000 → WP D ad ca sc M_MO_chance 39 [(0, .ref (ad 28)), (1, vI a), (2, vI g), (3, vI (h 28 25 - 1 - m + -1))] [] (up (sw (sw h 45 gv2) 44 ch) 44 (h 28 25 - 1 - m) v) Q := by
      intro v gv2 hv v0 v1
      rw [e1, up_sw_self]
      refine ih (m + 1) gv2 _ (by omega) (fun j j0 j1 => ?_)
      show upf ch (h 28 25 - 1 - m) v j = upf (chF (h 40) (h 41) (h 42) (h 43) (h 28 25) g m) (h 28 25 - 1 - m) _ j ∧ _
      by_cases e : j = h 28 25 - 1 - m
      · rw [e, upf_same, upf_same, nv]
        exact ⟨hv, v0, v1⟩
      · rw [upf_ne _ _ e, upf_ne _ _ e]
        exact hc j (by omega) j1
    refine F_MO_chance_39 a g _ (by omega) gg (by omega) ⟨fun z => absurd z (by omega), fun _ => sp_children (h := sw (sw h 45 gv) 44 ch) (by omega) hn (RI_mk ?_ ⟨fun z => ⟨by omega, fun z2 => ⟨by omega, ?_⟩, fun z2 => ⟨by omega, ?_⟩⟩, fun z => ?_⟩)⟩
    · show InR (chn (h 40) (h 28 25) (h 28 25 - 1 - m))
      omega
    · have z : chn (h 40) (h 28 25) (h 28 25 - 1 - m) ≤ 0 := z
      have z2 : h 43 (h 28 25 - 1 - m) = 0 := z2
      exact nx 0 gv (by unfold nodeV; rw [if_neg (by omega), if_pos z2]) (by omega) (by omega)
    · have z : chn (h 40) (h 28 25) (h 28 25 - 1 - m) ≤ 0 := z
      have z2 : ¬ h 43 (h 28 25 - 1 - m) = 0 := z2
      exact nx 100000000 gv (by unfold nodeV; rw [if_neg (by omega), if_neg z2]) (by omega) (by omega)
    · have z : 0 < chn (h 40) (h 28 25) (h 28 25 - 1 - m) := z
      refine sp_mixed (h := sw (sw h 45 gv) 44 ch) hn hq hl S hj z gg (fun k k0 k1 => (hc k k0 k1).2) (fun v0 v1 gv2 => RL_mk (by omega) ⟨by omega, ?_⟩)
      rw [sw2']
      exact nx _ gv2 (by unfold nodeV; rw [if_pos z]; rfl) v0 v1
theorem pa_chance {v1 v2 : Int} (g1 : InR v1) (g2 : InR v2) (I : Inv N h) : WP D ad ca none M_MW_chance 0 [(0, .ref (ad 0)), (1, vI v1), (2, vI v2)] [] h (RI (fun r h1 => WP D ad ca none M_MO_chance 0 [(0, .ref (ad 28)), (1, vI v1), (2, vI v2)] [] h1 (RI (SameA N r)))) := by
  have T := I.2.2.2.2.2
  have te := T.1
  have tb := T.2.1
  have hb := T.bd'
  have es := T.snd
  have hq : ∀ k, 1 ≤ k → k < h 19 8 → h 20 k < k := fun k k0 k1 => (T.2.2.2.2.2.1 k k0 k1).1.2
  have hq' : ∀ k, 1 ≤ k → k < h 28 25 → h 40 k < k := fun k k0 k1 => by
    have a := (T.2.2.2.2.1 k (by omega) (by omega)).1.1
    have b := hq k k0 (by omega)
    omega
  have hf : ∀ k, 0 ≤ k → k < h 28 25 → h 43 k = 0 ∨ h 43 k = 1 := fun k k0 k1 => by
    have a := T.2.2.2.2.1 k k0 (by omega)
    omega
  have body : 0 ≤ v1 ∧ v1 < h 19 8 → 0 ≤ v2 ∧ v2 ≤ 1 → SND (h 20) (h 21) (h 22) (h 19 8) → WP D ad ca none M_TR_chanceOf 0 [(0, .ref (ad 19)), (1, vI v1), (2, vI v2)] [] h (RI (fun r11 h10 => RI (fun r h1 => WP D ad ca none M_MO_chance 0 [(0, .ref (ad 28)), (1, vI v1), (2, vI v2)] [] h1 (RI (SameA N r))) (some (vI r11)) h10)) := by
    intro c1 c2 s
    refine F_TR_chanceOf_0 v1 v2 g1 g2 ?_
    have go := sp_chanceOf_loop (D := D) (ad := ad) (ca := ca) (sc := none) (h := h) (x := h) (Q := RI (fun r11 h10 => RI (fun r h1 => WP D ad ca none M_MO_chance 0 [(0, .ref (ad 28)), (1, vI v1), (2, vI v2)] [] h1 (RI (SameA N r))) (some (vI r11)) h10)) (a := v1) (g := v2) T s c1 (by omega) (fun sv ch r0 r1 => RI_mk (by omega) (RI_mk (by omega) ?_)) (h 19 8 - v1).toNat 0 (h 27) (h 26) (by omega) (fun j j0 j1 => by omega)
    · have eh : sw (sw h 27 (h 27)) 26 (h 26) = h := by rw [sw_self, sw_self]
      rw [eh, show h 19 8 - 1 - ((0 : Nat) : Int) = h 19 8 - 1 by omega] at go
      exact go
    · refine F_MO_chance_0 v1 v2 g1 g2 (sp_MO_isNode g1 ?_ (fun _ => rc1 (sp_MO_in g2 i0 i1 (fun _ => rc1 (sp_MOsound ?_ (fun k k0 k1 => ⟨(hb k k0 k1).1, (hb k k0 k1).2.1⟩) (fun s2 => rc1 ?_) (fun z => absurd (es.mp s) z))) (fun z => absurd c2 z))) (fun z => absurd ?_ z))
      · show 0 ≤ h 28 25 ∧ h 28 25 ≤ 24
        omega
      · show 1 ≤ h 28 25 ∧ h 28 25 ≤ 24
        omega
      · have go2 := sp_MOchance_loop (D := D) (ad := ad) (ca := ca) (sc := none) (h := sw (sw h 27 sv) 26 ch) (Q := RI (SameA N (chF (h 20) (h 21) (h 22) (h 25) (h 19 8) v2 (h 19 8 - v1).toNat v1))) (a := v1) (g := v2) (by show 1 ≤ h 28 25 ∧ h 28 25 ≤ 24; omega) hq' hb hf s2 (by show 0 ≤ v1 ∧ v1 < h 28 25; omega) g2 (fun gv ch2 => ?_) (h 28 25).toNat 0 (h 45) (h 44) (by show (0 : Int) + (((h 28 25).toNat : Nat) : Int) = h 28 25; omega) (fun j j0 j1 => by
          have j0 : h 28 25 - 1 - ((0 : Nat) : Int) < j := j0
          have j1 : j < h 28 25 := j1
          omega)
        · have eh : sw (sw (sw (sw h 27 sv) 26 ch) 45 (h 45)) 44 (h 44) = sw (sw h 27 sv) 26 ch := by
            have a1 : sw (sw (sw h 27 sv) 26 ch) 45 (h 45) = sw (sw h 27 sv) 26 ch := sw_self (sw (sw h 27 sv) 26 ch) 45
            rw [a1]
            exact sw_self (sw (sw h 27 sv) 26 ch) 44
          rw [eh] at go2
          have e3 : (sw (sw h 27 sv) 26 ch) 28 25 - 1 - ((0 : Nat) : Int) = h 28 25 - 1 := by show h 28 25 - 1 - ((0 : Nat) : Int) = h 28 25 - 1; omega
          rw [e3] at go2
          exact go2
        · refine done2 (by omega) ?_ I.step
          show _ = chF (h 40) (h 41) (h 42) (h 43) (h 28 25) v2 (h 28 25).toNat v1
          rw [← te]
          have st := chF_stable (P := h 20) (LO := h 21) (HI := h 22) (FE := h 25) (n := h 19 8) (g := v2) (j := v1) (m := (h 19 8 - v1).toNat) (by omega) (h 19 8).toNat.pred.succ.pred
          have st2 := chF_stable (P := h 20) (LO := h 21) (HI := h 22) (FE := h 25) (n := h 19 8) (g := v2) (j := v1) (m := (h 19 8 - v1).toNat) (by omega) v1.toNat
          rw [show (h 19 8 - v1).toNat + v1.toNat = (h 19 8).toNat by omega] at st2
          rw [← st2]
          exact chF_congr hq (fun k k0 k1 => (T.2.2.2.2.1 k k0 k1).1) (h 19 8).toNat (by omega) v1 (by omega) (by omega)
      · show 0 ≤ v1 ∧ v1 < h 28 25
        omega
  refine F_MW_chance_0 v1 v2 g1 g2 (sp_TR_has g1 (fun c1 => rc1 (sp_MW_isWithin g2 i0 i1 (fun c2 => rc1 (sp_TRsound T (fun s => rc1 ⟨fun e => ?_, fun e => ?_⟩) (fun s => rc0 (RI_mk (by omega) ?_)))) (fun c2 => rc0 (RI_mk (by omega) ?_)))) (fun c1 => rc0 (RI_mk (by omega) ?_)))
  · have e0 : v2 = 0 := by omega
    have := body c1 c2 s
    rw [e0] at this ⊢
    exact this
  · have := body c1 c2 s
    rw [e] at this ⊢
    exact this
  · exact F_MO_chance_0 v1 v2 g1 g2 (sp_MO_isNode g1 (by omega) (fun _ => rc1 (sp_MO_in g2 i0 i1 (fun _ => rc1 (sp_MOsound (by omega) (fun k k0 k1 => ⟨(hb k k0 k1).1, (hb k k0 k1).2.1⟩) (fun z => absurd (es.mpr z) s) (fun _ => rc0 (done (by omega) I.step)))) (fun z => absurd c2 z))) (fun z => absurd (by omega) z))
  · exact F_MO_chance_0 v1 v2 g1 g2 (sp_MO_isNode g1 (by omega) (fun _ => rc1 (sp_MO_in g2 i0 i1 (fun z => absurd z c2) (fun _ => rc0 (done (by omega) I.step)))) (fun z => absurd (by omega) z))
  · exact F_MO_chance_0 v1 v2 g1 g2 (sp_MO_isNode g1 (by omega) (fun z => absurd (by omega) c1) (fun _ => rc0 (done (by omega) I.step)))
end CP
