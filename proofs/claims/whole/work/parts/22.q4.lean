/-! PURE SIDE: the invariant of both systems; the steps that change. -/
def TX (sc : Nat → Int32) (sl : Int32) (zt : Nat → Int32) (zl : Int32) : Prop := ∃ L : Nat, L ≤ 80 ∧ sl = nI L ∧ zl = nI L ∧ ∀ j : Nat, j < L → sc j = zt j
def VI : IV := fun k wo _ hs hp kp _ _ sc sl _ _ _ _ zs zb _ zt zl zu _ _ _ _ _ => JO (80 * k) wo zs ∧ HI (80 * k) hs hp kp zb zu ∧ TX sc sl zt zl
theorem adopt_ok {K : Nat} (hK : 20000 ≤ K) {d d' : Nat} (hd : d ≤ d') {wo wt : OW} {zs zs' : Nat → Int32} {hs : Nat → OW} {hp : Nat → Nat} {kp : Int32} {zb : Nat → Int32} {zu : Int32} (hJ : JO d wo zs) (hH : HI d hs hp kp zb zu) (hT : JO d' wt zs') {r : Int32} (hr : ¬ r < 0) :
    ∃ (hs' : Nat → OW) (hp' : Nat → Nat) (kp' : Int32) (zb' : Nat → Int32) (zu' : Int32), f_X4_adopt wo wt hs hp kp r = some (r, bec wo wt, hs', hp', kp') ∧ f_X5_record K zs zb zu = some (zb', zu') ∧ HI d' hs' hp' kp' zb' zu' ∧ JO d' (bec wo wt) zs' := by
  obtain ⟨hs', hp', kp', zb', zu', u1, u2, u3⟩ := remember_ok hK hJ hH
  refine ⟨hs', hp', kp', zb', zu', ?_, u2, HI_up hd u3, JO_bec hT⟩
  rw [adopt_eq, if_neg hr, u1]
  rfl
theorem adopt_no {wo wt : OW} {hs : Nat → OW} {hp : Nat → Nat} {kp : Int32} {r : Int32} (hr : r < 0) : f_X4_adopt wo wt hs hp kp r = some (r, wo, hs, hp, kp) := by
  rw [adopt_eq, if_pos hr]
theorem s_clerk {K : Nat} (hK : 20000 ≤ K) : St_clerk VI K := by
  intro k wo wt hs hp kp fp fr sc sl sp sv sf ss zs zb za zt zl zu zp zw zf zg zc hk hI x1
  obtain ⟨hJ, hH, hX⟩ := hI
  have hJ1 : JO (80 * k) (bec wt wo) zs := JO_bec hJ
  obtain ⟨r, cl', cc', u1, u2⟩ := oClerk_ok hJ1 x1
  have hcl : f_X4_clerk wo wt hs hp kp x1 = (f_X4_adopt wo ((bec wt wo).1, (bec wt wo).2.1, (bec wt wo).2.2.1, (bec wt wo).2.2.2.1, (bec wt wo).2.2.2.2.1, (bec wt wo).2.2.2.2.2.1, (bec wt wo).2.2.2.2.2.2.1, (bec wt wo).2.2.2.2.2.2.2.1, cl', cc', (bec wt wo).2.2.2.2.2.2.2.2.2.2.1, (bec wt wo).2.2.2.2.2.2.2.2.2.2.2) hs hp kp r).bind fun ⟨r21, y22, y23, y24, y25⟩ => some (r21, y22, ((bec wt wo).1, (bec wt wo).2.1, (bec wt wo).2.2.1, (bec wt wo).2.2.2.1, (bec wt wo).2.2.2.2.1, (bec wt wo).2.2.2.2.2.1, (bec wt wo).2.2.2.2.2.2.1, (bec wt wo).2.2.2.2.2.2.2.1, cl', cc', (bec wt wo).2.2.2.2.2.2.2.2.2.2.1, (bec wt wo).2.2.2.2.2.2.2.2.2.2.2), y23, y24, y25) := by
    show (f_X2_addClerk (bec wt wo).2.2.2.2.2.2.2.2.1 (bec wt wo).2.2.2.2.2.2.2.2.2.1 x1).bind _ = _
    rw [u1]
    rfl
  rcases u2 with ⟨rfl, g⟩ | ⟨rfl, g, g2⟩ | ⟨hr, g, g2, -, zs', g3, g4⟩
  · rw [adopt_no (by decide)] at hcl
    refine ⟨-1, wo, _, hs, hp, kp, zs, zb, zu, hcl, ?_, JO_up (by omega) hJ, HI_up (by omega) hH, hX⟩
    unfold f_X5_clerk
    rw [if_pos g]
  · rw [adopt_no (by decide)] at hcl
    refine ⟨-3, wo, _, hs, hp, kp, zs, zb, zu, hcl, ?_, JO_up (by omega) hJ, HI_up (by omega) hH, hX⟩
    unfold f_X5_clerk
    rw [g, if_neg (by decide), if_pos g2]
  · obtain ⟨hs', hp', kp', zb', zu', v1, v2, v3, v4⟩ := adopt_ok (d' := 80 * (k + 1)) hK (by omega) hJ hH (JO_up (by omega) g4) hr
    rw [v1] at hcl
    refine ⟨r, _, _, hs', hp', kp', zs', zb', zu', hcl, ?_, v4, v3, hX⟩
    unfold f_X5_clerk
    rw [g, if_neg (by decide), if_neg g2, v2, g3]
    rfl
