/-! PURE SIDE: the invariant of both systems; the steps that change. -/
def TX (sc : Nat → Int32) (sl : Int32) (zt : Nat → Int32) (zl : Int32) : Prop := ∃ L : Nat, L ≤ 80 ∧ sl = nI L ∧ zl = nI L ∧ ∀ j : Nat, j < L → sc j = zt j
def VI : IV := fun k wo _ hs hp kp _ _ sc sl _ _ _ _ zs zb _ zt zl zu _ _ _ _ _ => JO (80 * k) wo zs ∧ HI (80 * k) hs hp kp zb zu ∧ TX sc sl zt zl
theorem adopt_ok {K : Nat} (hK : 20000 ≤ K) {d d' : Nat} (hd : d ≤ d') {wo wt : OW} {zs zs' : Nat → Int32} {hs : Nat → OW} {hp : Nat → Nat} {kp : Int32} {zb : Nat → Int32} {zu : Int32} (hJ : JO d wo zs) (hH : HI d hs hp kp zb zu) (hT : JO d' wt zs') {r : Int32} (hr : ¬ r < 0) :
    ∃ (hs' : Nat → OW) (hp' : Nat → Nat) (kp' : Int32) (zb' : Nat → Int32) (zu' : Int32), f_X4_adopt wo wt hs hp kp r = some (r, bec wo wt, hs', hp', kp') ∧ f_X5_record K zs zb zu = some (zb', zu') ∧ HI d' hs' hp' kp' zb' zu' ∧ JO d' (bec wo wt) zs' := by
  obtain ⟨hs', hp', kp', zb', zu', u1, u2, u3⟩ := remember_ok hK hJ hH
  refine ⟨hs', hp', kp', zb', zu', ?_, u2, HI_up hd u3, JO_bec hT⟩
  rw [adopt_eq, if_neg hr, u1]
  rfl
theorem adopt_no {wo wt : OW} {hs : Nat → OW} {hp : Nat → Nat} {kp : Int32} {r : Int32} (hr : r < 0) : f_X4_adopt wo wt hs hp kp r = some (r, wo, hs, hp, kp) := by
  rw [adopt_eq, if_pos hr]
theorem s_clerk {K : Nat} (hK : 20000 ≤ K) : St_clerk VI K := by
  intro k wo wt hs hp kp fp fr sc sl sp sv sf ss zs zb za zt zl zu zp zw zf zg zc hk hI x1
  obtain ⟨hJ, hH, hX⟩ := hI
  have hJ1 : JO (80 * k) (bec wt wo) zs := JO_bec hJ
  obtain ⟨r, cl', cc', u1, u2⟩ := oClerk_ok hJ1 x1
  have hcl : f_X4_clerk wo wt hs hp kp x1 = (f_X4_adopt wo ((bec wt wo).1, (bec wt wo).2.1, (bec wt wo).2.2.1, (bec wt wo).2.2.2.1, (bec wt wo).2.2.2.2.1, (bec wt wo).2.2.2.2.2.1, (bec wt wo).2.2.2.2.2.2.1, (bec wt wo).2.2.2.2.2.2.2.1, cl', cc', (bec wt wo).2.2.2.2.2.2.2.2.2.2.1, (bec wt wo).2.2.2.2.2.2.2.2.2.2.2) hs hp kp r).bind fun ⟨r21, y22, y23, y24, y25⟩ => some (r21, y22, ((bec wt wo).1, (bec wt wo).2.1, (bec wt wo).2.2.1, (bec wt wo).2.2.2.1, (bec wt wo).2.2.2.2.1, (bec wt wo).2.2.2.2.2.1, (bec wt wo).2.2.2.2.2.2.1, (bec wt wo).2.2.2.2.2.2.2.1, cl', cc', (bec wt wo).2.2.2.2.2.2.2.2.2.2.1, (bec wt wo).2.2.2.2.2.2.2.2.2.2.2), y23, y24, y25) := by
    show (f_X2_addClerk (bec wt wo).2.2.2.2.2.2.2.2.1 (bec wt wo).2.2.2.2.2.2.2.2.2.1 x1).bind _ = _
    rw [u1]
    rfl
  rcases u2 with ⟨rfl, g⟩ | ⟨rfl, g, g2⟩ | ⟨hr, g, g2, -, zs', g3, g4⟩
  · rw [adopt_no (by decide)] at hcl
    refine ⟨-1, wo, _, hs, hp, kp, zs, zb, zu, hcl, ?_, JO_up (by omega) hJ, HI_up (by omega) hH, hX⟩
    unfold f_X5_clerk
    rw [if_pos g]
  · rw [adopt_no (by decide)] at hcl
    refine ⟨-3, wo, _, hs, hp, kp, zs, zb, zu, hcl, ?_, JO_up (by omega) hJ, HI_up (by omega) hH, hX⟩
    unfold f_X5_clerk
    rw [g, if_neg (by decide), if_pos g2]
  · obtain ⟨hs', hp', kp', zb', zu', v1, v2, v3, v4⟩ := adopt_ok (d' := 80 * (k + 1)) hK (by omega) hJ hH (JO_up (by omega) g4) hr
    rw [v1] at hcl
    refine ⟨r, _, _, hs', hp', kp', zs', zb', zu', hcl, ?_, v4, v3, hX⟩
    unfold f_X5_clerk
    rw [g, if_neg (by decide), if_neg g2, v2, g3]
    rfl
theorem s_ask {K : Nat} (hK : 20000 ≤ K) : St_ask VI K := by
  intro k wo wt hs hp kp fp fr sc sl sp sv sf ss zs zb za zt zl zu zp zw zf zg zc hk hI x1 x2
  obtain ⟨hJ, hH, hX⟩ := hI
  have hJ1 : JO (80 * k) (bec wt wo) zs := JO_bec hJ
  obtain ⟨r, ns, no, nr, nt, nd, ni, nm, nf, cl, u1, u2⟩ := oAsk_ok (K := K) (by omega) (by omega) hJ1 x1 x2
  have hcl : f_X4_ask K wo wt hs hp kp x1 x2 = (f_X4_adopt wo (ns, no, nr, nt, nd, ni, nm, nf, cl, (bec wt wo).2.2.2.2.2.2.2.2.2.1, (bec wt wo).2.2.2.2.2.2.2.2.2.2.1, (bec wt wo).2.2.2.2.2.2.2.2.2.2.2) hs hp kp r).bind fun ⟨r21, y22, y23, y24, y25⟩ => some (r21, y22, (ns, no, nr, nt, nd, ni, nm, nf, cl, (bec wt wo).2.2.2.2.2.2.2.2.2.1, (bec wt wo).2.2.2.2.2.2.2.2.2.2.1, (bec wt wo).2.2.2.2.2.2.2.2.2.2.2), y23, y24, y25) := by
    show (f_X2_serve K ((bec wt wo).1) ((bec wt wo).2.1) ((bec wt wo).2.2.1) ((bec wt wo).2.2.2.1) ((bec wt wo).2.2.2.2.1) ((bec wt wo).2.2.2.2.2.1) ((bec wt wo).2.2.2.2.2.2.1) ((bec wt wo).2.2.2.2.2.2.2.1) ((bec wt wo).2.2.2.2.2.2.2.2.1) ((bec wt wo).2.2.2.2.2.2.2.2.2.1) ((bec wt wo).2.2.2.2.2.2.2.2.2.2.1) ((bec wt wo).2.2.2.2.2.2.2.2.2.2.2) x1 x2).bind _ = _
    rw [u1]
    rfl
  rcases u2 with ⟨rfl, g⟩ | ⟨g, g2, ⟨rfl, g3⟩ | ⟨hr, g5, zs', g3, g4⟩⟩
  · rw [adopt_no (by decide)] at hcl
    refine ⟨-1, wo, _, hs, hp, kp, zs, zb, zu, hcl, ?_, JO_up (by omega) hJ, HI_up (by omega) hH, hX⟩
    unfold f_X5_ask
    rcases g with g | g
    · rw [if_pos g]
    · by_cases g2 : f_X5_isClerk zs x1 = 0
      · rw [if_pos g2]
      · rw [if_neg g2, if_pos g]
  · rw [adopt_no (by decide)] at hcl
    refine ⟨-3, wo, _, hs, hp, kp, zs, zb, zu, hcl, ?_, JO_up (by omega) hJ, HI_up (by omega) hH, hX⟩
    unfold f_X5_ask
    rw [g, if_neg (by decide), g2, if_neg (by decide), g3]
    rfl
  · obtain ⟨hs', hp', kp', zb', zu', v1, v2, v3, v4⟩ := adopt_ok (d' := 80 * (k + 1)) hK (by omega) hJ hH (JO_up (by omega) g4) hr
    rw [v1] at hcl
    refine ⟨r, _, _, hs', hp', kp', zs', zb', zu', hcl, ?_, v4, v3, hX⟩
    unfold f_X5_ask
    rw [g, if_neg (by decide), g2, if_neg (by decide), g5, v2, g3]
    rfl
theorem s_forget {K : Nat} (hK : 20000 ≤ K) : St_forget VI K := by
  intro k wo wt hs hp kp fp fr sc sl sp sv sf ss zs zb za zt zl zu zp zw zf zg zc hk hI x1
  obtain ⟨hJ, hH, hX⟩ := hI
  have hJ1 : JO (80 * k) (bec wt wo) zs := JO_bec hJ
  obtain ⟨r, ns, no, nr, nf, cl, u1, u2⟩ := oForget_ok (K := K) (by omega) hJ1 x1
  have hcl : f_X4_forget K wo wt hs hp kp x1 = (f_X4_adopt wo (ns, no, nr, (bec wt wo).2.2.2.1, (bec wt wo).2.2.2.2.1, (bec wt wo).2.2.2.2.2.1, (bec wt wo).2.2.2.2.2.2.1, nf, cl, (bec wt wo).2.2.2.2.2.2.2.2.2.1, (bec wt wo).2.2.2.2.2.2.2.2.2.2.1, (bec wt wo).2.2.2.2.2.2.2.2.2.2.2) hs hp kp r).bind fun ⟨r21, y22, y23, y24, y25⟩ => some (r21, y22, (ns, no, nr, (bec wt wo).2.2.2.1, (bec wt wo).2.2.2.2.1, (bec wt wo).2.2.2.2.2.1, (bec wt wo).2.2.2.2.2.2.1, nf, cl, (bec wt wo).2.2.2.2.2.2.2.2.2.1, (bec wt wo).2.2.2.2.2.2.2.2.2.2.1, (bec wt wo).2.2.2.2.2.2.2.2.2.2.2), y23, y24, y25) := by
    show (f_X2_letForget K ((bec wt wo).1) ((bec wt wo).2.1) ((bec wt wo).2.2.1) ((bec wt wo).2.2.2.2.2.2.2.1) ((bec wt wo).2.2.2.2.2.2.2.2.1) ((bec wt wo).2.2.2.2.2.2.2.2.2.1) x1).bind _ = _
    rw [u1]
    rfl
  rcases u2 with ⟨rfl, g⟩ | ⟨g, ⟨rfl, g2⟩ | ⟨hr, ⟨h, h0, h6, g2⟩, zs', g3, g4⟩⟩
  · rw [adopt_no (by decide)] at hcl
    refine ⟨-1, wo, _, hs, hp, kp, zs, zb, zu, hcl, ?_, JO_up (by omega) hJ, HI_up (by omega) hH, hX⟩
    unfold f_X5_forget
    rw [if_pos g]
  · rw [adopt_no (by decide)] at hcl
    refine ⟨-2, wo, _, hs, hp, kp, zs, zb, zu, hcl, ?_, JO_up (by omega) hJ, HI_up (by omega) hH, hX⟩
    unfold f_X5_forget
    rw [g, if_neg (by decide), g2]
    rfl
  · obtain ⟨hs', hp', kp', zb', zu', v1, v2, v3, v4⟩ := adopt_ok (d' := 80 * (k + 1)) hK (by omega) hJ hH (JO_up (by omega) g4) hr
    rw [v1] at hcl
    refine ⟨r, _, _, hs', hp', kp', zs', zb', zu', hcl, ?_, v4, v3, hX⟩
    unfold f_X5_forget
    rw [g, if_neg (by decide), g2, v2, g3, sb_eq, if_neg (show ¬ nI h = 0 from fun z => absurd (nI_inj (b := 0) (by omega) (by omega) z) (by omega))]
    rfl
theorem s_giveBack {K : Nat} (hK : 20000 ≤ K) : St_giveBack VI K := by
  intro k wo wt hs hp kp fp fr sc sl sp sv sf ss zs zb za zt zl zu zp zw zf zg zc hk hI x1
  obtain ⟨hJ, hH, hX⟩ := hI
  have hJ1 : JO (80 * k) (bec wt wo) zs := JO_bec hJ
  obtain ⟨r, ns, no, nr, nf, cl, u1, u2⟩ := oBack_ok (K := K) (by omega) hJ1 x1
  have hcl : f_X4_giveBack K wo wt hs hp kp x1 = (f_X4_adopt wo (ns, no, nr, (bec wt wo).2.2.2.1, (bec wt wo).2.2.2.2.1, (bec wt wo).2.2.2.2.2.1, (bec wt wo).2.2.2.2.2.2.1, nf, cl, (bec wt wo).2.2.2.2.2.2.2.2.2.1, (bec wt wo).2.2.2.2.2.2.2.2.2.2.1, (bec wt wo).2.2.2.2.2.2.2.2.2.2.2) hs hp kp r).bind fun ⟨r21, y22, y23, y24, y25⟩ => some (r21, y22, (ns, no, nr, (bec wt wo).2.2.2.1, (bec wt wo).2.2.2.2.1, (bec wt wo).2.2.2.2.2.1, (bec wt wo).2.2.2.2.2.2.1, nf, cl, (bec wt wo).2.2.2.2.2.2.2.2.2.1, (bec wt wo).2.2.2.2.2.2.2.2.2.2.1, (bec wt wo).2.2.2.2.2.2.2.2.2.2.2), y23, y24, y25) := by
    show (f_X2_takeBack K ((bec wt wo).1) ((bec wt wo).2.1) ((bec wt wo).2.2.1) ((bec wt wo).2.2.2.2.2.2.2.1) ((bec wt wo).2.2.2.2.2.2.2.2.1) ((bec wt wo).2.2.2.2.2.2.2.2.2.1) ((bec wt wo).2.2.2.2.2.2.2.2.2.2.1) x1).bind _ = _
    rw [u1]
    rfl
  rcases u2 with ⟨rfl, g⟩ | ⟨g, ⟨rfl, g2⟩ | ⟨hr, ⟨h, h0, h6, g2⟩, zs', g3, g4⟩⟩
  · rw [adopt_no (by decide)] at hcl
    refine ⟨-1, wo, _, hs, hp, kp, zs, zb, zu, hcl, ?_, JO_up (by omega) hJ, HI_up (by omega) hH, hX⟩
    unfold f_X5_giveBack
    rw [if_pos g]
  · rw [adopt_no (by decide)] at hcl
    refine ⟨-2, wo, _, hs, hp, kp, zs, zb, zu, hcl, ?_, JO_up (by omega) hJ, HI_up (by omega) hH, hX⟩
    unfold f_X5_giveBack
    rw [g, if_neg (by decide), g2]
    rfl
  · obtain ⟨hs', hp', kp', zb', zu', v1, v2, v3, v4⟩ := adopt_ok (d' := 80 * (k + 1)) hK (by omega) hJ hH (JO_up (by omega) g4) hr
    rw [v1] at hcl
    refine ⟨r, _, _, hs', hp', kp', zs', zb', zu', hcl, ?_, v4, v3, hX⟩
    unfold f_X5_giveBack
    rw [g, if_neg (by decide), g2, v2, g3, sb_eq, if_neg (show ¬ nI h = 0 from fun z => absurd (nI_inj (b := 0) (by omega) (by omega) z) (by omega))]
    rfl
theorem s_makeVoid {K : Nat} (hK : 20000 ≤ K) : St_makeVoid VI K := by
  intro k wo wt hs hp kp fp fr sc sl sp sv sf ss zs zb za zt zl zu zp zw zf zg zc hk hI x1
  obtain ⟨hJ, hH, hX⟩ := hI
  have hJ1 : JO (80 * k) (bec wt wo) zs := JO_bec hJ
  obtain ⟨r, ns, no, nr, nf, u1, u2⟩ := oVoid_ok (K := K) (by omega) hJ1 x1
  have hcl : f_X4_makeVoid K wo wt hs hp kp x1 = (f_X4_adopt wo (ns, no, nr, (bec wt wo).2.2.2.1, (bec wt wo).2.2.2.2.1, (bec wt wo).2.2.2.2.2.1, (bec wt wo).2.2.2.2.2.2.1, nf, (bec wt wo).2.2.2.2.2.2.2.2.1, (bec wt wo).2.2.2.2.2.2.2.2.2.1, (bec wt wo).2.2.2.2.2.2.2.2.2.2.1, (bec wt wo).2.2.2.2.2.2.2.2.2.2.2) hs hp kp r).bind fun ⟨r21, y22, y23, y24, y25⟩ => some (r21, y22, (ns, no, nr, (bec wt wo).2.2.2.1, (bec wt wo).2.2.2.2.1, (bec wt wo).2.2.2.2.2.1, (bec wt wo).2.2.2.2.2.2.1, nf, (bec wt wo).2.2.2.2.2.2.2.2.1, (bec wt wo).2.2.2.2.2.2.2.2.2.1, (bec wt wo).2.2.2.2.2.2.2.2.2.2.1, (bec wt wo).2.2.2.2.2.2.2.2.2.2.2), y23, y24, y25) := by
    show (f_X2_cancel K ((bec wt wo).1) ((bec wt wo).2.1) ((bec wt wo).2.2.1) ((bec wt wo).2.2.2.2.2.2.2.1) x1).bind _ = _
    rw [u1]
    rfl
  rcases u2 with ⟨rfl, g⟩ | ⟨g, n, n1, n6, rfl, ⟨rfl, g2⟩ | ⟨hr, g2, zs', g3, g5, g4⟩⟩
  · rw [adopt_no (by decide)] at hcl
    refine ⟨-1, wo, _, hs, hp, kp, zs, zb, zu, hcl, ?_, JO_up (by omega) hJ, HI_up (by omega) hH, hX⟩
    unfold f_X5_makeVoid
    rw [if_pos g]
  · rw [adopt_no (by decide)] at hcl
    refine ⟨-2, wo, _, hs, hp, kp, zs, zb, zu, hcl, ?_, JO_up (by omega) hJ, HI_up (by omega) hH, hX⟩
    unfold f_X5_makeVoid
    rw [g, if_neg (by decide), n_nI, nI_a0, ix_nI (by omega) (by omega), cl_nI (by omega), if_neg g2]
  · obtain ⟨hs', hp', kp', zb', zu', v1, v2, v3, v4⟩ := adopt_ok (d' := 80 * (k + 1)) hK (by omega) hJ hH (JO_up (by omega) g4) hr
    rw [v1] at hcl
    refine ⟨r, _, _, hs', hp', kp', zs', zb', zu', hcl, ?_, v4, v3, hX⟩
    unfold f_X5_makeVoid
    rw [g, if_neg (by decide), n_nI, nI_a0, nI_1, ix_nI (by omega) (by omega), cl_nI (by omega), if_pos g2, v2, g3]
    show ix (nI (48 + 5 * n + 1)) 3053 (some (zs' (nI (48 + 5 * n + 1)).toNatClampNeg, zs', zb', zu')) = _
    rw [ix_nI (by omega) (by omega), cl_nI (by omega), g5]
theorem s_close {K : Nat} (hK : 20000 ≤ K) : St_close VI K := by
  intro k wo wt hs hp kp fp fr sc sl sp sv sf ss zs zb za zt zl zu zp zw zf zg zc hk hI
  obtain ⟨hJ, hH, hX⟩ := hI
  have hJ1 : JO (80 * k) (bec wt wo) zs := JO_bec hJ
  obtain ⟨r, ns, no, nr, nf, cl, ct, zs', hr, u1, g3, g4⟩ := oClose_ok (K := K) (by omega) hJ1
  have hcl : f_X4_close K wo wt hs hp kp = (f_X4_adopt wo (ns, no, nr, (bec wt wo).2.2.2.1, (bec wt wo).2.2.2.2.1, (bec wt wo).2.2.2.2.2.1, (bec wt wo).2.2.2.2.2.2.1, nf, cl, (bec wt wo).2.2.2.2.2.2.2.2.2.1, (bec wt wo).2.2.2.2.2.2.2.2.2.2.1, ct) hs hp kp r).bind fun ⟨r21, y22, y23, y24, y25⟩ => some (r21, y22, (ns, no, nr, (bec wt wo).2.2.2.1, (bec wt wo).2.2.2.2.1, (bec wt wo).2.2.2.2.2.1, (bec wt wo).2.2.2.2.2.2.1, nf, cl, (bec wt wo).2.2.2.2.2.2.2.2.2.1, (bec wt wo).2.2.2.2.2.2.2.2.2.2.1, ct), y23, y24, y25) := by
    show (f_X2_endDay K ((bec wt wo).1) ((bec wt wo).2.1) ((bec wt wo).2.2.1) ((bec wt wo).2.2.2.2.2.2.2.1) ((bec wt wo).2.2.2.2.2.2.2.2.1) ((bec wt wo).2.2.2.2.2.2.2.2.2.2.2)).bind _ = _
    rw [u1]
    rfl
  · obtain ⟨hs', hp', kp', zb', zu', v1, v2, v3, v4⟩ := adopt_ok (d' := 80 * (k + 1)) hK (by omega) hJ hH (JO_up (by omega) g4) hr
    rw [v1] at hcl
    refine ⟨r, _, _, hs', hp', kp', zs', zb', zu', hcl, ?_, v4, v3, hX⟩
    unfold f_X5_close
    rw [v2, g3]
    rfl
theorem s_set {K : Nat} (hK : 20000 ≤ K) : St_set VI K := by
  intro k wo wt hs hp kp fp fr sc sl sp sv sf ss zs zb za zt zl zu zp zw zf zg zc hk hI x1 x2
  obtain ⟨hJ, hH, hX⟩ := hI
  have hJ1 : JO (80 * k) (bec wt wo) zs := JO_bec hJ
  obtain ⟨r, cs, u1, u2⟩ := oSet_ok (K := K) hJ1 x1 x2
  have hcl : f_X4_set wo wt hs hp kp x1 x2 = (f_X4_adopt wo ((bec wt wo).1, (bec wt wo).2.1, (bec wt wo).2.2.1, (bec wt wo).2.2.2.1, (bec wt wo).2.2.2.2.1, (bec wt wo).2.2.2.2.2.1, (bec wt wo).2.2.2.2.2.2.1, (bec wt wo).2.2.2.2.2.2.2.1, (bec wt wo).2.2.2.2.2.2.2.2.1, (bec wt wo).2.2.2.2.2.2.2.2.2.1, cs, (bec wt wo).2.2.2.2.2.2.2.2.2.2.2) hs hp kp r).bind fun ⟨r21, y22, y23, y24, y25⟩ => some (r21, y22, ((bec wt wo).1, (bec wt wo).2.1, (bec wt wo).2.2.1, (bec wt wo).2.2.2.1, (bec wt wo).2.2.2.2.1, (bec wt wo).2.2.2.2.2.1, (bec wt wo).2.2.2.2.2.2.1, (bec wt wo).2.2.2.2.2.2.2.1, (bec wt wo).2.2.2.2.2.2.2.2.1, (bec wt wo).2.2.2.2.2.2.2.2.2.1, cs, (bec wt wo).2.2.2.2.2.2.2.2.2.2.2), y23, y24, y25) := by
    show (f_X2_change ((bec wt wo).2.2.2.2.2.2.2.2.2.2.1) x1 x2).bind _ = _
    rw [u1]
    rfl
  rcases u2 with ⟨rfl, g⟩ | ⟨hr, zs', g3, g4⟩
  · rw [adopt_no (by decide)] at hcl
    refine ⟨-1, wo, _, hs, hp, kp, zs, zb, zu, hcl, ?_, JO_up (by omega) hJ, HI_up (by omega) hH, hX⟩
    exact g zb zu
  · obtain ⟨hs', hp', kp', zb', zu', v1, v2, v3, v4⟩ := adopt_ok (d' := 80 * (k + 1)) hK (by omega) hJ hH (JO_up (by omega) g4) hr
    rw [v1] at hcl
    refine ⟨r, _, _, hs', hp', kp', zs', zb', zu', hcl, ?_, v4, v3, hX⟩
    exact g3 zb zu zb' zu' v2
theorem s_undo {K : Nat} (hK : 20000 ≤ K) : St_undo VI K := by
  intro k wo wt hs hp kp fp fr sc sl sp sv sf ss zs zb za zt zl zu zp zw zf zg zc hk hI
  obtain ⟨hJ, hH, hX⟩ := hI
  obtain ⟨r, wo', kp', zs', zu', u1, u2, u3, u4⟩ := undo_ok hK hJ hH
  exact ⟨r, wo', kp', zs', zu', u1, u2, JO_up (by omega) u3, HI_up (by omega) u4, hX⟩
