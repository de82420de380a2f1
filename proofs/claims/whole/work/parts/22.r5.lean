/-! PURE SIDE: commands, runs, fault, play. -/
theorem rof_0 {r : Int32} (h : ¬ r < 0) : f_X4_reasonOf r = 0 := by
  unfold f_X4_reasonOf
  rw [if_neg h]
theorem perf_ok {K : Nat} (hK : 1000 ≤ K) {d : Nat} (hd : d ≤ 1000000) {w : OW} {zs : Nat → Int32} (hJ : JO d w zs) (v f s g : Int32) (hv : (v = 0 ∧ (f = 0 ∨ f = 1 ∨ f = 2)) ∨ (v = 1 ∧ s = g) ∨ v = 2 ∨ v = 3 ∨ v = 4 ∨ v = 5) :
    ∃ (r : Int32) (w' : OW), f_X4_perform K w v f s = some (r, w') ∧ ((f_X4_reasonOf r = 2 ∧ f_X5_isRange zs v f g = 0) ∨ (f_X4_reasonOf r = 3 ∧ ¬ f_X5_isRange zs v f g = 0 ∧ f_X5_isPossible K zs v f g = some 0) ∨ (f_X4_reasonOf r = 0 ∧ ¬ r < 0 ∧ ¬ f_X5_isRange zs v f g = 0 ∧ f_X5_isPossible K zs v f g = some 1 ∧ ∃ zs', f_X5_goCommand K zs v f g = some zs' ∧ JO (d + 1) w' zs')) := by
  have a10 : ¬ (1 : Int32) = 0 := by decide
  have a20 : ¬ (2 : Int32) = 0 := by decide
  have a21 : ¬ (2 : Int32) = 1 := by decide
  have a30 : ¬ (3 : Int32) = 0 := by decide
  have a31 : ¬ (3 : Int32) = 1 := by decide
  have a32 : ¬ (3 : Int32) = 2 := by decide
  have a40 : ¬ (4 : Int32) = 0 := by decide
  have a41 : ¬ (4 : Int32) = 1 := by decide
  have a42 : ¬ (4 : Int32) = 2 := by decide
  have a43 : ¬ (4 : Int32) = 3 := by decide
  have a50 : ¬ (5 : Int32) = 0 := by decide
  have a51 : ¬ (5 : Int32) = 1 := by decide
  have a52 : ¬ (5 : Int32) = 2 := by decide
  have a53 : ¬ (5 : Int32) = 3 := by decide
  have a54 : ¬ (5 : Int32) = 4 := by decide
  rcases hv with ⟨rfl, hf⟩ | ⟨rfl, rfl⟩ | rfl | rfl | rfl | rfl
  · obtain ⟨r, cl', cc', u1, u2⟩ := oClerk_ok hJ f
    have hr : ¬ f_X5_isRange zs 0 f g = 0 := by
      unfold f_X5_isRange
      rw [if_neg (by decide), if_neg (by decide), if_neg (by decide), if_neg (by decide)]
      exact a10
    refine ⟨r, (w.1, w.2.1, w.2.2.1, w.2.2.2.1, w.2.2.2.2.1, w.2.2.2.2.2.1, w.2.2.2.2.2.2.1, w.2.2.2.2.2.2.2.1, cl', cc', w.2.2.2.2.2.2.2.2.2.2.1, w.2.2.2.2.2.2.2.2.2.2.2), ?_, ?_⟩
    · unfold f_X4_perform
      rw [if_pos rfl, u1]
      rfl
    · rcases u2 with ⟨rfl, h⟩ | ⟨rfl, h, h2⟩ | ⟨h0, h, h2, h3, zs', h4, h5⟩
      · exfalso
        rcases hf with rfl | rfl | rfl <;> exact absurd h (by decide)
      · refine Or.inr (Or.inl ⟨by decide, hr, ?_⟩)
        unfold f_X5_isPossible
        rw [if_pos rfl, h2, if_pos (by decide)]
      · refine Or.inr (Or.inr ⟨rof_0 h0, h0, hr, ?_, zs', ?_, JO_up (by omega) h5⟩)
        · unfold f_X5_isPossible
          rw [if_pos rfl, if_neg h3]
        · unfold f_X5_goCommand
          rw [if_pos rfl, h4]
          rfl
  · obtain ⟨r, ns, no, nr, nt, nd, ni, nm, nf, cl, u1, u2⟩ := oAsk_ok (K := K) hK hd hJ f s
    refine ⟨r, (ns, no, nr, nt, nd, ni, nm, nf, cl, w.2.2.2.2.2.2.2.2.2.1, w.2.2.2.2.2.2.2.2.2.2.1, w.2.2.2.2.2.2.2.2.2.2.2), ?_, ?_⟩
    · unfold f_X4_perform
      rw [if_neg a10, if_pos rfl, u1]
      rfl
    · rcases u2 with ⟨rfl, h⟩ | ⟨h, h2, u2⟩
      · refine Or.inl ⟨by decide, ?_⟩
        unfold f_X5_isRange
        rw [if_pos rfl]
        rcases h with h | h
        · rw [if_pos h]
        · by_cases h2 : f_X5_isClerk zs f = 0
          · rw [if_pos h2]
          · rw [if_neg h2, if_pos h]
      · have hr : ¬ f_X5_isRange zs 1 f s = 0 := by
          unfold f_X5_isRange
          rw [if_pos rfl, h, if_neg a10, h2, if_neg a10]
          exact a10
        rcases u2 with ⟨rfl, h3⟩ | ⟨h0, h3, zs', h4, h5⟩
        · refine Or.inr (Or.inl ⟨by decide, hr, ?_⟩)
          unfold f_X5_isPossible
          rw [if_neg a10, if_pos rfl, h3]
          rfl
        · refine Or.inr (Or.inr ⟨rof_0 h0, h0, hr, ?_, zs', ?_, JO_up (by omega) h5⟩)
          · unfold f_X5_isPossible
            rw [if_neg a10, if_pos rfl, h3]
            rfl
          · unfold f_X5_goCommand
            rw [if_neg a10, if_pos rfl, h4]
            rfl
  · obtain ⟨r, ns, no, nr, nf, cl, u1, u2⟩ := oForget_ok (K := K) hK hJ f
    have er : f_X5_isRange zs 2 f g = f_X5_isClerk zs f := by
      unfold f_X5_isRange
      rw [if_neg a21, if_pos rfl]
    refine ⟨r, (ns, no, nr, w.2.2.2.1, w.2.2.2.2.1, w.2.2.2.2.2.1, w.2.2.2.2.2.2.1, nf, cl, w.2.2.2.2.2.2.2.2.2.1, w.2.2.2.2.2.2.2.2.2.2.1, w.2.2.2.2.2.2.2.2.2.2.2), ?_, ?_⟩
    · unfold f_X4_perform
      rw [if_neg a20, if_neg a21, if_pos rfl, u1]
      rfl
    · rw [er]
      rcases u2 with ⟨rfl, h⟩ | ⟨h, ⟨rfl, h2⟩ | ⟨h0, ⟨q, q0, q6, h2⟩, zs', h4, h5⟩⟩
      · exact Or.inl ⟨by decide, h⟩
      · refine Or.inr (Or.inl ⟨by decide, by rw [h]; exact a10, ?_⟩)
        unfold f_X5_isPossible
        rw [if_neg a20, if_neg a21, if_pos rfl, h2]
        rfl
      · refine Or.inr (Or.inr ⟨rof_0 h0, h0, by rw [h]; exact a10, ?_, zs', ?_, JO_up (by omega) h5⟩)
        · unfold f_X5_isPossible
          rw [if_neg a20, if_neg a21, if_pos rfl, h2, sb_eq, if_neg (nI_nle q0 (by omega))]
        · unfold f_X5_goCommand
          rw [if_neg a20, if_neg a21, if_pos rfl, h4]
          rfl
  · obtain ⟨r, ns, no, nr, nf, cl, u1, u2⟩ := oBack_ok (K := K) hK hJ f
    have er : f_X5_isRange zs 3 f g = f_X5_isClerk zs f := by
      unfold f_X5_isRange
      rw [if_neg a31, if_neg a32, if_pos rfl]
    refine ⟨r, (ns, no, nr, w.2.2.2.1, w.2.2.2.2.1, w.2.2.2.2.2.1, w.2.2.2.2.2.2.1, nf, cl, w.2.2.2.2.2.2.2.2.2.1, w.2.2.2.2.2.2.2.2.2.2.1, w.2.2.2.2.2.2.2.2.2.2.2), ?_, ?_⟩
    · unfold f_X4_perform
      rw [if_neg a30, if_neg a31, if_neg a32, if_pos rfl, u1]
      rfl
    · rw [er]
      rcases u2 with ⟨rfl, h⟩ | ⟨h, ⟨rfl, h2⟩ | ⟨h0, ⟨q, q0, q6, h2⟩, zs', h4, h5⟩⟩
      · exact Or.inl ⟨by decide, h⟩
      · refine Or.inr (Or.inl ⟨by decide, by rw [h]; exact a10, ?_⟩)
        unfold f_X5_isPossible
        rw [if_neg a30, if_neg a31, if_neg a32, if_pos rfl, h2]
        rfl
      · refine Or.inr (Or.inr ⟨rof_0 h0, h0, by rw [h]; exact a10, ?_, zs', ?_, JO_up (by omega) h5⟩)
        · unfold f_X5_isPossible
          rw [if_neg a30, if_neg a31, if_neg a32, if_pos rfl, h2, sb_eq, if_neg (nI_nle q0 (by omega))]
        · unfold f_X5_goCommand
          rw [if_neg a30, if_neg a31, if_neg a32, if_pos rfl, h4]
          rfl
  · obtain ⟨r, ns, no, nr, nf, u1, u2⟩ := oVoid_ok (K := K) hK hJ f
    have er : f_X5_isRange zs 4 f g = f_X5_isNumber f := by
      unfold f_X5_isRange
      rw [if_neg a41, if_neg a42, if_neg a43, if_pos rfl]
    refine ⟨r, (ns, no, nr, w.2.2.2.1, w.2.2.2.2.1, w.2.2.2.2.2.1, w.2.2.2.2.2.2.1, nf, w.2.2.2.2.2.2.2.2.1, w.2.2.2.2.2.2.2.2.2.1, w.2.2.2.2.2.2.2.2.2.2.1, w.2.2.2.2.2.2.2.2.2.2.2), ?_, ?_⟩
    · unfold f_X4_perform
      rw [if_neg a40, if_neg a41, if_neg a42, if_neg a43, if_pos rfl, u1]
      rfl
    · rw [er]
      rcases u2 with ⟨rfl, h⟩ | ⟨h, n, n1, n6, rfl, ⟨rfl, h2⟩ | ⟨h0, h2, zs', h4, -, h5⟩⟩
      · exact Or.inl ⟨by decide, h⟩
      · refine Or.inr (Or.inl ⟨by decide, by rw [h]; exact a10, ?_⟩)
        unfold f_X5_isPossible
        rw [if_neg a40, if_neg a41, if_neg a42, if_neg a43, if_pos rfl, n_nI, nI_a0, ix_nI (by omega) (by omega), cl_nI (by omega), if_neg h2]
      · refine Or.inr (Or.inr ⟨rof_0 h0, h0, by rw [h]; exact a10, ?_, zs', ?_, JO_up (by omega) h5⟩)
        · unfold f_X5_isPossible
          rw [if_neg a40, if_neg a41, if_neg a42, if_neg a43, if_pos rfl, n_nI, nI_a0, ix_nI (by omega) (by omega), cl_nI (by omega), if_pos h2]
        · unfold f_X5_goCommand
          rw [if_neg a40, if_neg a41, if_neg a42, if_neg a43, if_pos rfl, h4]
          rfl
  · obtain ⟨r, ns, no, nr, nf, cl, ct, zs', h0, u1, h4, h5⟩ := oClose_ok (K := K) hK hJ
    refine ⟨r, (ns, no, nr, w.2.2.2.1, w.2.2.2.2.1, w.2.2.2.2.2.1, w.2.2.2.2.2.2.1, nf, cl, w.2.2.2.2.2.2.2.2.2.1, w.2.2.2.2.2.2.2.2.2.2.1, ct), ?_, Or.inr (Or.inr ⟨rof_0 h0, h0, ?_, ?_, zs', ?_, h5⟩)⟩
    · unfold f_X4_perform
      rw [if_neg a50, if_neg a51, if_neg a52, if_neg a53, if_neg a54, u1]
      rfl
    · unfold f_X5_isRange
      rw [if_neg a51, if_neg a52, if_neg a53, if_neg a54]
      exact a10
    · unfold f_X5_isPossible
      rw [if_neg a50, if_neg a51, if_neg a52, if_neg a53, if_neg a54]
    · unfold f_X5_goCommand
      rw [if_neg a50, if_neg a51, if_neg a52, if_neg a53, if_neg a54, h4]
      rfl
def RO (d : Nat) (c : Option (Int32 × OW × Int32 × Int32 × Int32 × Int32 × Int32 × Int32)) (m : Option (Int32 × (Nat → Int32) × Int32 × Int32 × Int32 × Int32 × Int32)) : Prop := ∃ (r : Int32) (w' : OW) (fp' fr' sp' sv' sf' ss' t : Int32) (zs' : Nat → Int32) (zp' zw' zf' zg' zc' : Int32), c = some (r, w', fp', fr', sp', sv', sf', ss') ∧ m = some (t, zs', zp', zw', zf', zg', zc') ∧ ((fr' = 0 ∧ t = (-1) ∧ zc' = r ∧ ¬ r < 0 ∧ ∃ e : Nat, e ≤ d ∧ JO e w' zs') ∨ (∃ p q : Nat, p < 80 ∧ 1 ≤ q ∧ q ≤ 3 ∧ fp' = nI p ∧ fr' = nI q ∧ t = nI (4 * p + q)))
theorem four_p (p : Nat) : 4 * nI p = nI (4 * p) := pk_mul 4 p
theorem run_ok {K : Nat} (hK : 20000 ≤ K) {sc zt : Nat → Int32} {L : Nat} (hL : L ≤ 80) (hX : ∀ j, j < L → sc j = zt j) : ∀ (M a c d n n2 : Nat) (w : OW) (zs : Nat → Int32) (sv sf ss zw zf zg : Int32), a ≤ L → L ≤ a + M → M < n → M < n2 → c ≤ a → d + M ≤ 1000000 → JO d w zs → RO (d + M) (f_X4_rehearse_30 K (-1) 0 sc (nI L) n (nI c) w (nI a) sv sf ss) (f_X5_run_10 K zt (nI L) n2 zs (nI a) zw zf zg (nI c)) := by
  have stop : ∀ (M a c d n n2 : Nat) (w : OW) (zs : Nat → Int32) (sv sf ss zw zf zg : Int32), a = L → M < n → M < n2 → c ≤ a → JO d w zs → RO (d + M) (f_X4_rehearse_30 K (-1) 0 sc (nI L) n (nI c) w (nI a) sv sf ss) (f_X5_run_10 K zt (nI L) n2 zs (nI a) zw zf zg (nI c)) := by
    intro M a c d n n2 w zs sv sf ss zw zf zg ha hn hn2 hc hJ
    subst ha
    obtain ⟨n, rfl⟩ : ∃ z, n = z + 1 := ⟨n - 1, by omega⟩
    obtain ⟨n2, rfl⟩ : ∃ z, n2 = z + 1 := ⟨n2 - 1, by omega⟩
    refine ⟨nI c, w, -1, 0, nI a, sv, sf, ss, -1, zs, nI a, zw, zf, zg, nI c, ?_, ?_, Or.inl ⟨rfl, rfl, rfl, nI_pos (by omega), d, by omega, hJ⟩⟩
    · rw [f_X4_rehearse_30]
      by_cases h : (80 : Int32) ≤ nI c
      · rw [if_pos h]
      · rw [if_neg h, if_pos (nI_le (Nat.le_refl _) (by omega))]
    · rw [f_X5_run_10, if_pos (nI_le (Nat.le_refl _) (by omega))]
  intro M
  induction M with
  | zero =>
    intro a c d n n2 w zs sv sf ss zw zf zg ha hM hn hn2 hc hd hJ
    exact stop 0 a c d n n2 w zs sv sf ss zw zf zg (by omega) hn hn2 hc hJ
  | succ M ih =>
    intro a c d n n2 w zs sv sf ss zw zf zg ha hM hn hn2 hc hd hJ
    by_cases haL : a = L
    · exact stop (M + 1) a c d n n2 w zs sv sf ss zw zf zg haL hn hn2 hc hJ
    obtain ⟨n, rfl⟩ : ∃ z, n = z + 1 := ⟨n - 1, by omega⟩
    obtain ⟨n2, rfl⟩ : ∃ z, n2 = z + 1 := ⟨n2 - 1, by omega⟩
    rw [f_X4_rehearse_30, f_X5_run_10, if_neg (show ¬ (80 : Int32) ≤ nI c from nI_ge (b := 80) (by omega) (by omega)), if_neg (show ¬ nI L ≤ nI a from nI_ge (by omega) (by omega)), if_neg (show ¬ nI L ≤ nI a from nI_ge (by omega) (by omega))]
    rcases read_ok (K := K) (by omega) hL ha hX sv with ⟨y, sv', sf', ss', y', w', f', g', e1, e2⟩ | ⟨b, v, f, s, g, b1, b2, e1, e2, hv⟩
    · rw [e1, e2, sb_eq, sb_eq]
      dsimp only
      rw [if_pos rfl, if_pos rfl, four_p, nI_1]
      exact ⟨_, _, _, _, _, _, _, _, _, _, _, _, _, _, _, rfl, rfl, Or.inr ⟨a, 1, by omega, by omega, by omega, rfl, rfl, rfl⟩⟩
    · rw [e1, e2, sb_eq, sb_eq]
      dsimp only
      rw [if_neg n10, if_neg n10]
      obtain ⟨r, w', p1, p2⟩ := perf_ok (K := K) (by omega) (by omega) hJ v f s g hv
      rw [p1, sb_eq]
      dsimp only
      rcases p2 with ⟨h1, h2⟩ | ⟨h1, h2, h3⟩ | ⟨h1, h0, h2, h3, zs', h4, h5⟩
      · rw [h1, if_neg (show ¬ (2 : Int32) = 0 by decide), if_pos h2, four_p, nI_a2]
        exact ⟨_, _, _, _, _, _, _, _, _, _, _, _, _, _, _, rfl, rfl, Or.inr ⟨a, 2, by omega, by omega, by omega, rfl, rfl, rfl⟩⟩
      · rw [h1, if_neg (show ¬ (3 : Int32) = 0 by decide), if_neg h2, h3, sb_eq, if_pos rfl, four_p, nI_a3]
        exact ⟨_, _, _, _, _, _, _, _, _, _, _, _, _, _, _, rfl, rfl, Or.inr ⟨a, 3, by omega, by omega, by omega, rfl, rfl, rfl⟩⟩
      · rw [h1, if_pos rfl, if_neg h2, h3, sb_eq, if_neg n10, h4, sb_eq, nI_1]
        have := ih b (c + 1) (d + 1) n n2 w' zs' v f s v f g b2 (by omega) (by omega) (by omega) (by omega) (by omega) h5
        rw [show d + 1 + M = d + (M + 1) by omega] at this
        exact this
theorem reh_eq (K : Nat) (wo wt : OW) (sc : Nat → Int32) (sl sv sf ss : Int32) : f_X4_rehearse K wo wt sc sl sv sf ss = f_X4_rehearse_30 K (-1) 0 sc sl K 0 (bec wt wo) 0 sv sf ss := rfl
theorem rehearse_ok {K : Nat} (hK : 20000 ≤ K) {d : Nat} (hd : d ≤ 900000) {wo wt : OW} {zs sc zt : Nat → Int32} {L : Nat} (hL : L ≤ 80) (hX : ∀ j, j < L → sc j = zt j) (hJ : JO d wo zs) (sv sf ss zw zf zg : Int32) : RO (d + 80) (f_X4_rehearse K wo wt sc (nI L) sv sf ss) (f_X5_run K zs zt (nI L) zw zf zg) := by
  rw [reh_eq]
  exact run_ok hK hL hX 80 0 0 d K K (bec wt wo) zs sv sf ss zw zf zg (by omega) (by omega) (by omega) (by omega) (by omega) (by omega) (JO_bec hJ)
theorem rem4 {p q : Nat} (hp : p < 80) (h1 : 1 ≤ q) (hq : q ≤ 3) : nI (4 * p + q) / 4 = nI p ∧ nI (4 * p + q) - nI (4 * p + q) / 4 * 4 = nI q := by
  have e1 := pk_div (a := 4 * p + q) (d := 4) (by omega) (by omega) (by omega)
  have e2 := pk_rem (a := 4 * p + q) (d := 4) (by omega) (by omega) (by omega)
  rw [show (4 * p + q) / 4 = p by omega] at e1
  rw [show (4 * p + q) % 4 = q by omega] at e2
  exact ⟨e1, e2⟩
theorem s_fault {K : Nat} (hK : 20000 ≤ K) : St_fault VI K := by
  intro k wo wt hs hp kp fp fr sc sl sp sv sf ss zs zb za zt zl zu zp zw zf zg zc hk hI x1
  obtain ⟨hJ, hH, L, hL, rfl, rfl, hX⟩ := hI
  obtain ⟨r, w', fp', fr', sp', sv', sf', ss', t, zs', zp', zw', zf', zg', zc', u1, u2, u3⟩ := rehearse_ok (wt := wt) hK (by omega) hL hX hJ sv sf ss zw zf zg
  have stay : ∀ (wt' : OW) (fp fr sp sv sf ss zp zw zf zg zc : Int32) (za ys : Nat → Int32), (∀ x, x < 3053 → ys x = zs x) → VI (k + 1) wo wt' hs hp kp fp fr sc (nI L) sp sv sf ss ys zb za zt (nI L) zu zp zw zf zg zc := fun _ _ _ _ _ _ _ _ _ _ _ _ _ _ e => ⟨JO_up (by omega) (JO_z hJ e), HI_up (by omega) hH, L, hL, rfl, rfl, hX⟩
  have m : ∀ x : Int32, f_X5_in x 0 1 = 1 → f_X5_fault K zs za zt (nI L) zp zw zf zg zc x = if 0 ≤ t then (if x = 0 then some (t / 4, lay (lay zs za 0) zs' 0, lay zs za 0, zp', zw', zf', zg', zc') else some (t - t / 4 * 4, lay (lay zs za 0) zs' 0, lay zs za 0, zp', zw', zf', zg', zc')) else some (-4, lay (lay zs za 0) zs' 0, lay zs za 0, zp', zw', zf', zg', zc') := by
    intro x hx
    unfold f_X5_fault
    rw [hx, if_neg n10, aside_eq hK, sb_eq, u2, sb_eq]
    dsimp only
    rw [back_eq hK, sb_eq]
  by_cases c0 : x1 = 0
  · subst c0
    have m0 := m 0 (by decide)
    have hc : f_X4_fault K wo wt fp fr sc (nI L) sp sv sf ss 0 = if fr' = 0 then some (-4, w', fp', fr', sp', sv', sf', ss') else some (fp', w', fp', fr', sp', sv', sf', ss') := by
      unfold f_X4_fault
      rw [if_pos rfl, u1, sb_eq]
      dsimp only
      rw [if_pos rfl]
    rcases u3 with ⟨rfl, rfl, -⟩ | ⟨p, q, p8, q1, q3, rfl, rfl, rfl⟩
    · rw [if_pos rfl] at hc
      rw [if_neg (show ¬ (0 : Int32) ≤ (-1) by decide)] at m0
      exact ⟨_, _, _, _, _, _, _, _, _, _, _, _, _, _, _, hc, m0, stay _ _ _ _ _ _ _ _ _ _ _ _ _ _ (fun x hx => lay_lay hx)⟩
    · rw [if_neg (nI_ne0 (by omega) (by omega))] at hc
      rw [if_pos (nI_pos' (by omega)), if_pos rfl, (rem4 p8 q1 q3).1] at m0
      exact ⟨_, _, _, _, _, _, _, _, _, _, _, _, _, _, _, hc, m0, stay _ _ _ _ _ _ _ _ _ _ _ _ _ _ (fun x hx => lay_lay hx)⟩
  by_cases c1 : x1 = 1
  · subst c1
    have m0 := m 1 (by decide)
    have hc : f_X4_fault K wo wt fp fr sc (nI L) sp sv sf ss 1 = if fr' = 0 then some (-4, w', fp', fr', sp', sv', sf', ss') else some (fr', w', fp', fr', sp', sv', sf', ss') := by
      unfold f_X4_fault
      rw [if_neg c0, if_pos rfl, u1, sb_eq]
      dsimp only
      rw [if_neg c0]
    rcases u3 with ⟨rfl, rfl, -⟩ | ⟨p, q, p8, q1, q3, rfl, rfl, rfl⟩
    · rw [if_pos rfl] at hc
      rw [if_neg (show ¬ (0 : Int32) ≤ (-1) by decide)] at m0
      exact ⟨_, _, _, _, _, _, _, _, _, _, _, _, _, _, _, hc, m0, stay _ _ _ _ _ _ _ _ _ _ _ _ _ _ (fun x hx => lay_lay hx)⟩
    · rw [if_neg (nI_ne0 (by omega) (by omega))] at hc
      rw [if_pos (nI_pos' (by omega)), if_neg n10, (rem4 p8 q1 q3).2] at m0
      exact ⟨_, _, _, _, _, _, _, _, _, _, _, _, _, _, _, hc, m0, stay _ _ _ _ _ _ _ _ _ _ _ _ _ _ (fun x hx => lay_lay hx)⟩
  · have hin : f_X5_in x1 0 1 = 0 := by
      rcases in_cases x1 0 1 (by omega) (by omega) with ⟨g, -⟩ | ⟨q, -, q1, rfl, -⟩
      · exact g
      · exfalso
        match q, q1 with
        | 0, _ => exact c0 rfl
        | 1, _ => exact c1 rfl
        | n + 2, h => exact absurd h (by omega)
    refine ⟨-1, wt, fp, fr, sp, sv, sf, ss, zs, za, zp, zw, zf, zg, zc, ?_, ?_, stay _ _ _ _ _ _ _ _ _ _ _ _ _ _ (fun x hx => rfl)⟩
    · unfold f_X4_fault
      rw [if_neg c0, if_neg c1]
    · unfold f_X5_fault
      rw [if_pos hin]
theorem s_play {K : Nat} (hK : 20000 ≤ K) : St_play VI K := by
  intro k wo wt hs hp kp fp fr sc sl sp sv sf ss zs zb za zt zl zu zp zw zf zg zc hk hI
  obtain ⟨hJ, hH, L, hL, rfl, rfl, hX⟩ := hI
  obtain ⟨r, w', fp', fr', sp', sv', sf', ss', t, zs', zp', zw', zf', zg', zc', u1, u2, u3⟩ := rehearse_ok (wt := wt) hK (by omega) hL hX hJ sv sf ss zw zf zg
  have hJ2 : JO (80 * k) wo (lay (lay zs za 0) zs' 0) := JO_z hJ (fun x hx => lay_lay hx)
  obtain ⟨r2, w2, fp2, fr2, sp2, sv2, sf2, ss2, t2, zs2, zp2, zw2, zf2, zg2, zc2, v1, v2, v3⟩ := rehearse_ok (wt := wt) hK (by omega) hL hX hJ2 sv sf ss zw' zf' zg'
  rw [u1] at v1
  have v1 := Option.some.inj v1
  obtain ⟨rfl, rfl, rfl, rfl, rfl, rfl, rfl, rfl⟩ : r = r2 ∧ w' = w2 ∧ fp' = fp2 ∧ fr' = fr2 ∧ sp' = sp2 ∧ sv' = sv2 ∧ sf' = sf2 ∧ ss' = ss2 := by
    simp only [Prod.mk.injEq] at v1
    exact v1
  have hc : f_X4_play K wo wt hs hp kp sc (nI L) sv sf ss = if fr' = 0 then (f_X4_adopt wo w' hs hp kp r).bind fun ⟨r12, y13, y14, y15, y16⟩ => some (r12, y13, w', y14, y15, y16, fp', fr', sp', sv', sf', ss') else some (-2, wo, w', hs, hp, kp, fp', fr', sp', sv', sf', ss') := by
    unfold f_X4_play
    rw [u1]
    rfl
  have m : f_X5_play K zs zb za zt (nI L) zu zw zf zg = if t < 0 then (f_X5_record K (lay (lay zs za 0) zs' 0) zb zu).bind fun ⟨y20, y21⟩ => some (zc2, zs2, y20, lay zs za 0, y21, zp2, zw2, zf2, zg2, zc2) else some (-2, lay (lay zs za 0) zs' 0, zb, lay zs za 0, zu, zp', zw', zf', zg', zc') := by
    unfold f_X5_play
    rw [aside_eq hK, sb_eq, u2, sb_eq]
    dsimp only
    rw [back_eq hK, sb_eq, v2]
    rfl
  rcases u3 with ⟨rfl, rfl, -⟩ | ⟨p, q, p8, q1, q3, -, rfl, rfl⟩
  · rw [if_pos rfl] at hc
    rw [if_pos (show (-1 : Int32) < 0 by decide)] at m
    rcases v3 with ⟨-, -, rfl, hr, e, e1, e2⟩ | ⟨p, q, p8, q1, q3, -, z, -⟩
    · obtain ⟨hs', hp', kp', zb', zu', g1, g2, g3, g4⟩ := adopt_ok (d' := 80 * (k + 1)) hK (by omega) hJ2 hH (JO_up (by omega) e2) hr
      rw [g1, sb_eq] at hc
      rw [g2, sb_eq] at m
      exact ⟨_, _, _, _, _, _, _, _, _, _, _, _, _, _, _, _, _, _, _, _, _, hc, m, g4, g3, L, hL, rfl, rfl, hX⟩
    · exact absurd z.symm (nI_ne0 (by omega) (by omega))
  · rw [if_neg (nI_ne0 (by omega) (by omega))] at hc
    rw [if_neg (nI_pos (by omega))] at m
    exact ⟨_, _, _, _, _, _, _, _, _, _, _, _, _, _, _, _, _, _, _, _, _, hc, m, JO_up (by omega) hJ2, HI_up (by omega) hH, L, hL, rfl, rfl, hX⟩
