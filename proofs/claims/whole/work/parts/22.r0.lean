/-! PURE SIDE: clerkOf, worst, turnAt. -/
theorem ho_loop (ns no : Nat → Int32) (w : Int32) : ∀ (m i n : Nat) (c : Int32), i + m = 601 → m < n → 1 ≤ i → f_X1_holesOf_4 w ns no n c (nI i) = some (c + nI (cnt (fun k => decide (ns k = 4) && decide (no k = w)) i m)) := by
  intro m
  induction m with
  | zero =>
    intro i n c hi hn h1
    obtain ⟨n, rfl⟩ : ∃ z, n = z + 1 := ⟨n - 1, by omega⟩
    have : i = 601 := by omega
    subst this
    rw [f_X1_holesOf_4, if_pos (g600t (by omega) (by omega))]
    exact congrArg some (Int32.add_zero c).symm
  | succ m ih =>
    intro i n c hi hn h1
    obtain ⟨n, rfl⟩ : ∃ z, n = z + 1 := ⟨n - 1, by omega⟩
    rw [f_X1_holesOf_4, if_neg (g600f (by omega)), ix_nI (by omega) (by omega), ix_nI (by omega) (by omega), cl_nI (by omega), nI_1]
    by_cases h : ns i = 4
    · by_cases h2 : no i = w
      · rw [if_pos h, if_pos h2, ih (i + 1) n (c + 1) (by omega) (by omega) (by omega), cnt_s1 (show (decide (ns i = 4) && decide (no i = w)) = true by rw [decide_eq_true h, decide_eq_true h2]; rfl), ← add_cnt]
        rfl
      · rw [if_pos h, if_neg h2, ih (i + 1) n c (by omega) (by omega) (by omega), cnt_s0 (show (decide (ns i = 4) && decide (no i = w)) = false by rw [decide_eq_false h2, Bool.and_false])]
    · rw [if_neg h, ih (i + 1) n c (by omega) (by omega) (by omega), cnt_s0 (show (decide (ns i = 4) && decide (no i = w)) = false by rw [decide_eq_false h, Bool.false_and])]
theorem fo_loop (no nr : Nat → Int32) (w : Int32) : ∀ (m i n : Nat) (c : Int32), i + m = 601 → m < n → 1 ≤ i → f_X1_forgottenOf_4 w no nr n c (nI i) = some (c + nI (cnt (fun k => decide (nr k = 0) && decide (no k = w)) i m)) := by
  intro m
  induction m with
  | zero =>
    intro i n c hi hn h1
    obtain ⟨n, rfl⟩ : ∃ z, n = z + 1 := ⟨n - 1, by omega⟩
    have : i = 601 := by omega
    subst this
    rw [f_X1_forgottenOf_4, if_pos (g600t (by omega) (by omega))]
    exact congrArg some (Int32.add_zero c).symm
  | succ m ih =>
    intro i n c hi hn h1
    obtain ⟨n, rfl⟩ : ∃ z, n = z + 1 := ⟨n - 1, by omega⟩
    rw [f_X1_forgottenOf_4, if_neg (g600f (by omega)), ix_nI (by omega) (by omega), ix_nI (by omega) (by omega), cl_nI (by omega), nI_1]
    by_cases h : nr i = 0
    · by_cases h2 : no i = w
      · rw [if_pos h, if_pos h2, ih (i + 1) n (c + 1) (by omega) (by omega) (by omega), cnt_s1 (show (decide (nr i = 0) && decide (no i = w)) = true by rw [decide_eq_true h, decide_eq_true h2]; rfl), ← add_cnt]
        rfl
      · rw [if_pos h, if_neg h2, ih (i + 1) n c (by omega) (by omega) (by omega), cnt_s0 (show (decide (nr i = 0) && decide (no i = w)) = false by rw [decide_eq_false h2, Bool.and_false])]
    · rw [if_neg h, ih (i + 1) n c (by omega) (by omega) (by omega), cnt_s0 (show (decide (nr i = 0) && decide (no i = w)) = false by rw [decide_eq_false h, Bool.false_and])]
theorem hq_loop (zs : Nat → Int32) (w : Int32) : ∀ (m i n : Nat) (c : Int32), i + m = 601 → m < n → 1 ≤ i → f_X5_holesOf_5 w (-1) zs n c (nI i) = some (c + nI (cnt (fun k => decide (zs (48 + 5 * k) = 4) && decide (zs (48 + 5 * k + 1) = w)) i m)) := by
  intro m
  induction m with
  | zero =>
    intro i n c hi hn h1
    obtain ⟨n, rfl⟩ : ∃ z, n = z + 1 := ⟨n - 1, by omega⟩
    have : i = 601 := by omega
    subst this
    rw [f_X5_holesOf_5, if_pos (g600t (by omega) (by omega))]
    exact congrArg some (Int32.add_zero c).symm
  | succ m ih =>
    intro i n c hi hn h1
    obtain ⟨n, rfl⟩ : ∃ z, n = z + 1 := ⟨n - 1, by omega⟩
    rw [f_X5_holesOf_5, if_neg (g600f (by omega)), if_pos (show (-1 : Int32) < 0 by decide), n_nI, nI_a0, nI_1, nI_1, ix_nI (by omega) (by omega), ix_nI (by omega) (by omega), cl_nI (by omega), cl_nI (by omega), Int32.add_zero]
    by_cases h : zs (48 + 5 * i) = 4
    · by_cases h2 : zs (48 + 5 * i + 1) = w
      · rw [if_pos h, if_pos h2, ih (i + 1) n (c + 1) (by omega) (by omega) (by omega), cnt_s1 (show (decide (zs (48 + 5 * i) = 4) && decide (zs (48 + 5 * i + 1) = w)) = true by rw [decide_eq_true h, decide_eq_true h2]; rfl), ← add_cnt]
        rfl
      · rw [if_pos h, if_neg h2, ih (i + 1) n c (by omega) (by omega) (by omega), cnt_s0 (show (decide (zs (48 + 5 * i) = 4) && decide (zs (48 + 5 * i + 1) = w)) = false by rw [decide_eq_false h2, Bool.and_false])]
    · rw [if_neg h, ih (i + 1) n c (by omega) (by omega) (by omega), cnt_s0 (show (decide (zs (48 + 5 * i) = 4) && decide (zs (48 + 5 * i + 1) = w)) = false by rw [decide_eq_false h, Bool.false_and])]
theorem hf_loop (zs : Nat → Int32) (w : Int32) : ∀ (m i n : Nat) (c : Int32), i + m = 601 → m < n → 1 ≤ i → f_X5_holesOf_5 w 0 zs n c (nI i) = some (c + nI (cnt (fun k => decide (zs (48 + 5 * k) = 4) && (decide (zs (48 + 5 * k + 1) = w) && decide (zs (48 + 5 * k + 4) = 0))) i m)) := by
  intro m
  induction m with
  | zero =>
    intro i n c hi hn h1
    obtain ⟨n, rfl⟩ : ∃ z, n = z + 1 := ⟨n - 1, by omega⟩
    have : i = 601 := by omega
    subst this
    rw [f_X5_holesOf_5, if_pos (g600t (by omega) (by omega))]
    exact congrArg some (Int32.add_zero c).symm
  | succ m ih =>
    intro i n c hi hn h1
    obtain ⟨n, rfl⟩ : ∃ z, n = z + 1 := ⟨n - 1, by omega⟩
    rw [f_X5_holesOf_5, if_neg (g600f (by omega)), if_neg (show ¬ (0 : Int32) < 0 by decide), n_nI, nI_a0, nI_a4, nI_1, nI_1, ix_nI (by omega) (by omega), ix_nI (by omega) (by omega), ix_nI (by omega) (by omega), cl_nI (by omega), cl_nI (by omega), cl_nI (by omega), Int32.add_zero]
    by_cases h : zs (48 + 5 * i) = 4
    · by_cases h2 : zs (48 + 5 * i + 1) = w
      · by_cases h3 : zs (48 + 5 * i + 4) = 0
        · rw [if_pos h, if_pos h2, if_pos h3, ih (i + 1) n (c + 1) (by omega) (by omega) (by omega), cnt_s1 (show (decide (zs (48 + 5 * i) = 4) && (decide (zs (48 + 5 * i + 1) = w) && decide (zs (48 + 5 * i + 4) = 0))) = true by rw [decide_eq_true h, decide_eq_true h2, decide_eq_true h3]; rfl), ← add_cnt]
          rfl
        · rw [if_pos h, if_pos h2, if_neg h3, ih (i + 1) n c (by omega) (by omega) (by omega), cnt_s0 (show (decide (zs (48 + 5 * i) = 4) && (decide (zs (48 + 5 * i + 1) = w) && decide (zs (48 + 5 * i + 4) = 0))) = false by rw [decide_eq_false h3, Bool.and_false, Bool.and_false])]
      · rw [if_pos h, if_neg h2, ih (i + 1) n c (by omega) (by omega) (by omega), cnt_s0 (show (decide (zs (48 + 5 * i) = 4) && (decide (zs (48 + 5 * i + 1) = w) && decide (zs (48 + 5 * i + 4) = 0))) = false by rw [decide_eq_false h2, Bool.false_and, Bool.and_false])]
    · rw [if_neg h, ih (i + 1) n c (by omega) (by omega) (by omega), cnt_s0 (show (decide (zs (48 + 5 * i) = 4) && (decide (zs (48 + 5 * i + 1) = w) && decide (zs (48 + 5 * i + 4) = 0))) = false by rw [decide_eq_false h, Bool.false_and])]
theorem holes_ok {K : Nat} (hK : 1000 ≤ K) {T F : Nat} {ns no nr nt nd ni zs : Nat → Int32} (hN : JN T F ns no nr nt nd ni zs) (w : Int32) : ∃ h6 h7 : Int32, f_X1_holesOf K ns no w = some h6 ∧ f_X5_holesOf K zs w (-1) = some h6 ∧ f_X1_forgottenOf K no nr w = some h7 ∧ f_X5_holesOf K zs w 0 = some h7 := by
  refine ⟨_, _, ho_loop ns no w 600 1 K 0 (by omega) (by omega) (by omega), ?_, fo_loop no nr w 600 1 K 0 (by omega) (by omega) (by omega), ?_⟩
  · refine Eq.trans (hq_loop zs w 600 1 K 0 (by omega) (by omega) (by omega)) ?_
    rw [cnt_congr (q := fun k => decide (ns k = 4) && decide (no k = w)) 600 1 (fun j h1 h2 => ?_)]
    obtain ⟨q1, q2, -⟩ := hN j h1 (by omega)
    show (decide (zs (48 + 5 * j) = 4) && decide (zs (48 + 5 * j + 1) = w)) = (decide (ns j = 4) && decide (no j = w))
    rw [q1, q2]
  · refine Eq.trans (hf_loop zs w 600 1 K 0 (by omega) (by omega) (by omega)) ?_
    rw [cnt_congr (q := fun k => decide (nr k = 0) && decide (no k = w)) 600 1 (fun j h1 h2 => ?_)]
    obtain ⟨q1, q2, q3, q4, q5, q6, q7, q8, -⟩ := hN j h1 (by omega)
    show (decide (zs (48 + 5 * j) = 4) && (decide (zs (48 + 5 * j + 1) = w) && decide (zs (48 + 5 * j + 4) = 0))) = (decide (nr j = 0) && decide (no j = w))
    rw [q1, q2]
    by_cases hs : ns j = 4
    · rw [(q8 hs).1, decide_eq_true hs, Bool.true_and, Bool.and_comm]
    · have : ¬ nr j = 0 := by rw [q7 hs]; decide
      rw [decide_eq_false hs, decide_eq_false this, Bool.false_and, Bool.false_and]
theorem clerkOf_ok {K : Nat} (hK : 1000 ≤ K) {d : Nat} {w : OW} {zs : Nat → Int32} (hJ : JO d w zs) (x1 x2 : Int32) : ∃ r : Int32, f_X2_tellOfClerk K (w.1) (w.2.1) (w.2.2.1) (w.2.2.2.2.2.2.2.2.1) (w.2.2.2.2.2.2.2.2.2.1) x1 x2 = some r ∧ f_X5_clerkOf K zs x1 x2 = some r := by
  obtain ⟨ns, no, nr, nt, nd, ni, nm, nf, cl, cc, cs, ct⟩ := w
  obtain ⟨T, F, C, Y, hJ⟩ := hJ
  obtain ⟨t5, t6, ⟨t3a, t3b, t3c⟩, t4, hN, hT, hC, hSs⟩ := id hJ
  have t3a : cc = nI C := t3a
  have hN : JN T F ns no nr nt nd ni zs := hN
  have hT : JT T nt ni := hT
  have hT6 := JT_le hT
  show ∃ r : Int32, f_X2_tellOfClerk K ns no nr cl cc x1 x2 = some r ∧ _
  have h10 : ¬ (1 : Int32) = 0 := by decide
  rcases clerk_cases t3c t3b x1 with ⟨h, h2⟩ | ⟨i, hi, rfl, h, h2⟩
  · refine ⟨-1, ?_, ?_⟩
    · unfold f_X2_tellOfClerk
      rw [t3a, h, if_pos rfl]
    · unfold f_X5_clerkOf
      rw [if_pos h2]
  obtain ⟨p1, p2, p3, p4, p5, g, pg, p6, p7, p8⟩ := (hC i (by omega)).1 hi
  obtain ⟨hn, q0, q1, q2, q3⟩ := HR_held p5
  have q1 : f_X0_held (cl i) = nI hn := q1
  have p1 : zs (6 + 7 * i) = cl i 0 := p1
  have p2 : zs (6 + 7 * i + 4) = cl i 4 := p2
  have p3 : zs (6 + 7 * i + 5) = cl i 5 := p3
  have p4 : zs (6 + 7 * i + 6) = cl i 6 := p4
  have p6 : cl i 4 = nI g := p6
  have p7 : g = 0 → cl i 6 = (-1) := p7
  have p8 : 0 < g → ¬ cl i 6 < 0 := p8
  rcases in_cases x2 0 9 (by omega) (by omega) with ⟨g1, g2⟩ | ⟨m, m1, m2, rfl, g3⟩
  · have hne : ∀ c : Nat, c ≤ 9 → ¬ x2 = nI c := by
      intro c hc e
      subst e
      rcases g2 with z | z
      · exact nI_nlt (b := 0) (by omega) (by omega) z
      · exact nI_nlt hc (by omega) z
    have k0 : ¬ x2 = 0 := hne 0 (by omega)
    have k1 : ¬ x2 = 1 := hne 1 (by omega)
    have k2 : ¬ x2 = 2 := hne 2 (by omega)
    have k3 : ¬ x2 = 3 := hne 3 (by omega)
    have k4 : ¬ x2 = 4 := hne 4 (by omega)
    have k5 : ¬ x2 = 5 := hne 5 (by omega)
    have k6 : ¬ x2 = 6 := hne 6 (by omega)
    have k7 : ¬ x2 = 7 := hne 7 (by omega)
    have k8 : ¬ x2 = 8 := hne 8 (by omega)
    have k9 : ¬ x2 = 9 := hne 9 (by omega)
    refine ⟨-1, ?_, ?_⟩
    · unfold f_X2_tellOfClerk
      rw [t3a, h, if_neg h10, ix_nI (by omega) (by omega), cl_nI (by omega)]
      by_cases hh : f_X0_held (cl i) ≤ 0
      · rw [if_pos hh, if_neg k0, if_neg k1, if_neg k2, if_neg k3, if_neg k4, if_neg k5, if_neg k6, if_neg k7, if_neg k8, if_neg k9]
      · rw [if_neg hh, if_neg k0, if_neg k1, if_neg k2, if_neg k3, if_neg k4, if_neg k5, if_neg k6, if_neg k7, if_neg k8, if_neg k9]
    · unfold f_X5_clerkOf
      rw [h2, if_neg h10, if_pos (show f_X5_in x2 0 9 = 0 from g1)]
  have g5 : ¬ f_X5_in (nI m) 0 9 = 0 := by rw [show f_X5_in (nI m) 0 9 = 1 from g3]; decide
  obtain ⟨H6, H7, e6, e6', e7, e7'⟩ := holes_ok hK hN (nI i)
  have e9 : (if cl i 4 = 0 then some (-4) else some (cl i 6)) = some (f_X4_orNotFound (cl i 6)) := by
    by_cases hg : g = 0
    · rw [if_pos (by rw [p6, hg]; rfl), p7 hg]; rfl
    · rw [if_neg (by rw [p6]; exact nI_ne0 (by omega) (by omega)), orn_pos (p8 (by omega))]
  unfold f_X2_tellOfClerk f_X5_clerkOf
  rw [t3a, h, h2, if_neg h10, if_neg h10, if_neg g5, holds_eq (by omega), q2, c_nI, nI_a0, nI_1, nI_a2, nI_a3, nI_a4, nI_a5, nI_a6]
  rw [ix_nI (by omega) (by omega), ix_nI (by omega) (by omega), ix_nI (by omega) (by omega), ix_nI (by omega) (by omega), ix_nI (by omega) (by omega), ix_nI (by omega) (by omega), ix_nI (by omega) (by omega), ix_nI (by omega) (by omega), ix_nI (by omega) (by omega), cl_nI (by omega), cl_nI (by omega), cl_nI (by omega), cl_nI (by omega), cl_nI (by omega), cl_nI (by omega), cl_nI (by omega), cl_nI (by omega)]
  rw [q1, p1, p2, p3, p4]
  rcases Or.symm q3 with ⟨z, -⟩ | ⟨z, lo, hi', mk, b1, b2, b3, b4, b5, b6, b7, b8, b9, b10, b11, b12⟩
  · subst z
    rw [if_pos (show nI 0 ≤ (0 : Int32) by decide)]
    match m, m2 with
    | 0, _ => exact ⟨cl i 0, rfl, rfl⟩
    | 1, _ => exact ⟨nI 0, rfl, rfl⟩
    | 2, _ => exact ⟨-4, rfl, rfl⟩
    | 3, _ => exact ⟨-4, rfl, rfl⟩
    | 4, _ => exact ⟨-4, rfl, rfl⟩
    | 5, _ => exact ⟨cl i 4, rfl, rfl⟩
    | 6, _ => exact ⟨H6, by show (f_X1_holesOf K ns no (nI i)).bind _ = _; rw [e6]; rfl, by show (f_X5_holesOf K zs (nI i) (-1)).bind _ = _; rw [e6']; rfl⟩
    | 7, _ => exact ⟨H7, by show (f_X1_forgottenOf K no nr (nI i)).bind _ = _; rw [e7]; rfl, by show (f_X5_holesOf K zs (nI i) 0).bind _ = _; rw [e7']; rfl⟩
    | 8, _ => exact ⟨cl i 5, rfl, rfl⟩
    | 9, _ => exact ⟨_, rfl, e9⟩
    | k + 10, h => exact absurd h (by omega)
  · have b6 : cl i 1 = nI lo := b6
    have b7 : cl i 2 = nI hi' := b7
    have b8 : cl i 3 = nI mk := b8
    have hz : ¬ nI hn = 0 := nI_ne0 z (by omega)
    rw [if_neg (show ¬ nI hn ≤ (0 : Int32) from nI_nle z (by omega)), sb_eq, sb_eq, if_neg hz, b6, b7, b8, b9, b10, b11]
    match m, m2 with
    | 0, _ => exact ⟨cl i 0, rfl, rfl⟩
    | 1, _ => exact ⟨nI hn, rfl, rfl⟩
    | 2, _ => exact ⟨nI lo, rfl, rfl⟩
    | 3, _ => exact ⟨nI hi', rfl, rfl⟩
    | 4, _ => exact ⟨nI mk, rfl, rfl⟩
    | 5, _ => exact ⟨cl i 4, rfl, rfl⟩
    | 6, _ => exact ⟨H6, by show (f_X1_holesOf K ns no (nI i)).bind _ = _; rw [e6]; rfl, by show (f_X5_holesOf K zs (nI i) (-1)).bind _ = _; rw [e6']; rfl⟩
    | 7, _ => exact ⟨H7, by show (f_X1_forgottenOf K no nr (nI i)).bind _ = _; rw [e7]; rfl, by show (f_X5_holesOf K zs (nI i) 0).bind _ = _; rw [e7']; rfl⟩
    | 8, _ => exact ⟨cl i 5, rfl, rfl⟩
    | 9, _ => exact ⟨_, rfl, e9⟩
    | k + 10, h => exact absurd h (by omega)
theorem s_clerkOf {K : Nat} (hK : 20000 ≤ K) : St_clerkOf VI K := by
  intro k wo wt hs hp kp fp fr sc sl sp sv sf ss zs zb za zt zl zu zp zw zf zg zc hk hI x1 x2
  obtain ⟨r, u1, u2⟩ := clerkOf_ok (K := K) (by omega) hI.1 x1 x2
  refine ⟨r, ?_, u2, VI_next hI⟩
  unfold f_X4_clerkOf
  rw [u1]
  rfl
theorem forgets_eq {ns no ck zs : Nat → Int32} {i : Nat} (h6 : i < 6) (p5 : HR ns no i (ck 1) (ck 2) (ck 3) (zs (6 + 7 * i + 1)) (zs (6 + 7 * i + 2)) (zs (6 + 7 * i + 3))) : ∃ v : Nat, v ≤ 600 ∧ f_X0_loss ck = nI v ∧ f_X5_forgets zs (nI i) = some (nI v) := by
  rcases p5 with ⟨lo, hi, mk, b1, b2, b3, b4, b5, b6, b7, b8, b9, b10, b11⟩ | ⟨hi, mk, h2, b1, b2, b3, b4, b5, b6, b7, b8⟩
  · refine ⟨mk + 1 - lo, by omega, (loss_eq (by omega) b3 b4 b5 b6 b7).2, ?_⟩
    unfold f_X5_forgets
    rw [holds_eq h6, c_nI, nI_1, nI_a2, nI_a3]
    simp (disch := omega) only [ix_nI, cl_nI]
    rw [b8, b9, b10, held1 b2 b3, sb_eq, sb_eq]
    have hz : ¬ nI (hi - lo + 1) = 0 := nI_ne0 (by omega) (by omega)
    rw [if_neg hz, if_neg hz, if_pos (show nI lo ≤ nI hi from nI_le b2 (by omega))]
    by_cases hm : hi ≤ mk
    · rw [if_pos (nI_le hm (by omega)), show mk + 1 - lo = hi - lo + 1 by omega]
    · rw [if_neg (nI_ge (by omega) (by omega))]
      by_cases hl : lo ≤ mk
      · rw [if_pos (nI_le hl (by omega)), held1 hl (by omega), show mk + 1 - lo = mk - lo + 1 by omega]
      · rw [if_neg (nI_ge (by omega) (by omega)), show mk + 1 - lo = 0 by omega]
        rfl
  · have e := (loss_eq (lo := hi + 1) (by omega) b1 b2 b4 b5 b6).2
    rw [show mk + 1 - (hi + 1) = 0 by omega] at e
    refine ⟨0, by omega, e, ?_⟩
    unfold f_X5_forgets
    rw [holds_eq h6, c_nI, nI_1, nI_a2, nI_a3]
    simp (disch := omega) only [ix_nI, cl_nI]
    rw [b7, b8, held0 b3, sb_eq, sb_eq, if_pos (show nI 0 = (0 : Int32) from rfl), if_pos (show nI 0 = (0 : Int32) from rfl)]
    split <;> rfl
theorem worst_loop {cl : Nat → Nat → Int32} {zs : Nat → Int32} {C : Nat} (c6 : C ≤ 6) (h3 : zs 3 = nI C) (H : ∀ j, j < C → ∃ v : Nat, v ≤ 600 ∧ f_X0_loss (cl j) = nI v ∧ f_X5_forgets zs (nI j) = some (nI v)) : ∀ (m i n : Nat) (x1 x2 : Int32), i + m = C → m < n → ∃ r : Int32, f_X2_mostForgetful_7 cl (nI C) n x1 x2 (nI i) = some r ∧ f_X5_worst_7 zs n x1 x2 (nI i) = some r := by
  intro m
  induction m with
  | zero =>
    intro i n x1 x2 hi hn
    obtain ⟨n, rfl⟩ : ∃ z, n = z + 1 := ⟨n - 1, by omega⟩
    have : i = C := by omega
    subst this
    refine ⟨x1, ?_, ?_⟩
    · rw [f_X2_mostForgetful_7]
      by_cases h : (6 : Int32) ≤ nI i
      · rw [if_pos h]
      · rw [if_neg h, if_pos (nI_le (Nat.le_refl _) (by omega))]
    · rw [f_X5_worst_7, h3, if_pos (nI_le (Nat.le_refl _) (by omega))]
  | succ m ih =>
    intro i n x1 x2 hi hn
    obtain ⟨n, rfl⟩ : ∃ z, n = z + 1 := ⟨n - 1, by omega⟩
    obtain ⟨v, v1, v2, v3⟩ := H i (by omega)
    rw [f_X2_mostForgetful_7, f_X5_worst_7, h3, v3, if_neg (show ¬ (6 : Int32) ≤ nI i from nI_ge (b := 6) (by omega) (by omega)), if_neg (show ¬ nI C ≤ nI i from nI_ge (by omega) (by omega)), if_neg (show ¬ nI C ≤ nI i from nI_ge (by omega) (by omega)), ix_nI (by omega) (by omega), ix_nI (by omega) (by omega), cl_nI (by omega), v2, nI_1]
    simp only [sb_eq]
    by_cases h : nI v ≤ x2
    · rw [if_pos h, if_pos h, if_pos h]
      exact ih (i + 1) n x1 x2 (by omega) (by omega)
    · rw [if_neg h, if_neg h, if_neg h]
      exact ih (i + 1) n (nI i) (nI v) (by omega) (by omega)
theorem worst_ok {K : Nat} (hK : 1000 ≤ K) {d : Nat} {w : OW} {zs : Nat → Int32} (hJ : JO d w zs) : ∃ r : Int32, f_X2_mostForgetful K (w.2.2.2.2.2.2.2.2.1) (w.2.2.2.2.2.2.2.2.2.1) = some r ∧ f_X5_worst K zs = some r := by
  obtain ⟨ns, no, nr, nt, nd, ni, nm, nf, cl, cc, cs, ct⟩ := w
  obtain ⟨T, F, C, Y, hJ⟩ := hJ
  obtain ⟨t5, t6, ⟨t3a, t3b, t3c⟩, t4, hN, hT, hC, hSs⟩ := id hJ
  have t3a : cc = nI C := t3a
  show ∃ r : Int32, f_X2_mostForgetful K cl cc = some r ∧ _
  unfold f_X2_mostForgetful f_X5_worst
  rw [t3a]
  exact worst_loop t3c t3b (fun j hj => forgets_eq (by omega) ((hC j (by omega)).1 hj).2.2.2.2.1) C 0 K (-4) 0 (by omega) (by omega)
theorem s_worst {K : Nat} (hK : 20000 ≤ K) : St_worst VI K := by
  intro k wo wt hs hp kp fp fr sc sl sp sv sf ss zs zb za zt zl zu zp zw zf zg zc hk hI
  obtain ⟨r, u1, u2⟩ := worst_ok (K := K) (by omega) hI.1
  refine ⟨r, ?_, u2, VI_next hI⟩
  unfold f_X4_worst
  rw [u1]
  rfl
theorem tl_loop (zs : Nat → Int32) (w : Int32) : ∀ (m i n : Nat), i + m = 601 → m < n → 1 ≤ i → (∃ j, i ≤ j ∧ j ≤ 600 ∧ zs (48 + 5 * j + 2) = w ∧ f_X5_turnAt_8 w zs n (nI i) = some (nI j)) ∨ ((∀ k, i ≤ k → k ≤ 600 → ¬ zs (48 + 5 * k + 2) = w) ∧ f_X5_turnAt_8 w zs n (nI i) = some (-4)) := by
  intro m
  induction m with
  | zero =>
    intro i n hi hn h1
    obtain ⟨n, rfl⟩ : ∃ z, n = z + 1 := ⟨n - 1, by omega⟩
    refine Or.inr ⟨fun k k1 k2 => by omega, ?_⟩
    rw [f_X5_turnAt_8, if_pos (g600t (by omega) (by omega))]
  | succ m ih =>
    intro i n hi hn h1
    obtain ⟨n, rfl⟩ : ∃ z, n = z + 1 := ⟨n - 1, by omega⟩
    rw [f_X5_turnAt_8, if_neg (g600f (by omega)), n_nI, nI_a2, ix_nI (by omega) (by omega), cl_nI (by omega), nI_1]
    by_cases h : zs (48 + 5 * i + 2) = w
    · exact Or.inl ⟨i, Nat.le_refl i, by omega, h, by rw [if_pos h]⟩
    · rw [if_neg h]
      rcases ih (i + 1) n (by omega) (by omega) (by omega) with ⟨j, j1, j2, j3, j4⟩ | ⟨k1, k2⟩
      · exact Or.inl ⟨j, by omega, j2, j3, j4⟩
      · refine Or.inr ⟨fun k a b => ?_, k2⟩
        by_cases e : k = i
        · subst e; exact h
        · exact k1 k (by omega) b
theorem turn_ok {K : Nat} (hK : 1000 ≤ K) {d : Nat} {w : OW} {zs : Nat → Int32} (hJ : JO d w zs) (x1 : Int32) : ∃ r : Int32, f_X4_turnAt w x1 = some r ∧ f_X5_turnAt K zs x1 = some r := by
  obtain ⟨ns, no, nr, nt, nd, ni, nm, nf, cl, cc, cs, ct⟩ := w
  obtain ⟨T, F, C, Y, hJ⟩ := hJ
  obtain ⟨⟨t5, t5b⟩, t6, t3, t4, hN, hT, hC, hSs⟩ := id hJ
  have hN : JN T F ns no nr nt nd ni zs := hN
  have hT : JT T nt ni := hT
  have t5 : nm = nI T := t5
  have hT6 := JT_le hT
  unfold f_X4_turnAt f_X5_turnAt
  by_cases h0 : 0 ≤ x1
  · rw [if_pos h0, if_pos h0]
    have h0' : ¬ x1 < 0 := Int32.not_lt.mpr h0
    show ∃ r : Int32, ((f_X1_givenIn ni nm x1).bind fun r2 => some r2) = some r ∧ _
    unfold f_X1_givenIn
    rw [if_neg h0', t5]
    rcases tl_loop zs x1 600 1 K (by omega) (by omega) (by omega) with ⟨j, j1, j2, j3, j4⟩ | ⟨k1, k2⟩
    · refine ⟨nI j, ?_, j4⟩
      obtain ⟨-, -, q3, -, -, -, -, -, -, -, q11⟩ := hN j j1 j2
      rw [q3] at j3
      rcases q11 with ⟨z, -⟩ | ⟨t, a1, a2, a3, -⟩
      · rw [← j3, z] at h0'
        exact absurd (show ((-1 : Int32)) < 0 by decide) h0'
      · rw [a2] at j3
        subst j3
        rw [if_neg (show ¬ nI T ≤ nI t from nI_ge (by omega) (by omega)), if_neg (l600f (by omega)), ix_nI (by omega) (by omega), cl_nI (by omega), a3]
        rfl
    · refine ⟨-4, ?_, k2⟩
      by_cases hc : nI T ≤ x1
      · rw [if_pos hc]; rfl
      · rw [if_neg hc]
        by_cases h6 : 600 ≤ x1
        · rw [if_pos h6]; rfl
        · exfalso
          rcases in_cases x1 0 600 (by omega) (by omega) with ⟨-, z | z⟩ | ⟨m, -, m2, rfl, -⟩
          · exact h0' z
          · exact h6 (Int32.le_of_lt z)
          · have hm : m < T := by
              rcases Nat.lt_or_ge m T with z | z
              · exact z
              · exact absurd (nI_le z (by omega)) hc
            obtain ⟨n, n1, n6, n3, n4⟩ := hT.1 m hm
            refine k1 n n1 n6 ?_
            rw [(hN n n1 n6).2.2.1, n4]
  · rw [if_neg h0, if_neg h0]
    exact ⟨-1, rfl, rfl⟩
theorem s_turnAt {K : Nat} (hK : 20000 ≤ K) : St_turnAt VI K := by
  intro k wo wt hs hp kp fp fr sc sl sp sv sf ss zs zb za zt zl zu zp zw zf zg zc hk hI x1
  obtain ⟨r, u1, u2⟩ := turn_ok (K := K) (by omega) hI.1 x1
  exact ⟨r, u1, u2, VI_next hI⟩
