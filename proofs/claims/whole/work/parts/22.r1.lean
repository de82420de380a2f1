/-! PURE SIDE: among, cost. -/
theorem is_loop (ns : Nat → Int32) (w : Int32) {b : Nat} (hb : b ≤ 600) : ∀ (m i n : Nat) (c : Int32), i + m = b + 1 → m < n → 1 ≤ i → f_X1_inState_10 (nI b) w ns n c (nI i) = some (c + nI (cnt (fun k => decide (ns k = w)) i m)) := by
  intro m
  induction m with
  | zero =>
    intro i n c hi hn h1
    obtain ⟨n, rfl⟩ : ∃ z, n = z + 1 := ⟨n - 1, by omega⟩
    rw [f_X1_inState_10, if_pos (nI_lt (by omega) (by omega))]
    exact congrArg some (Int32.add_zero c).symm
  | succ m ih =>
    intro i n c hi hn h1
    obtain ⟨n, rfl⟩ : ∃ z, n = z + 1 := ⟨n - 1, by omega⟩
    rw [f_X1_inState_10, if_neg (nI_nlt (by omega) (by omega)), if_neg (g600f (by omega)), ix_nI (by omega) (by omega), cl_nI (by omega), nI_1]
    by_cases h : ns i = w
    · rw [if_pos h, ih (i + 1) n (c + 1) (by omega) (by omega) (by omega), cnt_s1 (show decide (ns i = w) = true from decide_eq_true h), ← add_cnt]
      rfl
    · rw [if_neg h, ih (i + 1) n c (by omega) (by omega) (by omega), cnt_s0 (show decide (ns i = w) = false from decide_eq_false h)]
theorem wr_loop (nr : Nat → Int32) (w : Int32) {b : Nat} (hb : b ≤ 600) : ∀ (m i n : Nat) (c : Int32), i + m = b + 1 → m < n → 1 ≤ i → f_X1_withReason_10 (nI b) w nr n c (nI i) = some (c + nI (cnt (fun k => decide (nr k = w)) i m)) := by
  intro m
  induction m with
  | zero =>
    intro i n c hi hn h1
    obtain ⟨n, rfl⟩ : ∃ z, n = z + 1 := ⟨n - 1, by omega⟩
    rw [f_X1_withReason_10, if_pos (nI_lt (by omega) (by omega))]
    exact congrArg some (Int32.add_zero c).symm
  | succ m ih =>
    intro i n c hi hn h1
    obtain ⟨n, rfl⟩ : ∃ z, n = z + 1 := ⟨n - 1, by omega⟩
    rw [f_X1_withReason_10, if_neg (nI_nlt (by omega) (by omega)), if_neg (g600f (by omega)), ix_nI (by omega) (by omega), cl_nI (by omega), nI_1]
    by_cases h : nr i = w
    · rw [if_pos h, ih (i + 1) n (c + 1) (by omega) (by omega) (by omega), cnt_s1 (show decide (nr i = w) = true from decide_eq_true h), ← add_cnt]
      rfl
    · rw [if_neg h, ih (i + 1) n c (by omega) (by omega) (by omega), cnt_s0 (show decide (nr i = w) = false from decide_eq_false h)]
theorem am_loop (zs : Nat → Int32) {s b : Nat} (hs : s < 10) (hb : b ≤ 600) : ∀ (m i n : Nat) (c : Int32), i + m = b + 1 → m < n → 1 ≤ i → f_X5_among_46 (nI b) (nI s) zs n c (nI i) = some (c + nI (cnt (fun k => decide (zs (48 + 5 * k) = nI s)) i m)) := by
  intro m
  induction m with
  | zero =>
    intro i n c hi hn h1
    obtain ⟨n, rfl⟩ : ∃ z, n = z + 1 := ⟨n - 1, by omega⟩
    rw [f_X5_among_46, if_pos (nI_lt (by omega) (by omega))]
    exact congrArg some (Int32.add_zero c).symm
  | succ m ih =>
    intro i n c hi hn h1
    obtain ⟨n, rfl⟩ : ∃ z, n = z + 1 := ⟨n - 1, by omega⟩
    rw [f_X5_among_46, if_neg (nI_nlt (by omega) (by omega)), if_neg (show ¬ (10 : Int32) ≤ nI s from nI_ge (b := 10) hs (by omega)), n_nI, nI_a0, ix_nI (by omega) (by omega), cl_nI (by omega), nI_1, Int32.add_zero]
    by_cases h : zs (48 + 5 * i) = nI s
    · rw [if_pos h, ih (i + 1) n (c + 1) (by omega) (by omega) (by omega), cnt_s1 (show decide (zs (48 + 5 * i) = nI s) = true from decide_eq_true h), ← add_cnt]
      rfl
    · rw [if_neg h, ih (i + 1) n c (by omega) (by omega) (by omega), cnt_s0 (show decide (zs (48 + 5 * i) = nI s) = false from decide_eq_false h)]
theorem ten_off (r : Nat) : nI (10 + r) - 10 = nI r := by
  have := pk_sub (a := 10 + r) (b := 10) (by omega)
  rw [show 10 + r - 10 = r by omega] at this
  exact this
theorem ar_loop (zs : Nat → Int32) {r b : Nat} (hr : r < 10) (hb : b ≤ 600) : ∀ (m i n : Nat) (c : Int32), i + m = b + 1 → m < n → 1 ≤ i → f_X5_among_46 (nI b) (nI (10 + r)) zs n c (nI i) = some (c + nI (cnt (fun k => decide (zs (48 + 5 * k) = 4) && decide (zs (48 + 5 * k + 4) = nI r)) i m)) := by
  intro m
  induction m with
  | zero =>
    intro i n c hi hn h1
    obtain ⟨n, rfl⟩ : ∃ z, n = z + 1 := ⟨n - 1, by omega⟩
    rw [f_X5_among_46, if_pos (nI_lt (by omega) (by omega))]
    exact congrArg some (Int32.add_zero c).symm
  | succ m ih =>
    intro i n c hi hn h1
    obtain ⟨n, rfl⟩ : ∃ z, n = z + 1 := ⟨n - 1, by omega⟩
    rw [f_X5_among_46, if_neg (nI_nlt (by omega) (by omega)), if_pos (show (10 : Int32) ≤ nI (10 + r) from nI_le (a := 10) (by omega) (by omega)), ten_off, n_nI, nI_a0, nI_a4, ix_nI (by omega) (by omega), ix_nI (by omega) (by omega), cl_nI (by omega), cl_nI (by omega), nI_1, Int32.add_zero]
    by_cases h : zs (48 + 5 * i) = 4
    · by_cases h2 : zs (48 + 5 * i + 4) = nI r
      · rw [if_pos h, if_pos h2, ih (i + 1) n (c + 1) (by omega) (by omega) (by omega), cnt_s1 (show (decide (zs (48 + 5 * i) = 4) && decide (zs (48 + 5 * i + 4) = nI r)) = true by rw [decide_eq_true h, decide_eq_true h2]; rfl), ← add_cnt]
        rfl
      · rw [if_pos h, if_neg h2, ih (i + 1) n c (by omega) (by omega) (by omega), cnt_s0 (show (decide (zs (48 + 5 * i) = 4) && decide (zs (48 + 5 * i + 4) = nI r)) = false by rw [decide_eq_false h2, Bool.and_false])]
    · rw [if_neg h, ih (i + 1) n c (by omega) (by omega) (by omega), cnt_s0 (show (decide (zs (48 + 5 * i) = 4) && decide (zs (48 + 5 * i + 4) = nI r)) = false by rw [decide_eq_false h, Bool.false_and])]
theorem leaf_bad {A B C : Prop} [Decidable A] [Decidable B] [Decidable C] (h : A ∨ B ∨ C) (z : Option Int32) : (if A then some (-1) else if B then some (-1) else if C then some (-1) else z) = some (-1) := by
  by_cases a : A
  · rw [if_pos a]
  · rw [if_neg a]
    by_cases b : B
    · rw [if_pos b]
    · rw [if_neg b]
      by_cases c : C
      · rw [if_pos c]
      · rcases h with h | h | h
        · exact absurd h a
        · exact absurd h b
        · exact absurd h c
theorem leaf_good {A B C : Prop} [Decidable A] [Decidable B] [Decidable C] (a : ¬ A) (b : ¬ B) (c : ¬ C) (z : Option Int32) : (if A then some (-1) else if B then some (-1) else if C then some (-1) else z) = z := by
  rw [if_neg a, if_neg b, if_neg c]
theorem among_bad {K : Nat} {wo : OW} {x1 x2 x3 : Int32} (h : x1 < 1 ∨ x2 < x1 ∨ 600 < x2) : f_X4_among K wo x1 x2 x3 = some (-1) := by
  unfold f_X4_among
  by_cases d : x3 < 0
  · rw [if_pos d]
    by_cases f : x3 < 10
    · rw [if_pos f, leaf_bad h]
    · rw [if_neg f]
      by_cases g : 13 < x3
      · rw [if_pos g, leaf_bad h]
      · rw [if_neg g, leaf_bad h]
  · rw [if_neg d]
    by_cases e : 4 < x3
    · rw [if_pos e]
      by_cases f : x3 < 10
      · rw [if_pos f, leaf_bad h]
      · rw [if_neg f]
        by_cases g : 13 < x3
        · rw [if_pos g, leaf_bad h]
        · rw [if_neg g, leaf_bad h]
    · rw [if_neg e]
      by_cases f : x3 < 10
      · rw [if_pos f, leaf_bad h]
      · rw [if_neg f]
        by_cases g : 13 < x3
        · rw [if_pos g, leaf_bad h]
        · rw [if_neg g, leaf_bad h]
theorem imax_1a {a : Nat} (h : 1 ≤ a) (h2 : a < 2 ^ 31) : imax (nI a) 1 = nI a := by
  have := imax_nI (a := a) (b := 1) h2 (by omega)
  rw [Nat.max_eq_left h] at this
  exact this
theorem among_ok {K : Nat} (hK : 1000 ≤ K) {d : Nat} {w : OW} {zs : Nat → Int32} (hJ : JO d w zs) (x1 x2 x3 : Int32) : ∃ r : Int32, f_X4_among K w x1 x2 x3 = some r ∧ f_X5_among K zs x1 x2 x3 = some r := by
  have h10 : ¬ (1 : Int32) = 0 := by decide
  rcases nI_num_cases x1 with ⟨h, h2⟩ | ⟨a, a1, a6, rfl, h, h2⟩
  · refine ⟨-1, among_bad ?_, ?_⟩
    · by_cases z : x1 < 1
      · exact Or.inl z
      · by_cases y : 600 < x1
        · by_cases v : x2 < x1
          · exact Or.inr (Or.inl v)
          · refine Or.inr (Or.inr (Int32.lt_iff_toInt_lt.mpr ?_))
            have y2 := Int32.lt_iff_toInt_lt.mp y
            have v2 := Int32.le_iff_toInt_le.mp (Int32.not_lt.mp v)
            omega
        · unfold f_X1_isNumber at h
          rw [if_neg z, if_neg y] at h
          exact absurd h h10
    · unfold f_X5_among
      rw [h2, if_pos rfl]
  rcases in_cases x2 a 600 (by omega) a6 with ⟨g, g2⟩ | ⟨b, b1, b2, rfl, g3⟩
  · refine ⟨-1, among_bad (Or.inr g2), ?_⟩
    unfold f_X5_among
    rw [h2, if_neg h10, if_pos (show f_X5_in x2 (nI a) 600 = 0 from g)]
  have g3 : f_X5_in (nI b) (nI a) 600 = 1 := g3
  have hA : ¬ nI a < (1 : Int32) := nI_nlt (b := 1) a1 (by omega)
  have hB : ¬ nI b < nI a := nI_nlt b1 (by omega)
  have hC : ¬ (600 : Int32) < nI b := g600f b2
  obtain ⟨ns, no, nr, nt, nd, ni, nm, nf, cl, cc, cs, ct⟩ := w
  obtain ⟨T, F, C, Y, hJ⟩ := hJ
  obtain ⟨t5, t6, t3, t4, hN, -⟩ := id hJ
  have hN : JN T F ns no nr nt nd ni zs := hN
  rcases in_cases x3 0 4 (by omega) (by omega) with ⟨e, e2⟩ | ⟨s, -, s4, rfl, e3⟩
  · rcases in_cases x3 10 13 (by omega) (by omega) with ⟨f, f2⟩ | ⟨m, m1, m2, rfl, f3⟩
    · refine ⟨-1, ?_, ?_⟩
      · unfold f_X4_among
        have f2 : ¬ x3 < 10 → 13 < x3 := fun z => f2.resolve_left z
        by_cases d : x3 < 0
        · rw [if_pos d]
          by_cases ff : x3 < 10
          · rw [if_pos ff, leaf_good hA hB hC]
          · rw [if_neg ff, if_pos (f2 ff), leaf_good hA hB hC]
        · rw [if_neg d, if_pos (show (4 : Int32) < x3 from e2.resolve_left d)]
          by_cases ff : x3 < 10
          · rw [if_pos ff, leaf_good hA hB hC]
          · rw [if_neg ff, if_pos (f2 ff), leaf_good hA hB hC]
      · unfold f_X5_among
        rw [h2, if_neg h10, g3, if_neg h10, if_pos (show f_X5_in x3 0 4 = 0 from e), if_pos (show f_X5_in x3 10 13 = 0 from f)]
    · obtain ⟨r, rfl⟩ : ∃ r, m = 10 + r := ⟨m - 10, by omega⟩
      have hr3 : r ≤ 3 := by omega
      refine ⟨0 + nI (cnt (fun k => decide (nr k = nI r)) a (b + 1 - a)), ?_, ?_⟩
      · unfold f_X4_among
        rw [if_neg (nI_pos (by omega)), if_pos (show (4 : Int32) < nI (10 + r) from nI_lt (a := 4) (by omega) (by omega)), if_neg (show ¬ nI (10 + r) < (10 : Int32) from nI_nlt (b := 10) (by omega) (by omega)), if_neg (show ¬ (13 : Int32) < nI (10 + r) from nI_nlt (a := 13) (by omega) (by omega)), leaf_good hA hB hC, ten_off]
        show (f_X1_withReason K nr (nI a) (nI b) (nI r)).bind _ = _
        unfold f_X1_withReason
        rw [imax_1a a1 (by omega), wr_loop nr (nI r) b2 (b + 1 - a) a K 0 (by omega) (by omega) a1]
        rfl
      · unfold f_X5_among
        rw [h2, if_neg h10, g3, if_neg h10, if_pos (show f_X5_in (nI (10 + r)) 0 4 = 0 from e), if_neg (by rw [show f_X5_in (nI (10 + r)) 10 13 = 1 from f3]; exact h10), ar_loop zs (by omega) b2 (b + 1 - a) a K 0 (by omega) (by omega) a1, cnt_congr (q := fun k => decide (nr k = nI r)) (b + 1 - a) a (fun j j1 j2 => ?_)]
        obtain ⟨q1, q2, q3, q4, q5, q6, q7, q8, -⟩ := hN j (by omega) (by omega)
        show (decide (zs (48 + 5 * j) = 4) && decide (zs (48 + 5 * j + 4) = nI r)) = decide (nr j = nI r)
        rw [q1]
        by_cases hs : ns j = 4
        · rw [(q8 hs).1, decide_eq_true hs, Bool.true_and]
        · rw [decide_eq_false hs, Bool.false_and, q7 hs, decide_eq_false (fun z => nI_m1 (i := r) (by omega) z.symm)]
  · refine ⟨0 + nI (cnt (fun k => decide (ns k = nI s)) a (b + 1 - a)), ?_, ?_⟩
    · unfold f_X4_among
      rw [if_neg (nI_pos (by omega)), if_neg (show ¬ (4 : Int32) < nI s from nI_nlt (a := 4) (by omega) (by omega)), if_pos (show nI s < (10 : Int32) from nI_lt (b := 10) (by omega) (by omega)), leaf_good hA hB hC]
      show (f_X1_inState K ns (nI a) (nI b) (nI s)).bind _ = _
      unfold f_X1_inState
      rw [imax_1a a1 (by omega), is_loop ns (nI s) b2 (b + 1 - a) a K 0 (by omega) (by omega) a1]
      rfl
    · unfold f_X5_among
      rw [h2, if_neg h10, g3, if_neg h10, if_neg (by rw [show f_X5_in (nI s) 0 4 = 1 from e3]; exact h10), am_loop zs (by omega) b2 (b + 1 - a) a K 0 (by omega) (by omega) a1, cnt_congr (q := fun k => decide (ns k = nI s)) (b + 1 - a) a (fun j j1 j2 => ?_)]
      show decide (zs (48 + 5 * j) = nI s) = decide (ns j = nI s)
      rw [(hN j (by omega) (by omega)).1]
theorem s_among {K : Nat} (hK : 20000 ≤ K) : St_among VI K := by
  intro k wo wt hs hp kp fp fr sc sl sp sv sf ss zs zb za zt zl zu zp zw zf zg zc hk hI x1 x2 x3
  obtain ⟨r, u1, u2⟩ := among_ok (K := K) (by omega) hI.1 x1 x2 x3
  exact ⟨r, u1, u2, VI_next hI⟩
/-! laying aside and back -/
def lay (f g : Nat → Int32) (i : Nat) : Nat → Int32 := fun x => if i ≤ x ∧ x < 3053 then f x else g x
theorem lay_at {f g : Nat → Int32} {x : Nat} (h : x < 3053) : lay f g 0 x = f x := if_pos ⟨Nat.zero_le x, h⟩
theorem lay_nil (f g : Nat → Int32) : lay f g 3053 = g := by
  funext x
  unfold lay
  rw [if_neg (by omega)]
theorem lay_step (f g : Nat → Int32) {i : Nat} (h : i < 3053) : lay f (upd g i (f i)) (i + 1) = lay f g i := by
  funext x
  unfold lay
  by_cases e : x = i
  · subst e
    rw [if_neg (by omega), if_pos (by omega), pk_us]
  · rw [pk_un e]
    by_cases e2 : i + 1 ≤ x ∧ x < 3053
    · rw [if_pos e2, if_pos (by omega)]
    · rw [if_neg e2, if_neg (by omega)]
theorem la_loop (zs : Nat → Int32) : ∀ (m i n : Nat) (za : Nat → Int32), i + m = 3053 → m < n → f_X5_layAside_2 zs n (nI i) za = some (lay zs za i) := by
  intro m
  induction m with
  | zero =>
    intro i n za hi hn
    obtain ⟨n, rfl⟩ : ∃ z, n = z + 1 := ⟨n - 1, by omega⟩
    have : i = 3053 := by omega
    subst this
    rw [f_X5_layAside_2, if_pos (g3053t (by omega) (by omega)), lay_nil]
  | succ m ih =>
    intro i n za hi hn
    obtain ⟨n, rfl⟩ : ∃ z, n = z + 1 := ⟨n - 1, by omega⟩
    rw [f_X5_layAside_2, if_neg (g3053f (by omega)), ix_nI (by omega) (by omega), ix_nI (by omega) (by omega), cl_nI (by omega)]
    show f_X5_layAside_2 zs n (nI i + 1) (upd za i (zs i)) = _
    rw [nI_1, ih (i + 1) n _ (by omega) (by omega), lay_step _ _ (by omega)]
theorem lb_loop (za : Nat → Int32) : ∀ (m i n : Nat) (zs : Nat → Int32), i + m = 3053 → m < n → f_X5_layBack_2 za n (nI i) zs = some (lay za zs i) := by
  intro m
  induction m with
  | zero =>
    intro i n zs hi hn
    obtain ⟨n, rfl⟩ : ∃ z, n = z + 1 := ⟨n - 1, by omega⟩
    have : i = 3053 := by omega
    subst this
    rw [f_X5_layBack_2, if_pos (g3053t (by omega) (by omega)), lay_nil]
  | succ m ih =>
    intro i n zs hi hn
    obtain ⟨n, rfl⟩ : ∃ z, n = z + 1 := ⟨n - 1, by omega⟩
    rw [f_X5_layBack_2, if_neg (g3053f (by omega)), ix_nI (by omega) (by omega), ix_nI (by omega) (by omega), cl_nI (by omega)]
    show f_X5_layBack_2 za n (nI i + 1) (upd zs i (za i)) = _
    rw [nI_1, ih (i + 1) n _ (by omega) (by omega), lay_step _ _ (by omega)]
theorem aside_eq {K : Nat} (hK : 20000 ≤ K) (zs za : Nat → Int32) : f_X5_layAside K zs za = some (lay zs za 0) := la_loop zs 3053 0 K za (by omega) (by omega)
theorem back_eq {K : Nat} (hK : 20000 ≤ K) (zs za : Nat → Int32) : f_X5_layBack K zs za = some (lay za zs 0) := lb_loop za 3053 0 K zs (by omega) (by omega)
theorem lay_lay {zs za ys : Nat → Int32} {x : Nat} (h : x < 3053) : lay (lay zs za 0) ys 0 x = zs x := by rw [lay_at h, lay_at h]
/-! what forgetting costs -/
theorem gf_loss {K : Nat} (hK : 1000 ≤ K) {ns no ck zs : Nat → Int32} {i : Nat} (h6 : i < 6) (p5 : HR ns no i (ck 1) (ck 2) (ck 3) (zs (6 + 7 * i + 1)) (zs (6 + 7 * i + 2)) (zs (6 + 7 * i + 3))) : ∃ (v : Nat) (zs' : Nat → Int32), v ≤ 600 ∧ f_X0_loss ck = nI v ∧ f_X5_goForget K zs (nI i) = some (nI v, zs') := by
  obtain ⟨n, rfl⟩ : ∃ z, K = z + 1 := ⟨K - 1, by omega⟩
  rcases p5 with ⟨lo, hi, mk, b1, b2, b3, b4, b5, b6, b7, b8, b9, b10, b11⟩ | ⟨hi, mk, h2, b1, b2, b3, b4, b5, b6, b7, b8⟩
  · by_cases hl : lo ≤ mk + 1
    · refine ⟨mk + 1 - lo, upd (hz zs lo mk 0) (6 + 7 * i + 1) (nI (mk + 1)), by omega, (loss_eq (by omega) b3 b4 b5 b6 b7).2, ?_⟩
      unfold f_X5_goForget
      rw [c_nI, fg_loop h6 b4 b3 (mk + 1 - lo) lo (n + 1) 0 zs (by omega) (by omega) b1 b8 b9 b10, Int32.zero_add]
    · refine ⟨0, zs, by omega, ?_, ?_⟩
      · rw [(loss_eq (by omega) b3 b4 b5 b6 b7).2, show mk + 1 - lo = 0 by omega]
      · unfold f_X5_goForget
        rw [c_nI, f_X5_goForget_7, holds_eq h6, b8, b9, held1 b2 b3, sb_eq, if_neg (show ¬ nI (hi - lo + 1) ≤ 0 from nI_nle (by omega) (by omega)), nI_1, nI_a3]
        simp (disch := omega) only [ix_nI, cl_nI]
        rw [b8, b10, if_pos (nI_lt (by omega) (by omega))]
        rfl
  · have e := (loss_eq (lo := hi + 1) (by omega) b1 b2 b4 b5 b6).2
    rw [show mk + 1 - (hi + 1) = 0 by omega] at e
    refine ⟨0, zs, by omega, e, ?_⟩
    unfold f_X5_goForget
    rw [c_nI, f_X5_goForget_7, holds_eq h6, b7, b8, held0 b3, sb_eq, if_pos (show nI 0 ≤ (0 : Int32) by decide)]
    rfl
theorem loss_of {K : Nat} (hK : 1000 ≤ K) {d : Nat} {w : OW} {zs : Nat → Int32} (hJ : JO d w zs) {i : Nat} (h6 : i < 6) (h : f_X2_isClerk w.2.2.2.2.2.2.2.2.2.1 (nI i) = 1) : ∃ (v : Nat) (zs' : Nat → Int32), v ≤ 600 ∧ f_X2_lossOf w.2.2.2.2.2.2.2.2.1 w.2.2.2.2.2.2.2.2.2.1 (nI i) = some (nI v) ∧ f_X5_goForget K zs (nI i) = some (nI v, zs') := by
  obtain ⟨ns, no, nr, nt, nd, ni, nm, nf, cl, cc, cs, ct⟩ := w
  obtain ⟨T, F, C, Y, hJ⟩ := hJ
  obtain ⟨t5, t6, ⟨t3a, t3b, t3c⟩, t4, hN, hT, hC, hSs⟩ := id hJ
  have t3a : cc = nI C := t3a
  have h : f_X2_isClerk cc (nI i) = 1 := h
  have hi : i < C := by
    rcases clerk_cases t3c t3b (nI i) with ⟨g, -⟩ | ⟨j, j1, j2, -, -⟩
    · rw [t3a, g] at h
      exact absurd h (by decide)
    · have := nI_inj (by omega) (by omega) j2
      omega
  obtain ⟨v, zs', v1, v2, v3⟩ := gf_loss hK h6 ((hC i h6).1 hi).2.2.2.2.1
  have v2 : f_X0_loss (cl i) = nI v := v2
  refine ⟨v, zs', v1, ?_, v3⟩
  show f_X2_lossOf cl cc (nI i) = _
  unfold f_X2_lossOf
  rw [h, if_neg (by decide), ix_nI (by omega) (by omega), cl_nI (by omega), v2]
theorem cost_ok {K : Nat} (hK : 20000 ≤ K) {d : Nat} (hd : d ≤ 1000000) {wo wt : OW} {zs za : Nat → Int32} (hJ : JO d wo zs) (x1 x2 : Int32) : ∃ (r : Int32) (wt' : OW) (zs' za' : Nat → Int32), f_X4_cost K wo wt x1 x2 = some (r, wt') ∧ f_X5_cost K zs za x1 x2 = some (r, zs', za') ∧ ∀ x, x < 3053 → zs' x = zs x := by
  have h10 : ¬ (1 : Int32) = 0 := by decide
  obtain ⟨T, F, C, Y, hJJ⟩ := id hJ
  obtain ⟨t5, t6, ⟨t3a, t3b, t3c⟩, t4, hN, hT, hC, hSs⟩ := hJJ
  rcases clerk_cases t3c t3b x1 with ⟨h, h2⟩ | ⟨i, hi, rfl, h, h2⟩
  · refine ⟨-1, wt, zs, za, ?_, ?_, fun _ _ => rfl⟩
    · unfold f_X4_cost
      rw [show f_X2_isClerk wo.2.2.2.2.2.2.2.2.2.1 x1 = 0 by rw [t3a]; exact h, if_pos rfl]
    · unfold f_X5_cost
      rw [h2, if_pos rfl]
  have hk : f_X2_isClerk wo.2.2.2.2.2.2.2.2.2.1 (nI i) = 1 := by rw [t3a]; exact h
  have hkb : f_X2_isClerk (bec wt wo).2.2.2.2.2.2.2.2.2.1 (nI i) = 1 := hk
  rcases in_cases x2 0 50 (by omega) (by omega) with ⟨g, g2⟩ | ⟨m, -, m5, rfl, g3⟩
  · refine ⟨-1, wt, zs, za, ?_, ?_, fun _ _ => rfl⟩
    · unfold f_X4_cost
      rw [hk, if_neg h10]
      rcases g2 with z | z
      · rw [if_pos (show x2 < 0 from z)]
      · by_cases z2 : x2 < 0
        · rw [if_pos z2]
        · rw [if_neg z2, if_neg (show ¬ x2 ≤ (50 : Int32) from nle_lt z)]
    · unfold f_X5_cost
      rw [h2, if_neg h10, if_pos (show f_X5_in x2 0 50 = 0 from g)]
  have hJ1 : JO d (bec wt wo) zs := JO_bec hJ
  have hm0 : ¬ nI m < (0 : Int32) := nI_pos (by omega)
  have hm50 : nI m ≤ (50 : Int32) := nI_le (b := 50) m5 (by omega)
  have g3 : f_X5_in (nI m) 0 50 = 1 := g3
  by_cases m0 : m = 0
  · subst m0
    obtain ⟨v, ys, v1, v2, v3⟩ := loss_of (K := K) (by omega) hJ1 (by omega) hkb
    have hcl : f_X4_cost K wo wt (nI i) (nI 0) = (f_X2_lossOf (bec wt wo).2.2.2.2.2.2.2.2.1 (bec wt wo).2.2.2.2.2.2.2.2.2.1 (nI i)).bind fun r => some (r, bec wt wo) := by
      unfold f_X4_cost
      rw [hk, if_neg h10, if_neg hm0, if_pos hm50, bec_eq]
      rfl
    obtain ⟨hn, q0, q1, q2, q3⟩ := HR_held ((hC i (by omega)).1 hi).2.2.2.2.1
    have hca := canAsk_eq (K := K) (by omega) (ns := wo.1) (cs := wo.2.2.2.2.2.2.2.2.2.2.1) (by omega) q2 (fun n n1 n2 => (hN n n1 n2).1) hSs.2.1 (nI 0)
    have hbig : hn + av wo.1 wo.2.2.2.2.2.2.2.2.2.2.1 < 2 ^ 31 := by
      have a1 := cnt_le (fun k => decide (wo.1 k = 0)) 600 1
      have a2 := cnt_le (fun k => decide (wo.1 k = 3)) 600 1
      unfold av
      split <;> omega
    rw [if_neg (nI_nlt (by omega) hbig)] at hca
    have hgo : f_X5_goAsk K zs (nI i) (nI 0) = some (zs (6 + 7 * i + 6), zs) := by
      obtain ⟨n, rfl⟩ : ∃ z, K = z + 1 := ⟨K - 1, by omega⟩
      unfold f_X5_goAsk
      rw [f_X5_goAsk_2, if_pos (show nI 0 ≤ (0 : Int32) by decide), c_nI, nI_a6, ix_nI (by omega) (by omega), cl_nI (by omega)]
    refine ⟨nI v, bec wt wo, lay (lay zs za 0) ys 0, lay zs za 0, ?_, ?_, fun x hx => lay_lay hx⟩
    · rw [hcl, v2]
      rfl
    · unfold f_X5_cost
      rw [h2, if_neg h10, g3, if_neg h10, hca, sb_eq, if_neg h10, aside_eq hK, sb_eq, hgo, sb_eq]
      dsimp only
      rw [v3, sb_eq]
      dsimp only
      rw [back_eq hK, sb_eq]
  obtain ⟨r, ns', no', nr', nt', nd', ni', nm', nf', cl', u1, u2⟩ := oAsk_ok (K := K) (by omega) hd hJ1 (nI i) (nI m)
  have hmz : ¬ nI m = (0 : Int32) := nI_ne0 (by omega) (by omega)
  have hcl : f_X4_cost K wo wt (nI i) (nI m) = if 0 ≤ r then (f_X2_lossOf cl' (bec wt wo).2.2.2.2.2.2.2.2.2.1 (nI i)).bind fun r35 => some (r35, (ns', no', nr', nt', nd', ni', nm', nf', cl', (bec wt wo).2.2.2.2.2.2.2.2.2.1, (bec wt wo).2.2.2.2.2.2.2.2.2.2.1, (bec wt wo).2.2.2.2.2.2.2.2.2.2.2)) else some (r, (ns', no', nr', nt', nd', ni', nm', nf', cl', (bec wt wo).2.2.2.2.2.2.2.2.2.1, (bec wt wo).2.2.2.2.2.2.2.2.2.2.1, (bec wt wo).2.2.2.2.2.2.2.2.2.2.2)) := by
    unfold f_X4_cost
    rw [hk, if_neg h10, if_neg hm0, if_pos hm50, bec_eq]
    show (if nI m = 0 then _ else (f_X2_serve K ((bec wt wo).1) ((bec wt wo).2.1) ((bec wt wo).2.2.1) ((bec wt wo).2.2.2.1) ((bec wt wo).2.2.2.2.1) ((bec wt wo).2.2.2.2.2.1) ((bec wt wo).2.2.2.2.2.2.1) ((bec wt wo).2.2.2.2.2.2.2.1) ((bec wt wo).2.2.2.2.2.2.2.2.1) ((bec wt wo).2.2.2.2.2.2.2.2.2.1) ((bec wt wo).2.2.2.2.2.2.2.2.2.2.1) ((bec wt wo).2.2.2.2.2.2.2.2.2.2.2) (nI i) (nI m)).bind _) = _
    rw [if_neg hmz, u1]
    rfl
  have hin : f_X5_in (nI m) 1 50 = 1 := by
    rcases in_cases (nI m) 1 50 (by omega) (by omega) with ⟨-, z | z⟩ | ⟨-, -, -, -, z⟩
    · exact absurd z (nI_nlt (by omega) (by omega))
    · exact absurd z (nI_nlt (by omega) (by omega))
    · exact z
  rcases u2 with ⟨rfl, g | g⟩ | ⟨g, g2, ⟨rfl, g4⟩ | ⟨hr, g5, ys, g4, g6⟩⟩
  · rw [h2] at g
    exact absurd g h10
  · rw [hin] at g
    exact absurd g h10
  · rw [if_neg (by decide)] at hcl
    refine ⟨-3, _, zs, za, hcl, ?_, fun _ _ => rfl⟩
    unfold f_X5_cost
    rw [h2, if_neg h10, g3, if_neg h10, g4, sb_eq, if_pos rfl]
  · obtain ⟨v, ys', v1, v2, v3⟩ := loss_of (K := K) (by omega) g6 (i := i) (by omega) hkb
    have v2 : f_X2_lossOf cl' (bec wt wo).2.2.2.2.2.2.2.2.2.1 (nI i) = some (nI v) := v2
    rw [if_pos (Int32.not_lt.mp hr), v2, sb_eq] at hcl
    refine ⟨nI v, _, lay (lay zs za 0) ys' 0, lay zs za 0, hcl, ?_, fun x hx => lay_lay hx⟩
    unfold f_X5_cost
    rw [h2, if_neg h10, g3, if_neg h10, g5, sb_eq, if_neg h10, aside_eq hK, sb_eq, g4, sb_eq]
    dsimp only
    rw [v3, sb_eq]
    dsimp only
    rw [back_eq hK, sb_eq]
theorem s_cost {K : Nat} (hK : 20000 ≤ K) : St_cost VI K := by
  intro k wo wt hs hp kp fp fr sc sl sp sv sf ss zs zb za zt zl zu zp zw zf zg zc hk hI x1 x2
  obtain ⟨hJ, hH, hX⟩ := hI
  obtain ⟨r, wt', zs', za', u1, u2, u3⟩ := cost_ok (K := K) hK (by omega) (wt := wt) (za := za) hJ x1 x2
  exact ⟨r, wt', zs', za', u1, u2, JO_up (by omega) (JO_z hJ u3), HI_up (by omega) hH, hX⟩
