/-! PURE SIDE: rows of holes and of free numbers. -/
def gw (ns no nr : Nat → Int32) (w : Int32) (n : Nat) : Bool := decide (2 ≤ n) && (decide (ns (n - 1) = w) && (decide (ns n = w) && (decide (no (n - 1) = no n) && decide (nr (n - 1) = nr n))))
theorem gw_sz (ns no nr : Nat → Int32) (w : Int32) {x : Nat} (h : 1 ≤ x) : gw ns no nr w (x + 1) = (decide (ns x = w) && (decide (ns (x + 1) = w) && (decide (no x = no (x + 1)) && decide (nr x = nr (x + 1))))) := by
  unfold gw
  rw [Nat.add_sub_cancel, decide_eq_true (show 2 ≤ x + 1 by omega), Bool.true_and]
theorem gw_0z (ns no nr : Nat → Int32) (w : Int32) : gw ns no nr w (0 + 1) = false := rfl
theorem goX1 {ns no nr : Nat → Int32} {w : Int32} {x : Nat} (h6 : x < 600) (hw : ns x = w ∨ ns (x + 1) = w) : f_X1_goesOn ns no nr (nI x) = some (if gw ns no nr w (x + 1) = true then 1 else 0) := by
  unfold f_X1_goesOn
  by_cases h0 : x = 0
  · subst h0
    rw [if_pos (show nI 0 < (1 : Int32) by decide), gw_0z]
    rfl
  · rw [if_neg (show ¬ nI x < (1 : Int32) from nI_nlt (b := 1) (by omega) (by omega)), if_neg (l600f h6), nI_1]
    simp (disch := omega) only [ix_nI, cl_nI]
    rw [gw_sz ns no nr w (by omega)]
    by_cases a : ns x = ns (x + 1)
    · have e1 : ns x = w := by
        rcases hw with z | z
        · exact z
        · rw [a]; exact z
      have e2 : ns (x + 1) = w := by rw [← a]; exact e1
      rw [if_pos a, decide_eq_true e1, decide_eq_true e2, Bool.true_and, Bool.true_and]
      by_cases b : no x = no (x + 1)
      · rw [if_pos b, decide_eq_true b, Bool.true_and]
        by_cases c : nr x = nr (x + 1)
        · rw [if_pos c, decide_eq_true c]; rfl
        · rw [if_neg c, decide_eq_false c]; rfl
      · rw [if_neg b, decide_eq_false b]; rfl
    · rw [if_neg a]
      have : (decide (ns x = w) && (decide (ns (x + 1) = w) && (decide (no x = no (x + 1)) && decide (nr x = nr (x + 1))))) = false := by
        by_cases e1 : ns x = w
        · by_cases e2 : ns (x + 1) = w
          · exact absurd (e1.trans e2.symm) a
          · rw [decide_eq_false e2, Bool.false_and, Bool.and_false]
        · rw [decide_eq_false e1, Bool.false_and]
      rw [this]
      rfl
theorem goX5 {T F : Nat} {ns no nr nt nd ni zs : Nat → Int32} (hN : JN T F ns no nr nt nd ni zs) {w : Int32} (hw : w = 3 ∨ w = 4) {x : Nat} (h6 : x < 600) : f_X5_goesOn zs (nI (x + 1)) w = some (if gw ns no nr w (x + 1) = true then 1 else 0) := by
  unfold f_X5_goesOn
  by_cases h0 : x = 0
  · subst h0
    rw [if_pos (show nI (0 + 1) ≤ (1 : Int32) by decide), gw_0z]
    rfl
  · obtain ⟨a1, a2, a3, a4, a5, a6, a7, a8, -⟩ := hN x (by omega) (by omega)
    obtain ⟨b1, b2, b3, b4, b5, b6, b7, b8, -⟩ := hN (x + 1) (by omega) (by omega)
    rw [if_neg (show ¬ nI (x + 1) ≤ (1 : Int32) from nI_ge (a := 1) (b := x + 1) (by omega) (by omega)), nI_pred, n_nI, n_nI, nI_a0, nI_a0, nI_a4, nI_a4, nI_1, nI_1]
    simp (disch := omega) only [ix_nI, cl_nI]
    rw [a1, a2, b1, b2, gw_sz ns no nr w (by omega)]
    by_cases e2 : ns (x + 1) = w
    · by_cases e1 : ns x = w
      · rw [if_pos e2, if_pos e1, decide_eq_true e1, decide_eq_true e2, Bool.true_and, Bool.true_and]
        by_cases h3 : w = 3
        · subst h3
          rw [if_pos rfl, a6 (Or.inr e1), b6 (Or.inr e2), a7 (by rw [e1]; decide), b7 (by rw [e2]; decide)]
          rfl
        · have h4 : w = 4 := hw.resolve_left h3
          subst h4
          rw [if_neg (by decide), (a8 e1).1, (b8 e2).1]
          by_cases c : nr (x + 1) = nr x
          · rw [if_pos c, decide_eq_true c.symm, Bool.and_true]
            by_cases b : no (x + 1) = no x
            · rw [if_pos b, decide_eq_true b.symm]; rfl
            · rw [if_neg b, decide_eq_false (fun z => b z.symm)]; rfl
          · rw [if_neg c, decide_eq_false (show ¬ nr x = nr (x + 1) from fun z => c z.symm), Bool.and_false]; rfl
      · rw [if_pos e2, if_neg e1, decide_eq_false e1, Bool.false_and]; rfl
    · rw [if_neg e2, decide_eq_false e2, Bool.false_and, Bool.and_false]; rfl
def rs (ns no nr : Nat → Int32) (w : Int32) (n : Nat) : Bool := decide (ns n = w) && !gw ns no nr w n
theorem startsRow_eq {ns no nr : Nat → Int32} {w : Int32} {n : Nat} (h1 : 1 ≤ n) (h6 : n ≤ 600) : f_X1_startsRow ns no nr (nI n) w = some (if rs ns no nr w n = true then 1 else 0) := by
  obtain ⟨x, rfl⟩ : ∃ x, n = x + 1 := ⟨n - 1, by omega⟩
  unfold f_X1_startsRow rs
  rw [isNumber_t h1 h6, if_neg (by decide), ix_nI (by omega) (by omega), cl_nI (by omega), nI_pred]
  by_cases e : ns (x + 1) = w
  · rw [if_pos e, goX1 (by omega) (Or.inr e), sb_eq, decide_eq_true e, Bool.true_and]
    cases gw ns no nr w (x + 1)
    · rfl
    · rfl
  · rw [if_neg e, decide_eq_false e, Bool.false_and]; rfl
theorem rows1_loop (ns no nr : Nat → Int32) (w : Int32) : ∀ (m i n : Nat) (c : Int32), i + m = 601 → m < n → 1 ≤ i → f_X1_rows_4 w ns no nr n c (nI i) = some (c + nI (cnt (rs ns no nr w) i m)) := by
  intro m
  induction m with
  | zero =>
    intro i n c hi hn h1
    obtain ⟨n, rfl⟩ : ∃ z, n = z + 1 := ⟨n - 1, by omega⟩
    rw [f_X1_rows_4, if_pos (g600t (by omega) (by omega))]
    exact congrArg some (Int32.add_zero c).symm
  | succ m ih =>
    intro i n c hi hn h1
    obtain ⟨n, rfl⟩ : ∃ z, n = z + 1 := ⟨n - 1, by omega⟩
    rw [f_X1_rows_4, if_neg (g600f (by omega)), startsRow_eq h1 (by omega), sb_eq, nI_1]
    cases h : rs ns no nr w i
    · rw [if_pos (show (if false = true then (1 : Int32) else 0) = 0 from rfl), ih (i + 1) n c (by omega) (by omega) (by omega), cnt_s0 h]
    · rw [if_neg (show ¬ (if true = true then (1 : Int32) else 0) = 0 by decide), ih (i + 1) n (c + 1) (by omega) (by omega) (by omega), cnt_s1 h, ← add_cnt]
      rfl
theorem rows5_loop {T F : Nat} {ns no nr nt nd ni zs : Nat → Int32} (hN : JN T F ns no nr nt nd ni zs) : ∀ (m i n : Nat) (c : Int32), i + m = 601 → m < n → 1 ≤ i → f_X5_rows_4 zs n c (nI i) = some (c + nI (cnt (rs ns no nr 4) i m)) := by
  intro m
  induction m with
  | zero =>
    intro i n c hi hn h1
    obtain ⟨n, rfl⟩ : ∃ z, n = z + 1 := ⟨n - 1, by omega⟩
    rw [f_X5_rows_4, if_pos (g600t (by omega) (by omega))]
    exact congrArg some (Int32.add_zero c).symm
  | succ m ih =>
    intro i n c hi hn h1
    obtain ⟨n, rfl⟩ : ∃ z, n = z + 1 := ⟨n - 1, by omega⟩
    obtain ⟨x, rfl⟩ : ∃ x, i = x + 1 := ⟨i - 1, by omega⟩
    rw [f_X5_rows_4, if_neg (g600f (by omega)), n_nI, nI_a0, ix_nI (by omega) (by omega), cl_nI (by omega), (hN (x + 1) h1 (by omega)).1, goX5 hN (Or.inr rfl) (by omega), sb_eq, nI_1, Int32.add_zero]
    by_cases e : ns (x + 1) = 4
    · rw [if_pos e]
      cases h : gw ns no nr 4 (x + 1)
      · rw [if_pos (show (if false = true then (1 : Int32) else 0) = 0 from rfl), ih (x + 1 + 1) n (c + 1) (by omega) (by omega) (by omega), cnt_s1 (show rs ns no nr 4 (x + 1) = true by unfold rs; rw [decide_eq_true e, h]; rfl), ← add_cnt]
        rfl
      · rw [if_neg (show ¬ (if true = true then (1 : Int32) else 0) = 0 by decide), ih (x + 1 + 1) n c (by omega) (by omega) (by omega), cnt_s0 (show rs ns no nr 4 (x + 1) = false by unfold rs; rw [h]; exact Bool.and_false _)]
    · rw [if_neg e, ih (x + 1 + 1) n c (by omega) (by omega) (by omega), cnt_s0 (show rs ns no nr 4 (x + 1) = false by unfold rs; rw [decide_eq_false e]; rfl)]
theorem step_ix (a l : Int32) : (a + 1) + (l + (-1)) = a + l := by
  rw [Int32.add_assoc a 1, Int32.add_comm l (-1), ← Int32.add_assoc 1, show (1 : Int32) + (-1) = 0 by decide, Int32.zero_add]
theorem sr_loop {T F : Nat} {ns no nr nt nd ni zs : Nat → Int32} (hN : JN T F ns no nr nt nd ni zs) {w : Int32} (hw : w = 3 ∨ w = 4) (idx : Int32) : ∀ (m i n : Nat) (a l : Int32), i + m = 601 → m < n → 1 ≤ i → a + l = idx → (∃ j, i ≤ j ∧ j ≤ 600 ∧ ns j = w ∧ f_X1_startOfRow_5 w idx ns no nr n a (nI i) = some (nI j) ∧ f_X5_rowAt_5 w zs n l (nI i) = some (nI j)) ∨ (f_X1_startOfRow_5 w idx ns no nr n a (nI i) = some (-1) ∧ f_X5_rowAt_5 w zs n l (nI i) = some 601) := by
  intro m
  induction m with
  | zero =>
    intro i n a l hi hn h1 hal
    obtain ⟨n, rfl⟩ : ∃ z, n = z + 1 := ⟨n - 1, by omega⟩
    refine Or.inr ⟨?_, ?_⟩
    · rw [f_X1_startOfRow_5, if_pos (g600t (by omega) (by omega))]
    · rw [f_X5_rowAt_5, if_pos (g600t (by omega) (by omega))]
  | succ m ih =>
    intro i n a l hi hn h1 hal
    obtain ⟨n, rfl⟩ : ∃ z, n = z + 1 := ⟨n - 1, by omega⟩
    obtain ⟨x, rfl⟩ : ∃ x, i = x + 1 := ⟨i - 1, by omega⟩
    rw [f_X1_startOfRow_5, f_X5_rowAt_5, if_neg (g600f (by omega)), if_neg (g600f (by omega)), startsRow_eq h1 (by omega), n_nI, nI_a0, ix_nI (by omega) (by omega), cl_nI (by omega), (hN (x + 1) h1 (by omega)).1, goX5 hN hw (by omega), sb_eq, sb_eq, nI_1]
    have next : ∀ (a' l' : Int32), a' + l' = idx → (∃ j, x + 1 ≤ j ∧ j ≤ 600 ∧ ns j = w ∧ f_X1_startOfRow_5 w idx ns no nr n a' (nI (x + 1 + 1)) = some (nI j) ∧ f_X5_rowAt_5 w zs n l' (nI (x + 1 + 1)) = some (nI j)) ∨ (f_X1_startOfRow_5 w idx ns no nr n a' (nI (x + 1 + 1)) = some (-1) ∧ f_X5_rowAt_5 w zs n l' (nI (x + 1 + 1)) = some 601) := by
      intro a' l' h
      rcases ih (x + 1 + 1) n a' l' (by omega) (by omega) (by omega) h with ⟨j, j1, j2, j3, j4, j5⟩ | g
      · exact Or.inl ⟨j, by omega, j2, j3, j4, j5⟩
      · exact Or.inr g
    by_cases e : ns (x + 1) = w
    · rw [if_pos e]
      cases h : gw ns no nr w (x + 1)
      · have hr : rs ns no nr w (x + 1) = true := by unfold rs; rw [decide_eq_true e, h]; rfl
        rw [hr, if_neg (show ¬ (if true = true then (1 : Int32) else 0) = 0 by decide), if_pos (show (if false = true then (1 : Int32) else 0) = 0 from rfl)]
        by_cases h0 : l = 0
        · have h1' : a = idx := by rw [← hal, h0, Int32.add_zero]
          rw [if_pos h0, if_pos h1']
          exact Or.inl ⟨x + 1, Nat.le_refl _, by omega, e, rfl, rfl⟩
        · have h1' : ¬ a = idx := by
            intro z
            rw [← hal] at z
            exact h0 (Int32.add_eq_left.mp z.symm)
          rw [if_neg h0, if_neg h1']
          exact next (a + 1) (l + (-1)) (by rw [step_ix]; exact hal)
      · have hr : rs ns no nr w (x + 1) = false := by unfold rs; rw [h]; exact Bool.and_false _
        rw [hr, if_pos (show (if false = true then (1 : Int32) else 0) = 0 from rfl), if_neg (show ¬ (if true = true then (1 : Int32) else 0) = 0 by decide)]
        exact next a l hal
    · have hr : rs ns no nr w (x + 1) = false := by unfold rs; rw [decide_eq_false e]; rfl
      rw [if_neg e, hr, if_pos (show (if false = true then (1 : Int32) else 0) = 0 from rfl)]
      exact next a l hal
theorem rl_loop {T F : Nat} {ns no nr nt nd ni zs : Nat → Int32} (hN : JN T F ns no nr nt nd ni zs) {w : Int32} (hw : w = 3 ∨ w = 4) : ∀ (m x n : Nat), x + m = 600 → m < n → 1 ≤ x → ns x = w → ∃ r : Int32, f_X1_lastOfRow_2 600 ns no nr n (nI x) = some r ∧ f_X5_endOf_2 w zs n (nI x) = some r := by
  intro m
  induction m with
  | zero =>
    intro x n hx hn h1 e
    obtain ⟨n, rfl⟩ : ∃ z, n = z + 1 := ⟨n - 1, by omega⟩
    refine ⟨nI x, ?_, ?_⟩
    · rw [f_X1_lastOfRow_2, if_pos (l600t (by omega) (by omega))]
    · rw [f_X5_endOf_2, if_pos (l600t (by omega) (by omega))]
  | succ m ih =>
    intro x n hx hn h1 e
    obtain ⟨n, rfl⟩ : ∃ z, n = z + 1 := ⟨n - 1, by omega⟩
    rw [f_X1_lastOfRow_2, f_X5_endOf_2, if_neg (l600f (by omega)), if_neg (l600f (by omega)), goX1 (by omega) (Or.inl e), nI_1, goX5 hN hw (by omega), sb_eq, sb_eq]
    cases h : gw ns no nr w (x + 1)
    · rw [if_pos (show (if false = true then (1 : Int32) else 0) = 0 from rfl), if_pos (show (if false = true then (1 : Int32) else 0) = 0 from rfl)]
      exact ⟨nI x, rfl, rfl⟩
    · rw [if_neg (show ¬ (if true = true then (1 : Int32) else 0) = 0 by decide), if_neg (show ¬ (if true = true then (1 : Int32) else 0) = 0 by decide)]
      rw [gw_sz ns no nr w h1] at h
      have e2 : ns (x + 1) = w := by
        by_cases z : ns (x + 1) = w
        · exact z
        · rw [decide_eq_false z, Bool.false_and, Bool.and_false] at h
          exact absurd h (by decide)
      exact ih (x + 1) n (by omega) (by omega) (by omega) e2
theorem holesAt_ok {K : Nat} (hK : 1000 ≤ K) {d : Nat} {w : OW} {zs : Nat → Int32} (hJ : JO d w zs) (x1 x2 : Int32) : ∃ r : Int32, f_X4_holesAt K w x1 x2 = some r ∧ f_X5_holesAt K zs x1 x2 = some r := by
  obtain ⟨ns, no, nr, nt, nd, ni, nm, nf, cl, cc, cs, ct⟩ := w
  obtain ⟨T, F, C, Y, hJ⟩ := hJ
  obtain ⟨t5, t6, t3, t4, hN, -⟩ := id hJ
  have hN : JN T F ns no nr nt nd ni zs := hN
  have h10 : ¬ (1 : Int32) = 0 := by decide
  by_cases h0 : x1 < 0
  · refine ⟨-1, ?_, ?_⟩
    · unfold f_X4_holesAt
      rw [if_pos h0]
    · unfold f_X5_holesAt
      rw [if_pos h0]
  rcases in_cases x2 0 3 (by omega) (by omega) with ⟨g, g2⟩ | ⟨m, -, m3, rfl, g3⟩
  · refine ⟨-1, ?_, ?_⟩
    · unfold f_X4_holesAt
      rw [if_neg h0]
      by_cases z : x2 < 0
      · rw [if_pos z]
      · rw [if_neg z, if_neg (show ¬ x2 ≤ (3 : Int32) from nle_lt (g2.resolve_left z))]
    · unfold f_X5_holesAt
      rw [if_neg h0, if_pos (show f_X5_in x2 0 3 = 0 from g)]
  have g3 : f_X5_in (nI m) 0 3 = 1 := g3
  have hc : f_X4_holesAt K (ns, no, nr, nt, nd, ni, nm, nf, cl, cc, cs, ct) x1 (nI m) = (f_X1_tellOfRow K ns no nr 4 x1 (nI m)).bind fun r => some r := by
    unfold f_X4_holesAt
    rw [if_neg h0, if_neg (nI_pos (by omega)), if_pos (show nI m ≤ (3 : Int32) from nI_le (b := 3) m3 (by omega))]
  rw [hc]
  unfold f_X1_tellOfRow f_X5_holesAt f_X1_startOfRow f_X5_rowAt
  rw [if_neg h0, g3, if_neg h10]
  rcases sr_loop hN (Or.inr rfl) x1 600 1 K 0 x1 (by omega) (by omega) (by omega) (Int32.zero_add x1) with ⟨j, j1, j6, js, e1, e2⟩ | ⟨e1, e2⟩
  · rw [show f_X1_startOfRow_5 4 x1 ns no nr K 0 1 = _ from e1, show f_X5_rowAt_5 4 zs K x1 1 = _ from e2]
    rw [sb_eq, sb_eq, isNumber_t j1 j6, if_neg h10, if_pos (show nI j ≤ (600 : Int32) from nI_le (b := 600) j6 (by omega)), n_nI, nI_a4, nI_1, ix_nI (by omega) (by omega), ix_nI (by omega) (by omega), ix_nI (by omega) (by omega), ix_nI (by omega) (by omega), ix_nI (by omega) (by omega)]
    obtain ⟨q1, q2, q3, q4, q5, q6, q7, q8, -⟩ := hN j j1 j6
    rw [cl_nI (by omega), cl_nI (by omega), cl_nI (by omega), q2, (q8 js).1]
    obtain ⟨r, r1, r2⟩ := rl_loop hN (Or.inr rfl) (600 - j) j K (by omega) (by omega) j1 js
    match m, m3 with
    | 0, _ => exact ⟨nI j, rfl, rfl⟩
    | 1, _ =>
      refine ⟨r, ?_, ?_⟩
      · show ((f_X1_lastOfRow_2 600 ns no nr K (nI j)).bind fun r => some r).bind _ = _
        rw [r1]; rfl
      · show (f_X5_endOf_2 4 zs K (nI j)).bind _ = _
        rw [r2]; rfl
    | 2, _ => exact ⟨nr j, by show some (f_X4_orNotFound (nr j)) = _; rw [orn_pos (q8 js).2], rfl⟩
    | 3, _ =>
      refine ⟨f_X4_orNotFound (no j), rfl, ?_⟩
      show (if 0 ≤ no j then some (no j) else some (-4)) = _
      unfold f_X4_orNotFound
      split <;> rfl
    | k + 4, h => exact absurd h (by omega)
  · rw [show f_X1_startOfRow_5 4 x1 ns no nr K 0 1 = _ from e1, show f_X5_rowAt_5 4 zs K x1 1 = _ from e2]
    refine ⟨-4, ?_, ?_⟩
    · rw [sb_eq, if_pos (show f_X1_isNumber (-1) = 0 by decide)]; rfl
    · rw [sb_eq, if_neg (show ¬ (601 : Int32) ≤ 600 by decide)]
theorem freeAt_ok {K : Nat} (hK : 1000 ≤ K) {d : Nat} {w : OW} {zs : Nat → Int32} (hJ : JO d w zs) (x1 x2 : Int32) : ∃ r : Int32, f_X4_freeAt K w x1 x2 = some r ∧ f_X5_freeAt K zs x1 x2 = some r := by
  obtain ⟨ns, no, nr, nt, nd, ni, nm, nf, cl, cc, cs, ct⟩ := w
  obtain ⟨T, F, C, Y, hJ⟩ := hJ
  obtain ⟨t5, t6, t3, t4, hN, -⟩ := id hJ
  have hN : JN T F ns no nr nt nd ni zs := hN
  have h10 : ¬ (1 : Int32) = 0 := by decide
  by_cases h0 : x1 < 0
  · refine ⟨-1, ?_, ?_⟩
    · unfold f_X4_freeAt
      rw [if_pos h0]
    · unfold f_X5_freeAt
      rw [if_pos h0]
  rcases in_cases x2 0 1 (by omega) (by omega) with ⟨g, g2⟩ | ⟨m, -, m3, rfl, g3⟩
  · refine ⟨-1, ?_, ?_⟩
    · unfold f_X4_freeAt
      rw [if_neg h0]
      by_cases z : x2 < 0
      · rw [if_pos z]
      · rw [if_neg z, if_neg (show ¬ x2 ≤ (1 : Int32) from nle_lt (g2.resolve_left z))]
    · unfold f_X5_freeAt
      rw [if_neg h0, if_pos (show f_X5_in x2 0 1 = 0 from g)]
  have g3 : f_X5_in (nI m) 0 1 = 1 := g3
  have hc : f_X4_freeAt K (ns, no, nr, nt, nd, ni, nm, nf, cl, cc, cs, ct) x1 (nI m) = (f_X1_tellOfRow K ns no nr 3 x1 (nI m)).bind fun r => some r := by
    unfold f_X4_freeAt
    rw [if_neg h0, if_neg (nI_pos (by omega)), if_pos (show nI m ≤ (1 : Int32) from nI_le (b := 1) m3 (by omega))]
  rw [hc]
  unfold f_X1_tellOfRow f_X5_freeAt f_X1_startOfRow f_X5_rowAt
  rw [if_neg h0, g3, if_neg h10]
  rcases sr_loop hN (Or.inl rfl) x1 600 1 K 0 x1 (by omega) (by omega) (by omega) (Int32.zero_add x1) with ⟨j, j1, j6, js, e1, e2⟩ | ⟨e1, e2⟩
  · rw [show f_X1_startOfRow_5 3 x1 ns no nr K 0 1 = _ from e1, show f_X5_rowAt_5 3 zs K x1 1 = _ from e2]
    rw [sb_eq, sb_eq, isNumber_t j1 j6, if_neg h10, if_pos (show nI j ≤ (600 : Int32) from nI_le (b := 600) j6 (by omega))]
    obtain ⟨r, r1, r2⟩ := rl_loop hN (Or.inl rfl) (600 - j) j K (by omega) (by omega) j1 js
    match m, m3 with
    | 0, _ => exact ⟨nI j, rfl, rfl⟩
    | 1, _ =>
      refine ⟨r, ?_, ?_⟩
      · show ((f_X1_lastOfRow_2 600 ns no nr K (nI j)).bind fun r => some r).bind _ = _
        rw [r1]; rfl
      · show (f_X5_endOf_2 3 zs K (nI j)).bind _ = _
        rw [r2]; rfl
    | k + 2, h => exact absurd h (by omega)
  · rw [show f_X1_startOfRow_5 3 x1 ns no nr K 0 1 = _ from e1, show f_X5_rowAt_5 3 zs K x1 1 = _ from e2]
    refine ⟨-4, ?_, ?_⟩
    · rw [sb_eq, if_pos (show f_X1_isNumber (-1) = 0 by decide)]; rfl
    · rw [sb_eq, if_neg (show ¬ (601 : Int32) ≤ 600 by decide)]
theorem s_holesAt {K : Nat} (hK : 20000 ≤ K) : St_holesAt VI K := by
  intro k wo wt hs hp kp fp fr sc sl sp sv sf ss zs zb za zt zl zu zp zw zf zg zc hk hI x1 x2
  obtain ⟨r, u1, u2⟩ := holesAt_ok (K := K) (by omega) hI.1 x1 x2
  exact ⟨r, u1, u2, VI_next hI⟩
theorem s_freeAt {K : Nat} (hK : 20000 ≤ K) : St_freeAt VI K := by
  intro k wo wt hs hp kp fp fr sc sl sp sv sf ss zs zb za zt zl zu zp zw zf zg zc hk hI x1 x2
  obtain ⟨r, u1, u2⟩ := freeAt_ok (K := K) (by omega) hI.1 x1 x2
  exact ⟨r, u1, u2, VI_next hI⟩
