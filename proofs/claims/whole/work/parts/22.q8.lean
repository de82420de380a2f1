/-! PURE SIDE: numberOf. -/
theorem orn_neg : f_X4_orNotFound (-1) = (-4) := rfl
theorem orn_pos {x : Int32} (h : ¬ x < 0) : f_X4_orNotFound x = x := by
  unfold f_X4_orNotFound
  rw [if_pos (Int32.not_lt.mp h)]
theorem number_ok {K : Nat} (hK : 1000 ≤ K) {d : Nat} {w : OW} {zs : Nat → Int32} (hJ : JO d w zs) (x1 x2 : Int32) : ∃ r : Int32, f_X1_tell K (w.1) (w.2.1) (w.2.2.1) (w.2.2.2.1) (w.2.2.2.2.1) (w.2.2.2.2.2.1) x1 x2 = some r ∧ f_X5_numberOf K zs x1 x2 = some r := by
  obtain ⟨ns, no, nr, nt, nd, ni, nm, nf, cl, cc, cs, ct⟩ := w
  obtain ⟨T, F, C, Y, hJ⟩ := hJ
  obtain ⟨t5, t6, t3, t4, hN, hT, hC, hSs⟩ := id hJ
  show ∃ r : Int32, f_X1_tell K ns no nr nt nd ni x1 x2 = some r ∧ _
  have hN : JN T F ns no nr nt nd ni zs := hN
  have hT : JT T nt ni := hT
  have hT6 := JT_le hT
  rcases nI_num_cases x1 with ⟨h, h2⟩ | ⟨n, n1, n6, rfl, h, h2⟩
  · refine ⟨-1, ?_, ?_⟩
    · unfold f_X1_tell
      rw [h, if_pos rfl]
    · unfold f_X5_numberOf
      rw [h2, if_pos rfl]
  obtain ⟨q1, q2, q3, q4, q5, q6, q7, q8, q9, q10, q11⟩ := hN n n1 n6
  have h10 : ¬ (1 : Int32) = 0 := by decide
  rcases in_cases x2 0 5 (by omega) (by omega) with ⟨g, g2⟩ | ⟨m, g1, g2, rfl, g3⟩
  · have hne : ∀ c : Nat, c ≤ 5 → ¬ x2 = nI c := by
      intro c hc e
      subst e
      rcases g2 with z | z
      · exact nI_nlt (b := 0) (by omega) (by omega) z
      · exact nI_nlt hc (by omega) z
    refine ⟨-1, ?_, ?_⟩
    · unfold f_X1_tell
      rw [h, if_neg h10, if_neg (show ¬ x2 = 0 from hne 0 (by omega)), if_neg (show ¬ x2 = 1 from hne 1 (by omega)), if_neg (show ¬ x2 = 2 from hne 2 (by omega)), if_neg (show ¬ x2 = 3 from hne 3 (by omega)), if_neg (show ¬ x2 = 4 from hne 4 (by omega)), if_neg (show ¬ x2 = 5 from hne 5 (by omega))]
    · unfold f_X5_numberOf
      rw [h2, if_neg h10, if_pos (show f_X5_in x2 0 5 = 0 from g)]
  have g5 : ¬ f_X5_in (nI m) 0 5 = 0 := by rw [show f_X5_in (nI m) 0 5 = 1 from g3]; decide
  have bA : nt n = (-1) → nt n < 0 := fun z => by rw [z]; decide
  have hD : (nt n < 0 ∧ nt n = (-1) ∧ nd n = (-1)) ∨ (¬ nt n < 0 ∧ ∃ j, j < T ∧ nt n = nI j ∧ zs (48 + 5 * n + 3) = nd n ∧ ¬ nd n < 0) := by
    rcases q11 with ⟨z, z2⟩ | ⟨j, j1, j2, j3, j4, j5⟩
    · exact Or.inl ⟨bA z, z, z2⟩
    · exact Or.inr ⟨by rw [j2]; exact nI_pos (by omega), j, j1, j2, j4, j5⟩
  unfold f_X1_tell f_X5_numberOf
  rw [h, h2, if_neg h10, if_neg h10, if_neg g5, n_nI, nI_a0, nI_1, nI_a2, nI_a3, nI_a4]
  simp (disch := omega) only [ix_nI, cl_nI]
  rw [q1, q2, q3]
  match m, g2 with
  | 0, _ => exact ⟨ns n, rfl, by rcases hD with ⟨a, -⟩ | ⟨a, -⟩; rw [if_pos a]; rfl; rw [if_neg a]; rfl⟩
  | 1, _ =>
    refine ⟨f_X4_orNotFound (no n), rfl, ?_⟩
    rcases hD with ⟨a, -⟩ | ⟨a, -⟩
    · rw [if_pos a]
      show (if 0 ≤ no n then some (no n) else some (-4)) = _
      unfold f_X4_orNotFound
      split <;> rfl
    · rw [if_neg a]
      show (if 0 ≤ no n then some (no n) else some (-4)) = _
      unfold f_X4_orNotFound
      split <;> rfl
  | 2, _ =>
    refine ⟨f_X4_orNotFound (nt n), rfl, ?_⟩
    rcases hD with ⟨a, b, -⟩ | ⟨a, -⟩
    · rw [if_pos a, b]; rfl
    · rw [if_neg a, orn_pos a]; rfl
  | 3, _ =>
    refine ⟨f_X4_orNotFound (nd n), rfl, ?_⟩
    rcases hD with ⟨a, -, b⟩ | ⟨a, j, j1, j2, j4, j5⟩
    · rw [if_pos a, b]; rfl
    · rw [if_neg a, orn_pos j5, j4]; rfl
  | 4, _ =>
    refine ⟨f_X4_orNotFound (nr n), rfl, ?_⟩
    have e : (if ns n = 4 then some (zs (48 + 5 * n + 4)) else some (-4)) = some (f_X4_orNotFound (nr n)) := by
      by_cases hs : ns n = 4
      · rw [if_pos hs, (q8 hs).1, orn_pos (q8 hs).2]
      · rw [if_neg hs, q7 hs]; rfl
    rcases hD with ⟨a, -⟩ | ⟨a, -⟩
    · rw [if_pos a]; exact e
    · rw [if_neg a]; exact e
  | 5, _ =>
    rcases hD with ⟨a, b, -⟩ | ⟨a, j, j1, j2, -⟩
    · rw [if_pos a]
      refine ⟨-4, ?_, rfl⟩
      show (f_X1_tellLateness K nt ni (nI n)).bind _ = _
      unfold f_X1_tellLateness
      rw [h, if_neg h10, ix_nI (by omega) (by omega), cl_nI (by omega), if_pos b]
      rfl
    · rw [if_neg a]
      obtain ⟨r, r0, r1, r2⟩ := late_ok hK hN hT n1 n6 j1 j2
      refine ⟨r, ?_, ?_⟩
      · show (f_X1_tellLateness K nt ni (nI n)).bind _ = _
        rw [r1]; rfl
      · show (f_X5_isLate K zs (nI n)).bind _ = _
        rw [r2, sb_eq]
        rcases r0 with rfl | rfl <;> rfl
  | k + 6, h => exact absurd h (by omega)
theorem s_numberOf {K : Nat} (hK : 20000 ≤ K) : St_numberOf VI K := by
  intro k wo wt hs hp kp fp fr sc sl sp sv sf ss zs zb za zt zl zu zp zw zf zg zc hk hI x1 x2
  obtain ⟨r, u1, u2⟩ := number_ok (K := K) (by omega) hI.1 x1 x2
  refine ⟨r, ?_, u2, VI_next hI⟩
  unfold f_X4_numberOf
  rw [u1]
  rfl
