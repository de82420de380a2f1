/-! PURE SIDE: count. -/
theorem cnt_snoc (p : Nat → Bool) : ∀ (m i : Nat), cnt p i (m + 1) = cnt p i m + (if p (i + m) = true then 1 else 0) := by
  intro m
  induction m with
  | zero =>
    intro i
    show (if p i = true then 1 else 0) + 0 = 0 + (if p (i + 0) = true then 1 else 0)
    rw [Nat.add_zero, Nat.add_zero, Nat.zero_add]
  | succ m ih =>
    intro i
    have e : cnt p i (m + 1 + 1) = (if p i = true then 1 else 0) + cnt p (i + 1) (m + 1) := rfl
    have e2 : cnt p i (m + 1) = (if p i = true then 1 else 0) + cnt p (i + 1) m := rfl
    rw [e, e2, ih (i + 1), show i + 1 + m = i + (m + 1) by omega, Nat.add_assoc]
theorem wh_loop {ns zs : Nat → Int32} (hz : ∀ n, 1 ≤ n → n ≤ 600 → zs (48 + 5 * n) = ns n) : ∀ (m i n : Nat), i + m = 600 → m < n → ∃ r : Int32, f_X1_givenWithoutGap_2 ns n (nI i) = some r ∧ f_X5_whole_2 zs n (nI (i + 1)) = some r := by
  intro m
  induction m with
  | zero =>
    intro i n hi hn
    obtain ⟨n, rfl⟩ : ∃ z, n = z + 1 := ⟨n - 1, by omega⟩
    refine ⟨nI i, ?_, ?_⟩
    · rw [f_X1_givenWithoutGap_2, if_pos (l600t (by omega) (by omega))]
    · rw [f_X5_whole_2, if_pos (g600t (by omega) (by omega)), nI_pred]
  | succ m ih =>
    intro i n hi hn
    obtain ⟨n, rfl⟩ : ∃ z, n = z + 1 := ⟨n - 1, by omega⟩
    rw [f_X1_givenWithoutGap_2, f_X5_whole_2, if_neg (l600f (by omega)), if_neg (g600f (by omega)), n_nI, nI_a0, nI_1, nI_1, nI_pred]
    simp (disch := omega) only [ix_nI, cl_nI]
    rw [hz (i + 1) (by omega) (by omega)]
    by_cases h : ns (i + 1) = 2
    · rw [if_pos h, if_pos h]
      exact ih (i + 1) n (by omega) (by omega)
    · rw [if_neg h, if_neg h]
      exact ⟨nI i, rfl, rfl⟩
/-! late numbers, counted by turns and by numbers -/
def lp (ni : Nat → Int32) (t : Nat) : Bool := decide (0 < cnt (fun j => !decide (ni j ≤ ni t)) 0 t)
def lq (nt : Nat → Int32) (k : Nat) : Bool := decide (0 < cnt (fun j => !decide (nt j < 0) && !decide (nt k ≤ nt j)) (k + 1) (600 - k))
theorem lp_iff (ni : Nat → Int32) (t : Nat) : lp ni t = true ↔ ∃ j, j < t ∧ ¬ ni j ≤ ni t := by
  unfold lp
  rw [decide_eq_true_iff, any_iff]
  constructor
  · rintro ⟨j, -, j2, j3⟩
    refine ⟨j, by omega, fun z => ?_⟩
    rw [decide_eq_true z] at j3
    exact absurd j3 (by decide)
  · rintro ⟨j, j2, j3⟩
    refine ⟨j, by omega, by omega, ?_⟩
    rw [decide_eq_false j3]
    rfl
theorem lq_iff (nt : Nat → Int32) {k : Nat} (hk : k ≤ 600) : lq nt k = true ↔ ∃ j, k < j ∧ j ≤ 600 ∧ ¬ nt j < 0 ∧ ¬ nt k ≤ nt j := by
  unfold lq
  rw [decide_eq_true_iff, any_iff]
  constructor
  · rintro ⟨j, j1, j2, j3⟩
    refine ⟨j, by omega, by omega, fun z => ?_, fun z => ?_⟩
    · rw [decide_eq_true z] at j3
      exact absurd j3 (by simp)
    · rw [decide_eq_true z, Bool.and_comm] at j3
      exact absurd j3 (by simp)
  · rintro ⟨j, j1, j2, j3, j4⟩
    refine ⟨j, by omega, by omega, ?_⟩
    rw [decide_eq_false j3, decide_eq_false j4]
    rfl
theorem bool_f {b : Bool} (h : ¬ b = true) : b = false := by
  cases b
  · rfl
  · exact absurd rfl h
theorem imax_facts (a b : Int32) : a ≤ imax a b ∧ b ≤ imax a b ∧ (imax a b = a ∨ imax a b = b) := by
  unfold imax
  by_cases h : a < b
  · rw [if_pos h]
    exact ⟨Int32.le_of_lt h, Int32.le_refl b, Or.inr rfl⟩
  · rw [if_neg h]
    exact ⟨Int32.le_refl a, Int32.not_lt.mp h, Or.inl rfl⟩
theorem lt2_loop {ni : Nat → Int32} {T : Nat} (hT6 : T ≤ 600) (hni : ∀ j, j < T → ∃ n : Nat, 1 ≤ n ∧ n ≤ 600 ∧ ni j = nI n) : ∀ (m i n : Nat) (c g : Int32), i + m = T → m < n → (∀ s, s < i → ni s ≤ g) → (g = 0 ∨ ∃ s, s < i ∧ ni s = g) → f_X1_lateOnes_6 ni (nI T) n c g (nI i) = some (c + nI (cnt (lp ni) i m)) := by
  intro m
  induction m with
  | zero =>
    intro i n c g hi hn h1 h2
    obtain ⟨n, rfl⟩ : ∃ z, n = z + 1 := ⟨n - 1, by omega⟩
    have : i = T := by omega
    subst this
    have e : some c = some (c + nI (cnt (lp ni) i 0)) := congrArg some (Int32.add_zero c).symm
    rw [f_X1_lateOnes_6]
    by_cases h : (600 : Int32) ≤ nI i
    · rw [if_pos h]; exact e
    · rw [if_neg h, if_pos (nI_le (Nat.le_refl _) (by omega))]; exact e
  | succ m ih =>
    intro i n c g hi hn h1 h2
    obtain ⟨n, rfl⟩ : ∃ z, n = z + 1 := ⟨n - 1, by omega⟩
    obtain ⟨y, y1, y6, y2⟩ := hni i (by omega)
    obtain ⟨f1, f2, f3⟩ := imax_facts g (ni i)
    have n1 : ∀ s, s < i + 1 → ni s ≤ imax g (ni i) := by
      intro s hs
      by_cases e : s = i
      · subst e; exact f2
      · exact Int32.le_trans (h1 s (by omega)) f1
    have n2 : imax g (ni i) = 0 ∨ ∃ s, s < i + 1 ∧ ni s = imax g (ni i) := by
      rcases f3 with f3 | f3
      · rw [f3]
        rcases h2 with h2 | ⟨s, s1, s2⟩
        · exact Or.inl h2
        · exact Or.inr ⟨s, by omega, s2⟩
      · exact Or.inr ⟨i, by omega, f3.symm⟩
    rw [f_X1_lateOnes_6, if_neg (l600f (by omega)), if_neg (nI_ge (by omega) (by omega)), ix_nI (by omega) (by omega), ix_nI (by omega) (by omega), ix_nI (by omega) (by omega), cl_nI (by omega), nI_1]
    by_cases h : g ≤ ni i
    · have hf : lp ni i = false := by
        refine bool_f (fun z => ?_)
        obtain ⟨j, j1, j2⟩ := (lp_iff ni i).mp z
        exact j2 (Int32.le_trans (h1 j j1) h)
      rw [if_pos h, ih (i + 1) n c _ (by omega) (by omega) n1 n2, cnt_s0 hf]
    · have hf : lp ni i = true := by
        refine (lp_iff ni i).mpr ?_
        rcases h2 with h2 | ⟨s, s1, s2⟩
        · rw [h2, y2] at h
          exact absurd (nI_pos' (by omega)) h
        · exact ⟨s, s1, by rw [s2]; exact h⟩
      rw [if_neg h, ih (i + 1) n (c + 1) _ (by omega) (by omega) n1 n2, cnt_s1 hf, ← add_cnt]
      rfl
theorem lm_loop {nt zs : Nat → Int32} {T : Nat} (hT6 : T ≤ 600) (hz : ∀ n, 1 ≤ n → n ≤ 600 → zs (48 + 5 * n + 2) = nt n) (hT : ∀ n, 1 ≤ n → n ≤ 600 → nt n = (-1) ∨ ∃ j : Nat, j < T ∧ nt n = nI j) : ∀ (k n : Nat) (c l : Int32), k < n → k ≤ 600 → (∀ j, k < j → j ≤ 600 → ¬ nt j < 0 → l ≤ nt j) → (l = nI T ∨ ∃ j, k < j ∧ j ≤ 600 ∧ ¬ nt j < 0 ∧ nt j = l) → ¬ l < 0 → f_X5_lateMany_13 zs n c l (nI k) = some (c + nI (cnt (lq nt) 1 k)) := by
  intro k
  induction k with
  | zero =>
    intro n c l hn hk h1 h2 h3
    obtain ⟨n, rfl⟩ : ∃ z, n = z + 1 := ⟨n - 1, by omega⟩
    rw [f_X5_lateMany_13, if_pos (show nI 0 ≤ (0 : Int32) by decide)]
    exact congrArg some (Int32.add_zero c).symm
  | succ k ih =>
    intro n c l hn hk h1 h2 h3
    obtain ⟨n, rfl⟩ : ∃ z, n = z + 1 := ⟨n - 1, by omega⟩
    rw [f_X5_lateMany_13, if_neg (show ¬ nI (k + 1) ≤ (0 : Int32) from nI_nle (by omega) (by omega)), n_nI, nI_a2, ix_nI (by omega) (by omega), cl_nI (by omega), hz (k + 1) (by omega) hk, pk_m1, Int32.add_zero]
    have keep : (nt (k + 1) < 0 ∨ l ≤ nt (k + 1)) → (∀ j, k < j → j ≤ 600 → ¬ nt j < 0 → l ≤ nt j) ∧ (l = nI T ∨ ∃ j, k < j ∧ j ≤ 600 ∧ ¬ nt j < 0 ∧ nt j = l) := by
      intro hh
      refine ⟨fun j j1 j2 j3 => ?_, ?_⟩
      · by_cases e : j = k + 1
        · subst e; exact hh.resolve_left j3
        · exact h1 j (by omega) j2 j3
      · rcases h2 with h2 | ⟨j, j1, j2, j3⟩
        · exact Or.inl h2
        · exact Or.inr ⟨j, by omega, j2, j3⟩
    by_cases h : nt (k + 1) ≤ l
    · have hf : lq nt (1 + k) = false := by
        rw [Nat.add_comm 1 k]
        refine bool_f (fun z => ?_)
        obtain ⟨j, j1, j2, j3, j4⟩ := (lq_iff nt hk).mp z
        exact j4 (Int32.le_trans h (h1 j j1 j2 j3))
      rw [if_pos h, cnt_snoc, hf, if_neg (show ¬ false = true by decide), Nat.add_zero]
      by_cases h4 : nt (k + 1) < 0
      · rw [if_pos h4]
        exact ih n c l (by omega) (by omega) (keep (Or.inl h4)).1 (keep (Or.inl h4)).2 h3
      · rw [if_neg h4]
        by_cases h5 : l ≤ nt (k + 1)
        · rw [if_pos h5]
          exact ih n c l (by omega) (by omega) (keep (Or.inr h5)).1 (keep (Or.inr h5)).2 h3
        · rw [if_neg h5]
          refine ih n c _ (by omega) (by omega) (fun j j1 j2 j3 => ?_) (Or.inr ⟨k + 1, by omega, hk, h4, rfl⟩) h4
          by_cases e : j = k + 1
          · subst e; exact Int32.le_refl _
          · exact Int32.le_trans h (h1 j (by omega) j2 j3)
    · have h5 : l ≤ nt (k + 1) := Int32.le_of_lt (Int32.not_le.mp h)
      have h4 : ¬ nt (k + 1) < 0 := fun z => h (Int32.le_of_lt (Int32.lt_of_lt_of_le z (Int32.not_lt.mp h3)))
      have hf : lq nt (1 + k) = true := by
        rw [Nat.add_comm 1 k]
        refine (lq_iff nt hk).mpr ?_
        rcases h2 with h2 | ⟨j, j1, j2, j3, j4⟩
        · rcases hT (k + 1) (by omega) hk with z | ⟨j, j1, j2⟩
          · rw [z] at h4
            exact absurd (show ((-1 : Int32)) < 0 by decide) h4
          · rw [h2, j2] at h
            exact absurd (nI_le (by omega) (by omega)) h
        · exact ⟨j, j1, j2, j3, by rw [j4]; exact h⟩
      rw [if_neg h, if_neg h4, if_pos h5, ih n (c + 1) l (by omega) (by omega) (keep (Or.inr h5)).1 (keep (Or.inr h5)).2 h3, cnt_snoc, hf, if_pos rfl, Nat.add_comm (cnt (lq nt) 1 k) 1, ← add_cnt]
      rfl
def rp (nt : Nat → Int32) (p : Nat → Bool) (t n : Nat) : Bool := (decide (1 ≤ n) && decide (n ≤ 600)) && (!decide (nt n = (-1)) && (decide ((nt n).toNatClampNeg < t) && p (nt n).toNatClampNeg))
theorem rp_out {nt : Nat → Int32} {p : Nat → Bool} {t n : Nat} (h : ¬ (1 ≤ n ∧ n ≤ 600)) : rp nt p t n = false := by
  unfold rp
  by_cases h1 : 1 ≤ n
  · rw [decide_eq_false (show ¬ n ≤ 600 from fun z => h ⟨h1, z⟩), Bool.and_false, Bool.false_and]
  · rw [decide_eq_false h1, Bool.false_and, Bool.false_and]
theorem rp_m1 {nt : Nat → Int32} {p : Nat → Bool} {t n : Nat} (h : nt n = (-1)) : rp nt p t n = false := by
  unfold rp
  rw [decide_eq_true h, Bool.not_true, Bool.false_and, Bool.and_false]
theorem rp_at {nt : Nat → Int32} {p : Nat → Bool} {t n j : Nat} (h1 : 1 ≤ n) (h6 : n ≤ 600) (hj : j < 2 ^ 31) (h : nt n = nI j) : rp nt p t n = (decide (j < t) && p j) := by
  unfold rp
  rw [h, cl_nI hj, decide_eq_true h1, decide_eq_true h6, decide_eq_false (nI_m1 hj)]
  rfl
theorem rp_cnt {nt ni : Nat → Int32} {T : Nat} (hT6 : T ≤ 600) (p : Nat → Bool) (hni : ∀ j, j < T → ∃ n : Nat, 1 ≤ n ∧ n ≤ 600 ∧ ni j = nI n ∧ nt n = nI j) (hT : ∀ n, 1 ≤ n → n ≤ 600 → nt n = (-1) ∨ ∃ j : Nat, j < T ∧ nt n = nI j ∧ ni j = nI n) : ∀ t, t ≤ T → cnt (rp nt p t) 1 600 = cnt p 0 t := by
  intro t
  induction t with
  | zero =>
    intro _
    refine cnt_zero (fun n n1 n2 => ?_)
    rcases hT n n1 (by omega) with z | ⟨j, j1, j2, -⟩
    · exact rp_m1 z
    · rw [rp_at n1 (by omega) (by omega) j2, decide_eq_false (by omega), Bool.false_and]
  | succ t ih =>
    intro ht
    obtain ⟨y, y1, y6, y2, y3⟩ := hni t (by omega)
    have other : ∀ n, n ≠ y → rp nt p t n = rp nt p (t + 1) n := by
      intro n hn
      by_cases hb : 1 ≤ n ∧ n ≤ 600
      · rcases hT n hb.1 hb.2 with z | ⟨j, j1, j2, j3⟩
        · rw [rp_m1 z, rp_m1 z]
        · rw [rp_at hb.1 hb.2 (by omega) j2, rp_at hb.1 hb.2 (by omega) j2]
          have : j ≠ t := by
            intro e
            subst e
            rw [y2] at j3
            exact hn (nI_inj (by omega) (by omega) j3).symm
          by_cases hlt : j < t
          · rw [decide_eq_true hlt, decide_eq_true (show j < t + 1 by omega)]
          · rw [decide_eq_false hlt, decide_eq_false (show ¬ j < t + 1 by omega)]
      · rw [rp_out hb, rp_out hb]
    have a1 : rp nt p t y = false := by rw [rp_at y1 y6 (by omega) y3, decide_eq_false (Nat.lt_irrefl t), Bool.false_and]
    have a2 : rp nt p (t + 1) y = p t := by rw [rp_at y1 y6 (by omega) y3, decide_eq_true (Nat.lt_succ_self t), Bool.true_and]
    rw [cnt_snoc p t 0, ← ih (by omega), Nat.zero_add]
    cases hp : p t
    · rw [if_neg (show ¬ false = true by decide), Nat.add_zero (cnt (rp nt p t) 1 600)]
      refine cnt_congr (p := rp nt p (t + 1)) (q := rp nt p t) 600 1 (fun n n1 n2 => ?_)
      by_cases e : n = y
      · subst e
        rw [a1, a2, hp]
      · exact (other n e).symm
    · rw [if_pos rfl]
      exact cnt_one (k := y) a1 (by rw [a2, hp]) other 600 1 y1 (by omega)
theorem m1_le {x : Int32} (h : ¬ x < 0) : (-1) ≤ x := by
  refine Int32.le_iff_toInt_le.mpr ?_
  have h2 := Int32.le_iff_toInt_le.mp (Int32.not_lt.mp h)
  have e1 : ((-1 : Int32)).toInt = -1 := by decide
  have e0 : ((0 : Int32)).toInt = 0 := by decide
  rw [e0] at h2
  rw [e1]
  omega
theorem late_cnt {T F : Nat} {ns no nr nt nd ni zs : Nat → Int32} (hN : JN T F ns no nr nt nd ni zs) (hJT : JT T nt ni) : cnt (lp ni) 0 T = cnt (lq nt) 1 600 := by
  have hT6 := JT_le hJT
  have hT : ∀ n, 1 ≤ n → n ≤ 600 → nt n = (-1) ∨ ∃ j : Nat, j < T ∧ nt n = nI j ∧ ni j = nI n := by
    intro n n1 n6
    rcases (hN n n1 n6).2.2.2.2.2.2.2.2.2.2 with ⟨z, -⟩ | ⟨j, j1, j2, j3, -⟩
    · exact Or.inl z
    · exact Or.inr ⟨j, j1, j2, j3⟩
  rw [← rp_cnt hT6 (lp ni) hJT.1 hT T (Nat.le_refl T)]
  refine cnt_congr 600 1 (fun n n1 n2 => ?_)
  have n6 : n ≤ 600 := by omega
  rcases hT n n1 n6 with z | ⟨t, t1, t2, t3⟩
  · rw [rp_m1 z]
    refine (bool_f (fun y => ?_)).symm
    obtain ⟨k, -, -, k3, k4⟩ := (lq_iff nt n6).mp y
    rw [z] at k4
    exact k4 (m1_le k3)
  · rw [rp_at n1 n6 (by omega) t2, decide_eq_true t1, Bool.true_and]
    by_cases y : lp ni t = true
    · rw [y]
      refine ((lq_iff nt n6).mpr ?_).symm
      obtain ⟨s, s1, s2⟩ := (lp_iff ni t).mp y
      obtain ⟨q, q1, q6, q3, q4⟩ := hJT.1 s (by omega)
      refine ⟨q, ?_, q6, by rw [q4]; exact nI_pos (by omega), ?_⟩
      · rcases Nat.lt_or_ge n q with z | z
        · exact z
        · rw [q3, t3] at s2
          exact absurd (nI_le z (by omega)) s2
      · rw [q4, t2]; exact nI_ge (by omega) (by omega)
    · rw [bool_f y]
      refine (bool_f (fun v => y ?_)).symm
      obtain ⟨k, k1, k2, k3, k4⟩ := (lq_iff nt n6).mp v
      refine (lp_iff ni t).mpr ?_
      rcases hT k (by omega) k2 with z | ⟨s, s1, s2, s3⟩
      · rw [z] at k3
        exact absurd (show ((-1 : Int32)) < 0 by decide) k3
      · refine ⟨s, ?_, ?_⟩
        · rcases Nat.lt_or_ge s t with z | z
          · exact z
          · rw [t2, s2] at k4
            exact absurd (nI_le z (by omega)) k4
        · rw [s3, t3]; exact nI_ge (by omega) (by omega)
theorem twenty_off (r : Nat) : nI (20 + r) - 20 = nI r := by
  have := pk_sub (a := 20 + r) (b := 20) (by omega)
  rw [show 20 + r - 20 = r by omega] at this
  exact this
theorem count_ok {K : Nat} (hK : 1000 ≤ K) {d : Nat} {w : OW} {zs : Nat → Int32} (hJ : JO d w zs) (kp sl x1 : Int32) : ∃ r : Int32, f_X4_count K w kp sl x1 = some r ∧ f_X5_count K zs sl kp x1 = some r := by
  obtain ⟨ns, no, nr, nt, nd, ni, nm, nf, cl, cc, cs, ct⟩ := w
  obtain ⟨T, F, C, Y, hJ⟩ := hJ
  obtain ⟨⟨t5a, t5b⟩, ⟨t6, f1, f6⟩, ⟨t3a, t3b, t3c⟩, ⟨t4a, t4b, t4c⟩, hN, hT, hC, s0, s1, s2, -⟩ := id hJ
  have t3a : cc = nI C := t3a
  have t4a : ct = nI Y := t4a
  have t5a : nm = nI T := t5a
  have t6 : nf = nI F := t6
  have hN : JN T F ns no nr nt nd ni zs := hN
  have hT : JT T nt ni := hT
  have hT6 := JT_le hT
  have hz : ∀ n, 1 ≤ n → n ≤ 600 → zs (48 + 5 * n) = ns n := fun n n1 n6 => (hN n n1 n6).1
  have hm : ∀ s : Int32, f_X5_many K zs s = some (nI (cnt (fun k => decide (ns k = s)) 1 600)) := fun s => by rw [many_eq hK, cnt_same hz]
  by_cases c0 : x1 = 0
  · subst c0
    exact ⟨cc, rfl, by rw [t3a, ← t3b]; rfl⟩
  by_cases c1 : x1 = 1
  · subst c1
    exact ⟨ct, rfl, by rw [t4a, ← t4b]; rfl⟩
  by_cases c2 : x1 = 2
  · subst c2
    exact ⟨nm, rfl, by rw [t5a, ← t5b]; rfl⟩
  by_cases c3 : x1 = 3
  · subst c3
    refine ⟨nI (cnt (fun k => decide (ns k = 1)) 1 600), ?_, ?_⟩
    · show ((f_X1_inState K ns 1 600 1).bind fun r5 => some r5).bind _ = _
      rw [inState_eq hK]; rfl
    · show (f_X5_many K zs 1).bind _ = _
      rw [hm]; rfl
  by_cases c4 : x1 = 4
  · subst c4
    refine ⟨nI (cnt (fun k => decide (ns k = 3)) 1 600), ?_, ?_⟩
    · show ((f_X1_inState K ns 1 600 3).bind fun r5 => some r5).bind _ = _
      rw [inState_eq hK]; rfl
    · show (f_X5_many K zs 3).bind _ = _
      rw [hm]; rfl
  by_cases c5 : x1 = 5
  · subst c5
    refine ⟨nI (cnt (fun k => decide (ns k = 4)) 1 600), ?_, ?_⟩
    · show ((f_X1_inState K ns 1 600 4).bind fun r5 => some r5).bind _ = _
      rw [inState_eq hK]; rfl
    · show (f_X5_many K zs 4).bind _ = _
      rw [hm]; rfl
  by_cases c6 : x1 = 6
  · subst c6
    refine ⟨nf, rfl, ?_⟩
    show (f_X5_lowest K zs 0).bind _ = _
    rw [lo_new hK f1 f6 (fun n n1 n6 => ⟨(hN n n1 n6).1, (hN n n1 n6).2.2.2.2.1⟩), t6]; rfl
  by_cases c7 : x1 = 7
  · subst c7
    have e1 : f_X1_lateOnes K ni nm = some (0 + nI (cnt (lp ni) 0 T)) := by
      unfold f_X1_lateOnes
      rw [t5a]
      exact lt2_loop hT6 (fun j hj => by obtain ⟨n, n1, n6, n3, -⟩ := hT.1 j hj; exact ⟨n, n1, n6, n3⟩) T 0 K 0 0 (by omega) (by omega) (fun s hs => absurd hs (by omega)) (Or.inl rfl)
    have e2 : f_X5_lateMany K zs = some (0 + nI (cnt (lq nt) 1 600)) := by
      unfold f_X5_lateMany
      rw [show zs 5 = nI T from t5b]
      refine lm_loop hT6 (fun n n1 n6 => (hN n n1 n6).2.2.1) (fun n n1 n6 => ?_) 600 K 0 (nI T) (by omega) (by omega) (fun j j1 j2 => by omega) (Or.inl rfl) (nI_pos (by omega))
      rcases (hN n n1 n6).2.2.2.2.2.2.2.2.2.2 with ⟨z, -⟩ | ⟨j, j1, j2, -⟩
      · exact Or.inl z
      · exact Or.inr ⟨j, j1, j2⟩
    refine ⟨0 + nI (cnt (lp ni) 0 T), ?_, ?_⟩
    · show ((f_X1_lateOnes K ni nm).bind fun r5 => some r5).bind _ = _
      rw [e1]; rfl
    · show (f_X5_lateMany K zs).bind _ = _
      rw [e2, late_cnt hN hT]; rfl
  by_cases c8 : x1 = 8
  · subst c8
    obtain ⟨r, r1, r2⟩ := wh_loop hz 600 0 K (by omega) (by omega)
    refine ⟨r, ?_, ?_⟩
    · show ((f_X1_givenWithoutGap_2 ns K (nI 0)).bind fun r5 => some r5).bind _ = _
      rw [r1]; rfl
    · show (f_X5_whole_2 zs K (nI (0 + 1))).bind _ = _
      rw [r2]; rfl
  by_cases c9 : x1 = 9
  · subst c9
    refine ⟨0 + nI (cnt (rs ns no nr 4) 1 600), ?_, ?_⟩
    · show ((f_X1_rows_4 4 ns no nr K 0 (nI 1)).bind fun r5 => some r5).bind _ = _
      rw [rows1_loop ns no nr 4 600 1 K 0 (by omega) (by omega) (by omega)]; rfl
    · show (f_X5_rows_4 zs K 0 (nI 1)).bind _ = _
      rw [rows5_loop hN 600 1 K 0 (by omega) (by omega) (by omega)]; rfl
  by_cases c10 : x1 = 10
  · subst c10
    exact ⟨kp, rfl, rfl⟩
  by_cases c11 : x1 = 11
  · subst c11
    exact ⟨sl, rfl, rfl⟩
  have hc : f_X4_count K (ns, no, nr, nt, nd, ni, nm, nf, cl, cc, cs, ct) kp sl x1 = ((f_X2_settingAt cs x1).bind fun r29 => some r29).bind fun r3 => some r3 := by
    unfold f_X4_count f_X2_tally
    rw [if_neg c10, if_neg c11, if_neg c0, if_neg c1, if_neg c2, if_neg c3, if_neg c4, if_neg c5, if_neg c6, if_neg c7, if_neg c8, if_neg c9]
  rw [hc]
  unfold f_X5_count f_X2_settingAt
  rw [if_neg c0, if_neg c1, if_neg c2, if_neg c3, if_neg c4, if_neg c5, if_neg c6, if_neg c7, if_neg c8, if_neg c9, if_neg c10, if_neg c11]
  rcases in_cases x1 20 22 (by omega) (by omega) with ⟨g, g2⟩ | ⟨m, m1, m2, rfl, g3⟩
  · refine ⟨-1, ?_, by rw [if_pos (show f_X5_in x1 20 22 = 0 from g)]⟩
    by_cases z : x1 < 20
    · rw [if_pos z]; rfl
    · rw [if_neg z, if_pos]
      · rfl
      · have z2 : (22 : Int32) < x1 := g2.resolve_left z
        have z3 := Int32.lt_iff_toInt_lt.mp z2
        refine Int32.le_iff_toInt_le.mpr ?_
        have e2 : (22 : Int32).toInt = 22 := by decide
        have e3 : (23 : Int32).toInt = 23 := by decide
        rw [e2] at z3
        rw [e3]
        omega
  · obtain ⟨r, rfl⟩ : ∃ r, m = 20 + r := ⟨m - 20, by omega⟩
    have hr : r < 3 := by omega
    rw [if_neg (show ¬ nI (20 + r) < (20 : Int32) from nI_nlt (b := 20) (by omega) (by omega)), if_neg (show ¬ (23 : Int32) ≤ nI (20 + r) from nI_ge (b := 23) (by omega) (by omega)), if_neg (by rw [show f_X5_in (nI (20 + r)) 20 22 = 1 from g3]; decide), twenty_off, ix_nI (by omega) (by omega), ix_nI (by omega) (by omega), cl_nI (by omega)]
    match r, hr with
    | 0, _ => exact ⟨cs 0, rfl, congrArg some s0⟩
    | 1, _ => exact ⟨cs 1, rfl, congrArg some s1⟩
    | 2, _ => exact ⟨cs 2, rfl, congrArg some s2⟩
    | k + 3, h => exact absurd h (by omega)
theorem s_count {K : Nat} (hK : 20000 ≤ K) : St_count VI K := by
  intro k wo wt hs hp kp fp fr sc sl sp sv sf ss zs zb za zt zl zu zp zw zf zg zc hk hI x1
  obtain ⟨hJ, ⟨u, u1, e1, e2, u3⟩, ⟨L, l1, e3, e4, l2⟩⟩ := id hI
  obtain ⟨r, r1, r2⟩ := count_ok (K := K) (by omega) hJ kp sl x1
  refine ⟨r, r1, ?_, VI_next hI⟩
  rw [e4, e2, ← e3, ← e1]
  exact r2
