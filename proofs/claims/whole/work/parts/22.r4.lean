/-! PURE SIDE: the text, read by both sides (laid by hand, with a few rows by program). -/
theorem signAt_eq {sc : Nat → Int32} {L p : Nat} (hL : L ≤ 80) (hp : p < 2 ^ 31) : f_X3_signAt sc (nI L) (nI p) = some (if p < L then sc p else (-1)) := by
  unfold f_X3_signAt
  rw [if_neg (nI_pos hp)]
  by_cases h : p < L
  · rw [if_neg (nI_ge h (by omega)), if_neg (show ¬ (80 : Int32) ≤ nI p from nI_ge (b := 80) (by omega) (by omega)), ix_nI (by omega) (by omega), cl_nI (by omega), if_pos h]
  · rw [if_pos (nI_le (by omega) hp), if_neg h]
def hb (zt : Nat → Int32) (L a j : Nat) (w : Int32) : Bool := decide (a + j < L) && decide (zt (a + j) = w)
theorem has_eq {zt : Nat → Int32} {L a j : Nat} (hL : L ≤ 80) (ha : a ≤ 80) (hj : j ≤ 7) (w : Int32) : f_X5_has zt (nI L) (nI a) (nI j) w = some (if (decide (w = 0) || hb zt L a j w) = true then 1 else 0) := by
  unfold f_X5_has
  by_cases h0 : w = 0
  · rw [if_pos h0, decide_eq_true h0, Bool.true_or]; rfl
  · rw [if_neg h0, decide_eq_false h0, Bool.false_or, nI_add]
    unfold hb
    by_cases h : a + j < L
    · rw [if_neg (nI_ge h (by omega)), ix_nI (by omega) (by omega), cl_nI (by omega), decide_eq_true h, Bool.true_and]
      by_cases e : zt (a + j) = w
      · rw [if_pos e, decide_eq_true e]; rfl
      · rw [if_neg e, decide_eq_false e]; rfl
    · rw [if_pos (nI_le (by omega) (by omega)), decide_eq_false h, Bool.false_and]; rfl
set_option maxHeartbeats 1000000 in
theorem sees_eq {zt : Nat → Int32} {L a : Nat} (hL : L ≤ 80) (ha : a ≤ 80) (w0 w1 w2 w3 w4 w5 w6 : Int32) : f_X5_sees zt (nI L) (nI a) w0 w1 w2 w3 w4 w5 w6 = some (if ((decide (w0 = 0) || hb zt L a 0 w0) && ((decide (w1 = 0) || hb zt L a 1 w1) && ((decide (w2 = 0) || hb zt L a 2 w2) && ((decide (w3 = 0) || hb zt L a 3 w3) && ((decide (w4 = 0) || hb zt L a 4 w4) && ((decide (w5 = 0) || hb zt L a 5 w5) && ((decide (w6 = 0) || hb zt L a 6 w6)))))))) = true then (1, nI a + ((((((f_X5_one w0 + f_X5_one w1) + f_X5_one w2) + f_X5_one w3) + f_X5_one w4) + f_X5_one w5) + f_X5_one w6)) else (0, nI a + 0)) := by
  unfold f_X5_sees
  rw [show f_X5_has zt (nI L) (nI a) 0 w0 = _ from has_eq (j := 0) hL ha (by omega) w0, show f_X5_has zt (nI L) (nI a) 1 w1 = _ from has_eq (j := 1) hL ha (by omega) w1, show f_X5_has zt (nI L) (nI a) 2 w2 = _ from has_eq (j := 2) hL ha (by omega) w2, show f_X5_has zt (nI L) (nI a) 3 w3 = _ from has_eq (j := 3) hL ha (by omega) w3, show f_X5_has zt (nI L) (nI a) 4 w4 = _ from has_eq (j := 4) hL ha (by omega) w4, show f_X5_has zt (nI L) (nI a) 5 w5 = _ from has_eq (j := 5) hL ha (by omega) w5, show f_X5_has zt (nI L) (nI a) 6 w6 = _ from has_eq (j := 6) hL ha (by omega) w6]
  generalize (decide (w0 = 0) || hb zt L a 0 w0) = t0
  generalize (decide (w1 = 0) || hb zt L a 1 w1) = t1
  generalize (decide (w2 = 0) || hb zt L a 2 w2) = t2
  generalize (decide (w3 = 0) || hb zt L a 3 w3) = t3
  generalize (decide (w4 = 0) || hb zt L a 4 w4) = t4
  generalize (decide (w5 = 0) || hb zt L a 5 w5) = t5
  generalize (decide (w6 = 0) || hb zt L a 6 w6) = t6
  cases t0
  · rfl
  · skip
    cases t1
    · rfl
    · skip
      cases t2
      · rfl
      · skip
        cases t3
        · rfl
        · skip
          cases t4
          · rfl
          · skip
            cases t5
            · rfl
            · skip
              cases t6
              · rfl
              · rfl
def al (k : Nat) (zt : Nat → Int32) (L a : Nat) : Nat → Nat → Bool
  | _, 0 => true
  | i, m + 1 => hb zt L a i (sch k i) && al k zt L a (i + 1) m
theorem al_le {k : Nat} {zt : Nat → Int32} {L a : Nat} : ∀ (m i : Nat), al k zt L a i m = true → m = 0 ∨ a + i + m ≤ L := by
  intro m
  induction m with
  | zero => intro i _; exact Or.inl rfl
  | succ m ih =>
    intro i h
    unfold al at h
    rw [Bool.and_eq_true] at h
    have h1 : a + i < L := by
      have := h.1
      unfold hb at this
      rw [Bool.and_eq_true, decide_eq_true_iff] at this
      exact this.1
    rcases ih (i + 1) h.2 with z | z
    · exact Or.inr (by omega)
    · exact Or.inr (by omega)
theorem sch_ne : ∀ i, i < 11 → ∀ j, j < lenS.getD i 0 → ¬ sch i j = (-1) := by decide +kernel
theorem tw_loop {sc zt : Nat → Int32} {L a k : Nat} (hL : L ≤ 80) (ha : a ≤ 80) (hX : ∀ j, j < L → sc j = zt j) (hk : k < 11) : ∀ (m i n : Nat), i + m = lenS.getD k 0 → m < n → f_X3_takeWord_2 k sc (nI L) (nI a) n (nI i) = some (if al k zt L a i m = true then (1, nI (a + lenS.getD k 0)) else (0, nI a)) := by
  intro m
  have h8 := (s_all k hk).1
  induction m with
  | zero =>
    intro i n hi hn
    obtain ⟨n, rfl⟩ : ∃ z, n = z + 1 := ⟨n - 1, by omega⟩
    rw [f_X3_takeWord_2, show slen k = nI (lenS.getD k 0) from rfl, if_pos (nI_le (by omega) (by omega)), nI_add]
    rfl
  | succ m ih =>
    intro i n hi hn
    obtain ⟨n, rfl⟩ : ∃ z, n = z + 1 := ⟨n - 1, by omega⟩
    have hne := sch_ne k hk i (by omega)
    rw [f_X3_takeWord_2, show slen k = nI (lenS.getD k 0) from rfl, if_neg (nI_ge (by omega) (by omega)), nI_add, signAt_eq hL (by omega), sb_eq, ix_nI (by omega) (by omega), cl_nI (by omega), nI_1]
    have e : al k zt L a i (m + 1) = (hb zt L a i (sch k i) && al k zt L a (i + 1) m) := rfl
    rw [e]
    unfold hb
    by_cases h : a + i < L
    · rw [if_pos h, hX _ h, decide_eq_true h, Bool.true_and]
      by_cases h2 : zt (a + i) = sch k i
      · rw [if_pos h2, decide_eq_true h2, Bool.true_and]
        exact ih (i + 1) n (by omega) (by omega)
      · rw [if_neg h2, decide_eq_false h2, Bool.false_and]
        rfl
    · rw [if_neg h, if_neg (fun z => hne z.symm), decide_eq_false h, Bool.false_and, Bool.false_and]
      rfl
def WD (K : Nat) (sc zt : Nat → Int32) (L a k n : Nat) (w0 w1 w2 w3 w4 w5 w6 : Int32) : Prop := (f_X3_takeWord K sc (nI L) (nI a) k = some (0, nI a) ∧ f_X5_sees zt (nI L) (nI a) w0 w1 w2 w3 w4 w5 w6 = some (0, nI a)) ∨ (f_X3_takeWord K sc (nI L) (nI a) k = some (1, nI (a + n)) ∧ f_X5_sees zt (nI L) (nI a) w0 w1 w2 w3 w4 w5 w6 = some (1, nI (a + n)) ∧ a + n ≤ L)
theorem word_ok {K : Nat} (hK : 1000 ≤ K) {sc zt : Nat → Int32} {L a : Nat} (hL : L ≤ 80) (ha : a ≤ L) (hX : ∀ j, j < L → sc j = zt j) (k n : Nat) (hk : k < 11) (hn : lenS.getD k 0 = n) (h0 : 0 < n) (w0 w1 w2 w3 w4 w5 w6 : Int32) (e1 : ((decide (w0 = 0) || hb zt L a 0 w0) && ((decide (w1 = 0) || hb zt L a 1 w1) && ((decide (w2 = 0) || hb zt L a 2 w2) && ((decide (w3 = 0) || hb zt L a 3 w3) && ((decide (w4 = 0) || hb zt L a 4 w4) && ((decide (w5 = 0) || hb zt L a 5 w5) && ((decide (w6 = 0) || hb zt L a 6 w6)))))))) = al k zt L a 0 n) (e2 : ((((((f_X5_one w0 + f_X5_one w1) + f_X5_one w2) + f_X5_one w3) + f_X5_one w4) + f_X5_one w5) + f_X5_one w6) = nI n) : WD K sc zt L a k n w0 w1 w2 w3 w4 w5 w6 := by
  have h8 := (s_all k hk).1
  have c : f_X3_takeWord K sc (nI L) (nI a) k = some (if al k zt L a 0 n = true then (1, nI (a + n)) else (0, nI a)) := by
    have := tw_loop (sc := sc) (zt := zt) (L := L) (a := a) (k := k) hL (by omega) hX hk n 0 K (by omega) (by omega)
    rw [hn] at this
    exact this
  have m : f_X5_sees zt (nI L) (nI a) w0 w1 w2 w3 w4 w5 w6 = some (if al k zt L a 0 n = true then (1, nI (a + n)) else (0, nI a)) := by
    rw [sees_eq hL (by omega), e1, e2, nI_add, nI_a0]
  unfold WD
  rw [c, m]
  by_cases h : al k zt L a 0 n = true
  · rw [if_pos h]
    refine Or.inr ⟨rfl, rfl, ?_⟩
    rcases al_le n 0 h with z | z
    · omega
    · omega
  · rw [if_neg h]
    exact Or.inl ⟨rfl, rfl⟩
theorem word_0 {K : Nat} (hK : 1000 ≤ K) {sc zt : Nat → Int32} {L a : Nat} (hL : L ≤ 80) (ha : a ≤ L) (hX : ∀ j, j < L → sc j = zt j) : WD K sc zt L a 0 6 99 108 101 114 107 32 0 := word_ok hK hL ha hX 0 6 (by omega) rfl (by omega) 99 108 101 114 107 32 0 rfl (by decide)
theorem word_1 {K : Nat} (hK : 1000 ≤ K) {sc zt : Nat → Int32} {L a : Nat} (hL : L ≤ 80) (ha : a ≤ L) (hX : ∀ j, j < L → sc j = zt j) : WD K sc zt L a 1 4 97 115 107 32 0 0 0 := word_ok hK hL ha hX 1 4 (by omega) rfl (by omega) 97 115 107 32 0 0 0 rfl (by decide)
theorem word_2 {K : Nat} (hK : 1000 ≤ K) {sc zt : Nat → Int32} {L a : Nat} (hL : L ≤ 80) (ha : a ≤ L) (hX : ∀ j, j < L → sc j = zt j) : WD K sc zt L a 2 1 32 0 0 0 0 0 0 := word_ok hK hL ha hX 2 1 (by omega) rfl (by omega) 32 0 0 0 0 0 0 rfl (by decide)
theorem word_3 {K : Nat} (hK : 1000 ≤ K) {sc zt : Nat → Int32} {L a : Nat} (hL : L ≤ 80) (ha : a ≤ L) (hX : ∀ j, j < L → sc j = zt j) : WD K sc zt L a 3 7 102 111 114 103 101 116 32 := word_ok hK hL ha hX 3 7 (by omega) rfl (by omega) 102 111 114 103 101 116 32 (by rw [show al 3 zt L a 0 7 = (hb zt L a 0 (sch 3 0) && (hb zt L a 1 (sch 3 1) && (hb zt L a 2 (sch 3 2) && (hb zt L a 3 (sch 3 3) && (hb zt L a 4 (sch 3 4) && (hb zt L a 5 (sch 3 5) && (hb zt L a 6 (sch 3 6) && true))))))) from rfl, Bool.and_true]; rfl) (by decide)
theorem word_4 {K : Nat} (hK : 1000 ≤ K) {sc zt : Nat → Int32} {L a : Nat} (hL : L ≤ 80) (ha : a ≤ L) (hX : ∀ j, j < L → sc j = zt j) : WD K sc zt L a 4 5 98 97 99 107 32 0 0 := word_ok hK hL ha hX 4 5 (by omega) rfl (by omega) 98 97 99 107 32 0 0 rfl (by decide)
theorem word_5 {K : Nat} (hK : 1000 ≤ K) {sc zt : Nat → Int32} {L a : Nat} (hL : L ≤ 80) (ha : a ≤ L) (hX : ∀ j, j < L → sc j = zt j) : WD K sc zt L a 5 5 118 111 105 100 32 0 0 := word_ok hK hL ha hX 5 5 (by omega) rfl (by omega) 118 111 105 100 32 0 0 rfl (by decide)
theorem word_6 {K : Nat} (hK : 1000 ≤ K) {sc zt : Nat → Int32} {L a : Nat} (hL : L ≤ 80) (ha : a ≤ L) (hX : ∀ j, j < L → sc j = zt j) : WD K sc zt L a 6 5 99 108 111 115 101 0 0 := word_ok hK hL ha hX 6 5 (by omega) rfl (by omega) 99 108 111 115 101 0 0 rfl (by decide)
theorem word_7 {K : Nat} (hK : 1000 ≤ K) {sc zt : Nat → Int32} {L a : Nat} (hL : L ≤ 80) (ha : a ≤ L) (hX : ∀ j, j < L → sc j = zt j) : WD K sc zt L a 7 1 59 0 0 0 0 0 0 := word_ok hK hL ha hX 7 1 (by omega) rfl (by omega) 59 0 0 0 0 0 0 rfl (by decide)
theorem word_8 {K : Nat} (hK : 1000 ≤ K) {sc zt : Nat → Int32} {L a : Nat} (hL : L ≤ 80) (ha : a ≤ L) (hX : ∀ j, j < L → sc j = zt j) : WD K sc zt L a 8 7 99 97 114 101 102 117 108 := word_ok hK hL ha hX 8 7 (by omega) rfl (by omega) 99 97 114 101 102 117 108 (by rw [show al 8 zt L a 0 7 = (hb zt L a 0 (sch 8 0) && (hb zt L a 1 (sch 8 1) && (hb zt L a 2 (sch 8 2) && (hb zt L a 3 (sch 8 3) && (hb zt L a 4 (sch 8 4) && (hb zt L a 5 (sch 8 5) && (hb zt L a 6 (sch 8 6) && true))))))) from rfl, Bool.and_true]; rfl) (by decide)
theorem word_9 {K : Nat} (hK : 1000 ≤ K) {sc zt : Nat → Int32} {L a : Nat} (hL : L ≤ 80) (ha : a ≤ L) (hX : ∀ j, j < L → sc j = zt j) : WD K sc zt L a 9 4 108 97 122 121 0 0 0 := word_ok hK hL ha hX 9 4 (by omega) rfl (by omega) 108 97 122 121 0 0 0 rfl (by decide)
theorem word_10 {K : Nat} (hK : 1000 ≤ K) {sc zt : Nat → Int32} {L a : Nat} (hL : L ≤ 80) (ha : a ≤ L) (hX : ∀ j, j < L → sc j = zt j) : WD K sc zt L a 10 6 100 114 101 97 109 121 0 := word_ok hK hL ha hX 10 6 (by omega) rfl (by omega) 100 114 101 97 109 121 0 rfl (by decide)
theorem num_loop {sc zt : Nat → Int32} {L : Nat} (hL : L ≤ 80) (hX : ∀ j, j < L → sc j = zt j) : ∀ (j i n : Nat) (v : Int32) (a : Nat), i + j = 3 → j < n → a ≤ L → (v = (-1) ∨ ∃ w : Nat, w < 10 ^ i ∧ v = nI w) → ∃ (v' : Int32) (a' : Nat), f_X3_takeNumber_4 sc (nI L) n v (nI i) (nI a) = some (v', nI a') ∧ f_X5_number_4 zt (nI L) n v (nI i) (nI a) = some (v', nI a') ∧ a ≤ a' ∧ a' ≤ L ∧ (v' = (-1) ∨ ¬ v' < 0) := by
  intro j
  induction j with
  | zero =>
    intro i n v a hi hn ha hv
    obtain ⟨n, rfl⟩ : ∃ z, n = z + 1 := ⟨n - 1, by omega⟩
    have : i = 3 := by omega
    subst this
    refine ⟨v, a, ?_, ?_, Nat.le_refl a, ha, ?_⟩
    · rw [f_X3_takeNumber_4, if_pos (show (3 : Int32) ≤ nI 3 by decide)]
    · rw [f_X5_number_4, if_pos (show (3 : Int32) ≤ nI 3 by decide)]
    · rcases hv with hv | ⟨w, w1, w2⟩
      · exact Or.inl hv
      · exact Or.inr (by rw [w2]; exact nI_pos (by omega))
  | succ j ih =>
    intro i n v a hi hn ha hv
    obtain ⟨n, rfl⟩ : ∃ z, n = z + 1 := ⟨n - 1, by omega⟩
    have hp : 10 ^ i ≤ 10 ^ 2 := Nat.pow_le_pow_right (by omega) (by omega)
    have hp2 : 10 ^ (i + 1) = 10 ^ i * 10 := Nat.pow_succ 10 i
    have h3 : ¬ (3 : Int32) ≤ nI i := nI_ge (b := 3) (by omega) (by omega)
    have hv2 : v = (-1) ∨ ¬ v < 0 := by
      rcases hv with hv | ⟨w, w1, w2⟩
      · exact Or.inl hv
      · exact Or.inr (by rw [w2]; exact nI_pos (by omega))
    rw [f_X3_takeNumber_4, f_X5_number_4, if_neg h3, if_neg h3, signAt_eq hL (by omega), sb_eq, sb_eq]
    by_cases h : a < L
    · rw [if_pos h, if_neg (nI_ge h (by omega)), ix_nI (by omega) (by omega), ix_nI (by omega) (by omega), ix_nI (by omega) (by omega), cl_nI (by omega), hX a h]
      rcases in_cases (zt a) 48 57 (by omega) (by omega) with ⟨g, g2⟩ | ⟨m, m1, m2, g3, g4⟩
      · have hd : f_X3_isDigit (zt a) = 0 := by
          unfold f_X3_isDigit
          rcases g2 with z | z
          · rw [if_pos (show zt a < 48 from z)]
          · by_cases y : zt a < 48
            · rw [if_pos y]
            · rw [if_neg y, if_pos (show (57 : Int32) < zt a from z)]
        rw [if_pos hd, if_pos (show f_X5_in (zt a) 48 57 = 0 from g)]
        exact ⟨v, a, rfl, rfl, Nat.le_refl a, ha, hv2⟩
      · have g4 : f_X5_in (zt a) 48 57 = 1 := g4
        have hd : f_X3_isDigit (zt a) = 1 := by
          unfold f_X3_isDigit
          rw [g3, if_neg (show ¬ nI m < (48 : Int32) from nI_nlt (b := 48) m1 (by omega)), if_neg (show ¬ (57 : Int32) < nI m from nI_nlt (a := 57) m2 (by omega))]
        rw [hd, g4, if_neg (by decide), if_neg (by decide), nI_1, nI_1, g3]
        have e48 : nI m - 48 = nI (m - 48) := pk_sub (a := m) (b := 48) m1
        rcases hv with hv | ⟨w, w1, w2⟩
        · subst hv
          have c1 : imax (-1) 0 * 10 + (nI m - 48) = nI (m - 48) := by
            rw [e48, show imax (-1) 0 * 10 = (0 : Int32) by decide, Int32.zero_add]
          have c2 : (0 + nI m) - 48 = nI (m - 48) := by rw [Int32.zero_add, e48]
          rw [c1, c2, if_neg (show ¬ (0 : Int32) ≤ (-1) by decide)]
          obtain ⟨v', a', r1, r2, r3, r4, r5⟩ := ih (i + 1) n (nI (m - 48)) (a + 1) (by omega) (by omega) (by omega) (Or.inr ⟨m - 48, by
            have : 0 < 10 ^ i := Nat.pow_pos (by omega)
            omega, rfl⟩)
          exact ⟨v', a', r1, r2, by omega, r4, r5⟩
        · subst w2
          have c0 : imax (nI w) 0 = nI w := by
            have := imax_nI (a := w) (b := 0) (by omega) (by omega)
            rw [Nat.max_eq_left (by omega)] at this
            exact this
          have c1 : imax (nI w) 0 * 10 + (nI m - 48) = nI (w * 10 + (m - 48)) := by
            rw [c0, e48, show nI w * 10 = nI (w * 10) from pk_mul w 10, nI_add]
          have c2 : ((10 * nI w) + nI m) - 48 = nI (w * 10 + (m - 48)) := by
            rw [show 10 * nI w = nI (10 * w) from pk_mul 10 w, nI_add]
            have := pk_sub (a := 10 * w + m) (b := 48) (by omega)
            rw [show 10 * w + m - 48 = w * 10 + (m - 48) by omega] at this
            exact this
          rw [c1, c2, if_pos (nI_pos' (by omega))]
          obtain ⟨v', a', r1, r2, r3, r4, r5⟩ := ih (i + 1) n (nI (w * 10 + (m - 48))) (a + 1) (by omega) (by omega) (by omega) (Or.inr ⟨w * 10 + (m - 48), by omega, rfl⟩)
          exact ⟨v', a', r1, r2, by omega, r4, r5⟩
    · rw [if_neg h, if_pos (nI_le (by omega) (by omega)), if_pos (show f_X3_isDigit (-1) = 0 by decide)]
      exact ⟨v, a, rfl, rfl, Nat.le_refl a, ha, hv2⟩
theorem num_ok {K : Nat} (hK : 1000 ≤ K) {sc zt : Nat → Int32} {L a : Nat} (hL : L ≤ 80) (ha : a ≤ L) (hX : ∀ j, j < L → sc j = zt j) : ∃ (v : Int32) (b : Nat), f_X3_takeNumber K sc (nI L) (nI a) = some (v, nI b) ∧ f_X5_number K zt (nI L) (nI a) = some (v, nI b) ∧ a ≤ b ∧ b ≤ L ∧ (v = (-1) ∨ ¬ v < 0) := num_loop hL hX 3 0 K (-1) a (by omega) (by omega) ha (Or.inl rfl)
theorem n10 : ¬ (1 : Int32) = 0 := by decide
theorem kind_ok {K : Nat} (hK : 1000 ≤ K) {sc zt : Nat → Int32} {L a : Nat} (hL : L ≤ 80) (ha : a ≤ L) (hX : ∀ j, j < L → sc j = zt j) : (f_X3_takeKind K sc (nI L) (nI a) = some (-1, nI a) ∧ f_X5_kindAt zt (nI L) (nI a) = some (-1, nI a)) ∨ ∃ (q : Int32) (b : Nat), (q = 0 ∨ q = 1 ∨ q = 2) ∧ f_X3_takeKind K sc (nI L) (nI a) = some (q, nI b) ∧ f_X5_kindAt zt (nI L) (nI a) = some (q, nI b) ∧ a < b ∧ b ≤ L := by
  unfold f_X3_takeKind f_X5_kindAt
  rcases word_8 hK hL ha hX with ⟨c0, m0⟩ | ⟨c0, m0, b0⟩
  · rw [c0, m0, sb_eq, sb_eq]
    dsimp only
    rw [if_pos rfl, if_pos rfl]
    rcases word_9 hK hL ha hX with ⟨c1, m1⟩ | ⟨c1, m1, b1⟩
    · rw [c1, m1, sb_eq, sb_eq]
      dsimp only
      rw [if_pos rfl, if_pos rfl]
      rcases word_10 hK hL ha hX with ⟨c2, m2⟩ | ⟨c2, m2, b2⟩
      · rw [c2, m2]
        exact Or.inl ⟨rfl, rfl⟩
      · rw [c2, m2]
        exact Or.inr ⟨2, a + 6, Or.inr (Or.inr rfl), rfl, rfl, by omega, b2⟩
    · rw [c1, m1]
      exact Or.inr ⟨1, a + 4, Or.inr (Or.inl rfl), rfl, rfl, by omega, b1⟩
  · rw [c0, m0]
    exact Or.inr ⟨0, a + 7, Or.inl rfl, rfl, rfl, by omega, b0⟩
def R5 : Type := Int32 × Int32 × Int32 × Int32 × Int32
def RF (c m : Option (Int32 × Int32 × Int32 × Int32 × Int32)) (L a : Nat) : Prop := (∃ y sv sf ss y' w f g : Int32, c = some (0, y, sv, sf, ss) ∧ m = some (0, y', w, f, g)) ∨ (∃ (b : Nat) (w f s g : Int32), a < b ∧ b ≤ L ∧ c = some (1, nI b, w, f, s) ∧ m = some (1, nI b, w, f, g) ∧ ((w = 0 ∧ (f = 0 ∨ f = 1 ∨ f = 2)) ∨ (w = 1 ∧ s = g) ∨ w = 2 ∨ w = 3 ∨ w = 4 ∨ w = 5))
theorem read_ok {K : Nat} (hK : 1000 ≤ K) {sc zt : Nat → Int32} {L a : Nat} (hL : L ≤ 80) (ha : a ≤ L) (hX : ∀ j, j < L → sc j = zt j) (sv : Int32) : RF (f_X3_readCommand K sc (nI L) (nI a) sv) (f_X5_isForm K zt (nI L) (nI a)) L a := by
  unfold f_X3_readCommand f_X5_isForm f_X5_wordAt
  rcases word_0 hK hL ha hX with ⟨c0, m0⟩ | ⟨c0, m0, b0⟩
  rotate_left
  · rw [c0, m0, sb_eq, sb_eq]
    dsimp only
    rw [if_neg n10, if_neg n10]
    rw [sb_eq]
    dsimp only
    rw [if_pos (show (0 : Int32) ≤ 0 by decide)]
    rw [if_pos rfl]
    rcases kind_ok hK hL b0 hX with ⟨d1, d2⟩ | ⟨q, b, q1, d1, d2, d3, d4⟩
    · rw [d1, d2]
      exact Or.inl ⟨_, _, _, _, _, _, _, _, rfl, rfl⟩
    · have hq : ¬ q < 0 := by rcases q1 with rfl | rfl | rfl <;> decide
      have hq2 : ¬ q = (-1) := by rcases q1 with rfl | rfl | rfl <;> decide
      rw [d1, d2, sb_eq, sb_eq]
      dsimp only
      rw [if_neg hq2, if_neg hq, if_neg (show ¬ (0 : Int32) = 1 by decide), if_neg hq]
      rcases word_7 hK hL d4 hX with ⟨c7, m7⟩ | ⟨c7, m7, b7⟩
      · rw [c7, m7]
        exact Or.inl ⟨_, _, _, _, _, _, _, _, rfl, rfl⟩
      · rw [c7, m7]
        exact Or.inr ⟨b + 1, 0, q, 0, 1, by omega, b7, rfl, rfl, Or.inl ⟨rfl, q1⟩⟩
  rw [c0, m0, sb_eq, sb_eq]
  dsimp only
  rw [if_pos rfl, if_pos rfl]
  rcases word_1 hK hL ha hX with ⟨c1, m1⟩ | ⟨c1, m1, b1⟩
  rotate_left
  · rw [c1, m1, sb_eq, sb_eq]
    dsimp only
    rw [if_neg n10, if_neg n10]
    rw [sb_eq]
    dsimp only
    rw [if_pos (show (0 : Int32) ≤ 1 by decide)]
    rw [if_neg n10, if_neg (show ¬ (5 : Int32) ≤ 1 by decide)]
    obtain ⟨v, b, d1, d2, d3, d4, d5⟩ := num_ok hK hL b1 hX
    rw [d1, d2, sb_eq, sb_eq]
    dsimp only
    rcases d5 with hv | hv
    · subst hv
      rw [if_pos (show (-1 : Int32) < 0 by decide), if_pos (show (-1 : Int32) < 0 by decide)]
      rcases word_2 hK hL d4 hX with ⟨c2, -⟩ | ⟨c2, -, b2⟩
      · rw [c2]
        exact Or.inl ⟨_, _, _, _, _, _, _, _, rfl, rfl⟩
      · obtain ⟨v2, e, e1, -⟩ := num_ok hK hL b2 hX
        rw [c2, sb_eq]
        dsimp only
        rw [if_neg n10, e1]
        exact Or.inl ⟨_, _, _, _, _, _, _, _, rfl, rfl⟩
    · have hv2 : ¬ v = (-1) := fun z => hv (by rw [z]; decide)
      rw [if_neg hv, if_pos rfl]
      rcases word_2 hK hL d4 hX with ⟨c2, m2⟩ | ⟨c2, m2, b2⟩
      · rw [c2, m2, sb_eq, sb_eq]
        dsimp only
        rw [if_pos rfl, if_pos rfl, if_neg hv2, if_neg hv]
        exact Or.inl ⟨_, _, _, _, _, _, _, _, rfl, rfl⟩
      · obtain ⟨v2, e, e1, e2, e3, e4, e5⟩ := num_ok hK hL b2 hX
        rw [c2, m2, sb_eq, sb_eq]
        dsimp only
        rw [if_neg n10, if_neg n10, e1, e2, sb_eq, sb_eq]
        dsimp only
        rw [if_neg hv2, if_neg hv]
        rcases e5 with hw | hw
        · subst hw
          rw [if_pos rfl, if_pos (show (-1 : Int32) < 0 by decide)]
          exact Or.inl ⟨_, _, _, _, _, _, _, _, rfl, rfl⟩
        · have hw2 : ¬ v2 = (-1) := fun z => hw (by rw [z]; decide)
          rw [if_neg hw2, if_neg hw]
          rcases word_7 hK hL e4 hX with ⟨c7, m7⟩ | ⟨c7, m7, b7⟩
          · rw [c7, m7]
            exact Or.inl ⟨_, _, _, _, _, _, _, _, rfl, rfl⟩
          · rw [c7, m7]
            exact Or.inr ⟨e + 1, 1, v, v2, v2, by omega, b7, rfl, rfl, Or.inr (Or.inl ⟨rfl, rfl⟩)⟩
  rw [c1, m1, sb_eq, sb_eq]
  dsimp only
  rw [if_pos rfl, if_pos rfl]
  rcases word_3 hK hL ha hX with ⟨c3, m3⟩ | ⟨c3, m3, b3⟩
  rotate_left
  · rw [c3, m3, sb_eq, sb_eq]
    dsimp only
    rw [if_neg n10, if_neg n10]
    rw [sb_eq]
    dsimp only
    rw [if_pos (show (0 : Int32) ≤ 2 by decide)]
    rw [if_neg (show ¬ (2 : Int32) = 0 by decide), if_neg (show ¬ (5 : Int32) ≤ 2 by decide)]
    obtain ⟨v, b, d1, d2, d3, d4, d5⟩ := num_ok hK hL b3 hX
    rw [d1, d2, sb_eq, sb_eq]
    dsimp only
    rcases d5 with hv | hv
    · subst hv
      rw [if_pos (show (-1 : Int32) < 0 by decide), if_pos (show (-1 : Int32) < 0 by decide), if_pos rfl]
      exact Or.inl ⟨_, _, _, _, _, _, _, _, rfl, rfl⟩
    · have hv2 : ¬ v = (-1) := fun z => hv (by rw [z]; decide)
      rw [if_neg hv2, if_neg hv, if_neg (show ¬ (2 : Int32) = 1 by decide), if_neg hv]
      rcases word_7 hK hL d4 hX with ⟨c7, m7⟩ | ⟨c7, m7, b7⟩
      · rw [c7, m7]
        exact Or.inl ⟨_, _, _, _, _, _, _, _, rfl, rfl⟩
      · rw [c7, m7]
        exact Or.inr ⟨b + 1, 2, v, 0, 1, by omega, b7, rfl, rfl, Or.inr (Or.inr (Or.inl rfl))⟩
  rw [c3, m3, sb_eq, sb_eq]
  dsimp only
  rw [if_pos rfl, if_pos rfl]
  rcases word_4 hK hL ha hX with ⟨c4, m4⟩ | ⟨c4, m4, b4⟩
  rotate_left
  · rw [c4, m4, sb_eq, sb_eq]
    dsimp only
    rw [if_neg n10, if_neg n10]
    rw [sb_eq]
    dsimp only
    rw [if_pos (show (0 : Int32) ≤ 3 by decide)]
    rw [if_neg (show ¬ (3 : Int32) = 0 by decide), if_neg (show ¬ (5 : Int32) ≤ 3 by decide)]
    obtain ⟨v, b, d1, d2, d3, d4, d5⟩ := num_ok hK hL b4 hX
    rw [d1, d2, sb_eq, sb_eq]
    dsimp only
    rcases d5 with hv | hv
    · subst hv
      rw [if_pos (show (-1 : Int32) < 0 by decide), if_pos (show (-1 : Int32) < 0 by decide), if_pos rfl]
      exact Or.inl ⟨_, _, _, _, _, _, _, _, rfl, rfl⟩
    · have hv2 : ¬ v = (-1) := fun z => hv (by rw [z]; decide)
      rw [if_neg hv2, if_neg hv, if_neg (show ¬ (3 : Int32) = 1 by decide), if_neg hv]
      rcases word_7 hK hL d4 hX with ⟨c7, m7⟩ | ⟨c7, m7, b7⟩
      · rw [c7, m7]
        exact Or.inl ⟨_, _, _, _, _, _, _, _, rfl, rfl⟩
      · rw [c7, m7]
        exact Or.inr ⟨b + 1, 3, v, 0, 1, by omega, b7, rfl, rfl, Or.inr (Or.inr (Or.inr (Or.inl rfl)))⟩
  rw [c4, m4, sb_eq, sb_eq]
  dsimp only
  rw [if_pos rfl, if_pos rfl]
  rcases word_5 hK hL ha hX with ⟨c5, m5⟩ | ⟨c5, m5, b5⟩
  rotate_left
  · rw [c5, m5, sb_eq, sb_eq]
    dsimp only
    rw [if_neg n10, if_neg n10]
    rw [sb_eq]
    dsimp only
    rw [if_pos (show (0 : Int32) ≤ 4 by decide)]
    rw [if_neg (show ¬ (4 : Int32) = 0 by decide), if_neg (show ¬ (5 : Int32) ≤ 4 by decide)]
    obtain ⟨v, b, d1, d2, d3, d4, d5⟩ := num_ok hK hL b5 hX
    rw [d1, d2, sb_eq, sb_eq]
    dsimp only
    rcases d5 with hv | hv
    · subst hv
      rw [if_pos (show (-1 : Int32) < 0 by decide), if_pos (show (-1 : Int32) < 0 by decide), if_pos rfl]
      exact Or.inl ⟨_, _, _, _, _, _, _, _, rfl, rfl⟩
    · have hv2 : ¬ v = (-1) := fun z => hv (by rw [z]; decide)
      rw [if_neg hv2, if_neg hv, if_neg (show ¬ (4 : Int32) = 1 by decide), if_neg hv]
      rcases word_7 hK hL d4 hX with ⟨c7, m7⟩ | ⟨c7, m7, b7⟩
      · rw [c7, m7]
        exact Or.inl ⟨_, _, _, _, _, _, _, _, rfl, rfl⟩
      · rw [c7, m7]
        exact Or.inr ⟨b + 1, 4, v, 0, 1, by omega, b7, rfl, rfl, Or.inr (Or.inr (Or.inr (Or.inr (Or.inl rfl))))⟩
  rw [c5, m5, sb_eq, sb_eq]
  dsimp only
  rw [if_pos rfl, if_pos rfl]
  rcases word_6 hK hL ha hX with ⟨c6, m6⟩ | ⟨c6, m6, b6⟩
  rotate_left
  · rw [c6, m6, sb_eq, sb_eq]
    dsimp only
    rw [if_neg n10, if_neg n10]
    rw [sb_eq]
    dsimp only
    rw [if_pos (show (0 : Int32) ≤ 5 by decide)]
    rw [if_neg (show ¬ (5 : Int32) = 0 by decide), if_pos (show (5 : Int32) ≤ 5 by decide), if_neg (show ¬ (5 : Int32) = 1 by decide)]
    rcases word_7 hK hL b6 hX with ⟨c7, m7⟩ | ⟨c7, m7, b7⟩
    · rw [c7, m7]
      exact Or.inl ⟨_, _, _, _, _, _, _, _, rfl, rfl⟩
    · rw [c7, m7]
      exact Or.inr ⟨a + 5 + 1, 5, 0, 0, 1, by omega, b7, rfl, rfl, Or.inr (Or.inr (Or.inr (Or.inr (Or.inr rfl))))⟩
  rw [c6, m6, sb_eq, sb_eq]
  dsimp only
  rw [if_pos rfl, if_pos rfl]
  rw [sb_eq]
  dsimp only
  rw [if_neg (show ¬ (0 : Int32) ≤ (-1) by decide)]
  exact Or.inl ⟨_, _, _, _, _, _, _, _, rfl, rfl⟩
