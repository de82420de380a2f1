/-! PURE SIDE, base: numbers below 2^31, places of the reference's row, counting. -/
theorem ix_nI {α : Type} {j n : Nat} {k : Option α} (h : j < n) (hn : n < 2 ^ 31) : ix (nI j) n k = k := by
  unfold ix
  rw [if_neg]
  rintro (z | z)
  · exact nI_pos (by omega) z
  · rw [nI_clamp (by omega)] at z; omega
theorem ix_in {α : Type} {x : Int32} {n : Nat} {k : Option α} (h : vp_in x n) : ix x n k = k := by
  unfold ix
  exact if_neg h
theorem cl_nI {j : Nat} (h : j < 2 ^ 31) : (nI j).toNatClampNeg = j := nI_clamp h
theorem nI_a0 (a : Nat) : nI a + 0 = nI a := nI_add a 0
theorem nI_a2 (a : Nat) : nI a + 2 = nI (a + 2) := nI_add a 2
theorem nI_a3 (a : Nat) : nI a + 3 = nI (a + 3) := nI_add a 3
theorem nI_a4 (a : Nat) : nI a + 4 = nI (a + 4) := nI_add a 4
theorem nI_a5 (a : Nat) : nI a + 5 = nI (a + 5) := nI_add a 5
theorem nI_a6 (a : Nat) : nI a + 6 = nI (a + 6) := nI_add a 6
theorem nI_s1 {a : Nat} (h : 1 ≤ a) : nI a - 1 = nI (a - 1) := pk_sub (a := a) (b := 1) h
theorem n_nI (i : Nat) : f_X5_n (nI i) = nI (48 + 5 * i) := by
  show (48 + 5 * nI i) = _
  rw [show (5 : Int32) = nI 5 from rfl, show (48 : Int32) = nI 48 from rfl, pk_mul, nI_add]
theorem c_nI (i : Nat) : f_X5_c (nI i) = nI (6 + 7 * i) := by
  show (6 + 7 * nI i) = _
  rw [show (7 : Int32) = nI 7 from rfl, show (6 : Int32) = nI 6 from rfl, pk_mul, nI_add]
theorem lt_lit {a b : Nat} (ha : a < 2 ^ 31) (hb : b < 2 ^ 31) : (nI a < nI b) = (a < b) := propext (nI_ltI ha hb)
theorem gt600 {i : Nat} (h : i < 2 ^ 31) : (600 < nI i) = (600 < i) := lt_lit (a := 600) (by omega) h
theorem le600 {i : Nat} (h : i < 2 ^ 31) : (600 ≤ nI i) = (600 ≤ i) := propext (nI_leI (a := 600) (by omega) h)
theorem g600f {i : Nat} (h : i ≤ 600) : ¬ (600 : Int32) < nI i := nI_nlt (a := 600) (b := i) h (by omega)
theorem g600t {i : Nat} (h : 600 < i) (hi : i < 2 ^ 31) : (600 : Int32) < nI i := nI_lt (a := 600) h hi
theorem l600f {i : Nat} (h : i < 600) : ¬ (600 : Int32) ≤ nI i := nI_ge (a := i) (b := 600) h (by omega)
theorem l600t {i : Nat} (h : 600 ≤ i) (hi : i < 2 ^ 31) : (600 : Int32) ≤ nI i := nI_le (a := 600) h hi
theorem lt0f {i : Nat} (h : i < 2 ^ 31) : (nI i < 0) = False := eq_false (nI_pos h)
theorem nI_m1 {i : Nat} (h : i < 2 ^ 31) : ¬ nI i = (-1) := by
  intro e
  have := nI_pos h
  rw [e] at this
  exact this (by decide)
theorem neg_of {x : Int32} (h : x < 0) : x.toInt < 0 := Int32.lt_iff_toInt_lt.mp h
/-- how many of the m numbers from i on have p -/
def cnt (p : Nat → Bool) : Nat → Nat → Nat
  | _, 0 => 0
  | i, m + 1 => (if p i then 1 else 0) + cnt p (i + 1) m
theorem cnt_congr {p q : Nat → Bool} : ∀ (m i : Nat), (∀ j, i ≤ j → j < i + m → p j = q j) → cnt p i m = cnt q i m := by
  intro m
  induction m with
  | zero => intro i _; rfl
  | succ m ih =>
    intro i h
    unfold cnt
    rw [h i (Nat.le_refl i) (by omega), ih (i + 1) (fun j h1 h2 => h j (by omega) (by omega))]
theorem cnt_le (p : Nat → Bool) : ∀ (m i : Nat), cnt p i m ≤ m := by
  intro m
  induction m with
  | zero => intro i; exact Nat.le_refl 0
  | succ m ih =>
    intro i
    unfold cnt
    have := ih (i + 1)
    split <;> omega
theorem cnt_pos {p : Nat → Bool} : ∀ (m i : Nat), 0 < cnt p i m → ∃ j, i ≤ j ∧ j < i + m ∧ p j = true := by
  intro m
  induction m with
  | zero => intro i h; exact absurd h (Nat.lt_irrefl 0)
  | succ m ih =>
    intro i h
    unfold cnt at h
    by_cases hp : p i = true
    · exact ⟨i, Nat.le_refl i, by omega, hp⟩
    · rw [if_neg hp] at h
      obtain ⟨j, h1, h2, h3⟩ := ih (i + 1) (by omega)
      exact ⟨j, by omega, by omega, h3⟩
/-- one place more -/
theorem cnt_one {p q : Nat → Bool} {k : Nat} (hp : p k = false) (hq : q k = true) (hne : ∀ j, j ≠ k → p j = q j) : ∀ (m i : Nat), i ≤ k → k < i + m → cnt q i m = cnt p i m + 1 := by
  intro m
  induction m with
  | zero => intro i h1 h2; omega
  | succ m ih =>
    intro i h1 h2
    unfold cnt
    by_cases h : i = k
    · subst h
      rw [hp, hq, cnt_congr (p := q) (q := p) m (i + 1) (fun j h3 h4 => (hne j (by omega)).symm)]
      simp
      omega
    · rw [ih (i + 1) (by omega) (by omega), hne i h]
      omega
theorem cnt_lt {p : Nat → Bool} {k : Nat} (hp : p k = false) : ∀ (m i : Nat), i ≤ k → k < i + m → cnt p i m < m := by
  intro m
  induction m with
  | zero => intro i h1 h2; omega
  | succ m ih =>
    intro i h1 h2
    unfold cnt
    by_cases h : i = k
    · subst h
      rw [hp]
      have := cnt_le p m (i + 1)
      simp
      omega
    · have := ih (i + 1) (by omega) (by omega)
      split <;> omega
theorem add_cnt (c : Int32) (a b : Nat) : c + nI a + nI b = c + nI (a + b) := by rw [Int32.add_assoc, nI_add]
/-- counting a state: the class, the reference -/
theorem inState_loop (ns : Nat → Int32) (w : Int32) : ∀ (m i n : Nat) (c : Int32), i + m = 601 → m < n → 1 ≤ i → f_X1_inState_10 600 w ns n c (nI i) = some (c + nI (cnt (fun k => decide (ns k = w)) i m)) := by
  intro m
  induction m with
  | zero =>
    intro i n c hi hn h1
    obtain ⟨n, rfl⟩ : ∃ z, n = z + 1 := ⟨n - 1, by omega⟩
    have : i = 601 := by omega
    subst this
    rw [f_X1_inState_10, if_pos (g600t (by omega) (by omega))]
    exact congrArg some (Int32.add_zero c).symm
  | succ m ih =>
    intro i n c hi hn h1
    obtain ⟨n, rfl⟩ : ∃ z, n = z + 1 := ⟨n - 1, by omega⟩
    rw [f_X1_inState_10, if_neg (g600f (by omega)), if_neg (g600f (by omega)), ix_nI (by omega) (by omega), cl_nI (by omega), nI_1]
    unfold cnt
    by_cases h : ns i = w
    · rw [if_pos h, ih (i + 1) n (c + 1) (by omega) (by omega) (by omega), if_pos (by simpa using h)]
      rw [← add_cnt]; rfl
    · rw [if_neg h, ih (i + 1) n c (by omega) (by omega) (by omega), if_neg (by simpa using h), Nat.zero_add]
theorem many_loop (zs : Nat → Int32) (w : Int32) : ∀ (m i n : Nat) (c : Int32), i + m = 601 → m < n → 1 ≤ i → f_X5_many_4 w zs n c (nI i) = some (c + nI (cnt (fun k => decide (zs (48 + 5 * k) = w)) i m)) := by
  intro m
  induction m with
  | zero =>
    intro i n c hi hn h1
    obtain ⟨n, rfl⟩ : ∃ z, n = z + 1 := ⟨n - 1, by omega⟩
    have : i = 601 := by omega
    subst this
    rw [f_X5_many_4, if_pos (g600t (by omega) (by omega))]
    exact congrArg some (Int32.add_zero c).symm
  | succ m ih =>
    intro i n c hi hn h1
    obtain ⟨n, rfl⟩ : ∃ z, n = z + 1 := ⟨n - 1, by omega⟩
    rw [f_X5_many_4, if_neg (g600f (by omega)), n_nI, nI_a0, ix_nI (by omega) (by omega), cl_nI (by omega), nI_1]
    unfold cnt
    by_cases h : zs (48 + 5 * i) = w
    · rw [if_pos h, ih (i + 1) n (c + 1) (by omega) (by omega) (by omega), if_pos (by simpa using h)]
      rw [← add_cnt]; rfl
    · rw [if_neg h, ih (i + 1) n (c + 0) (by omega) (by omega) (by omega), if_neg (by simpa using h), Nat.zero_add, Int32.add_zero]
theorem imax_1 (x : Int32) : imax x 1 = if x < 1 then 1 else x := rfl
theorem inState_eq {K : Nat} (hK : 1000 ≤ K) (ns : Nat → Int32) (w : Int32) : f_X1_inState K ns 1 600 w = some (nI (cnt (fun k => decide (ns k = w)) 1 600)) := by
  unfold f_X1_inState
  have e : imax 1 1 = nI 1 := rfl
  rw [e, inState_loop ns w 600 1 K 0 rfl (by omega) (by omega), Int32.zero_add]
theorem many_eq {K : Nat} (hK : 1000 ≤ K) (zs : Nat → Int32) (w : Int32) : f_X5_many K zs w = some (nI (cnt (fun k => decide (zs (48 + 5 * k) = w)) 1 600)) := by
  unfold f_X5_many
  have e : (1 : Int32) = nI 1 := rfl
  rw [e, many_loop zs w 600 1 K 0 rfl (by omega) (by omega), Int32.zero_add]
