/-! PURE SIDE: lateness and numberOf. -/
theorem any_iff {p : Nat → Bool} (m i : Nat) : 0 < cnt p i m ↔ ∃ j, i ≤ j ∧ j < i + m ∧ p j = true := by
  refine ⟨cnt_pos m i, ?_⟩
  induction m generalizing i with
  | zero => rintro ⟨j, h1, h2, -⟩; omega
  | succ m ih =>
    rintro ⟨j, h1, h2, h3⟩
    by_cases h : p i = true
    · rw [cnt_s1 h]; omega
    · have hf : p i = false := by cases hp : p i; rfl; exact absurd hp h
      rw [cnt_s0 hf]
      refine ih (i + 1) ⟨j, ?_, by omega, h3⟩
      have : j ≠ i := fun e => h (e ▸ h3)
      omega
theorem lt_loop (nt ni : Nat → Int32) {x t : Nat} (hx : x ≤ 600) (ht : t ≤ 600) (e : nt x = nI t) : ∀ (m i n : Nat), i + m = t → m < n → f_X1_tellLateness_22 (nI x) nt ni n (nI i) = some (if 0 < cnt (fun j => !decide (ni j ≤ nI x)) i m then 1 else 0) := by
  intro m
  induction m with
  | zero =>
    intro i n hi hn
    obtain ⟨n, rfl⟩ : ∃ z, n = z + 1 := ⟨n - 1, by omega⟩
    rw [f_X1_tellLateness_22, ix_nI (by omega) (by omega), cl_nI (by omega), e, if_pos (nI_le (a := t) (b := i) (by omega) (by omega))]
    rw [show cnt (fun j => !decide (ni j ≤ nI x)) i 0 = 0 from rfl, if_neg (show ¬ 0 < 0 by omega)]
    split <;> rfl
  | succ m ih =>
    intro i n hi hn
    obtain ⟨n, rfl⟩ : ∃ z, n = z + 1 := ⟨n - 1, by omega⟩
    rw [f_X1_tellLateness_22, if_neg (l600f (by omega)), ix_nI (by omega) (by omega), cl_nI (by omega), e, if_neg (nI_ge (by omega) (by omega)), ix_nI (by omega) (by omega), cl_nI (by omega), nI_1]
    by_cases h : ni i ≤ nI x
    · rw [if_pos h, ih (i + 1) n (by omega) (by omega), cnt_s0 (show (!decide (ni i ≤ nI x)) = false by rw [decide_eq_true h]; rfl)]
    · rw [if_neg h, cnt_s1 (show (!decide (ni i ≤ nI x)) = true by rw [decide_eq_false h]; rfl), if_pos (by omega)]
theorem il_loop (zs : Nat → Int32) {x : Nat} (hx : x ≤ 600) : ∀ (m i n : Nat) (c : Nat), i + m = 601 → m < n → c ≤ 1 → f_X5_isLate_6 (nI x) zs n (nI c) (nI i) = some (if 0 < c + cnt (fun j => !decide (zs (48 + 5 * j + 2) < 0) && !decide (zs (48 + 5 * x + 2) ≤ zs (48 + 5 * j + 2))) i m then 1 else 0) := by
  intro m
  induction m with
  | zero =>
    intro i n c hi hn hc
    obtain ⟨n, rfl⟩ : ∃ z, n = z + 1 := ⟨n - 1, by omega⟩
    rw [f_X5_isLate_6, if_pos (g600t (by omega) (by omega))]
    match c, hc with
    | 0, _ => rfl
    | 1, _ => rfl
    | k + 2, h => exact absurd h (by omega)
  | succ m ih =>
    intro i n c hi hn hc
    obtain ⟨n, rfl⟩ : ∃ z, n = z + 1 := ⟨n - 1, by omega⟩
    have o0 : nI c ||| 0 = nI c := by
      match c, hc with
      | 0, _ => rfl
      | 1, _ => rfl
      | k + 2, h => exact absurd h (by omega)
    have o1 : nI c ||| 1 = nI 1 := by
      match c, hc with
      | 0, _ => rfl
      | 1, _ => rfl
      | k + 2, h => exact absurd h (by omega)
    rw [f_X5_isLate_6, if_neg (g600f (by omega)), n_nI, n_nI, nI_a2, nI_a2, ix_nI (by omega) (by omega), cl_nI (by omega), cl_nI (by omega), ix_nI (by omega) (by omega), ix_nI (by omega) (by omega), o0, o1, nI_1]
    by_cases h : zs (48 + 5 * i + 2) < 0
    · rw [if_pos h, ih (i + 1) n c (by omega) (by omega) hc, cnt_s0 (show (!decide (zs (48 + 5 * i + 2) < 0) && !decide (zs (48 + 5 * x + 2) ≤ zs (48 + 5 * i + 2))) = false by rw [decide_eq_true h]; rfl)]
    · rw [if_neg h]
      by_cases h2 : zs (48 + 5 * x + 2) ≤ zs (48 + 5 * i + 2)
      · rw [if_pos h2, ih (i + 1) n c (by omega) (by omega) hc, cnt_s0 (show (!decide (zs (48 + 5 * i + 2) < 0) && !decide (zs (48 + 5 * x + 2) ≤ zs (48 + 5 * i + 2))) = false by rw [decide_eq_true h2, decide_eq_false h]; rfl)]
      · rw [if_neg h2, ih (i + 1) n 1 (by omega) (by omega) (by omega), cnt_s1 (show (!decide (zs (48 + 5 * i + 2) < 0) && !decide (zs (48 + 5 * x + 2) ≤ zs (48 + 5 * i + 2))) = true by rw [decide_eq_false h2, decide_eq_false h]; rfl), if_pos (by omega), if_pos (by omega)]
theorem late_ok {K : Nat} (hK : 1000 ≤ K) {T F : Nat} {ns no nr nt nd ni zs : Nat → Int32} (hN : JN T F ns no nr nt nd ni zs) (hT : JT T nt ni) {x t : Nat} (h1 : 1 ≤ x) (h6 : x ≤ 600) (ht : t < T) (e : nt x = nI t) :
    ∃ r : Int32, (r = 0 ∨ r = 1) ∧ f_X1_tellLateness K nt ni (nI x) = some r ∧ f_X5_isLate K zs (nI x) = some r := by
  have hT6 := JT_le hT
  have hz : ∀ n, 1 ≤ n → n ≤ 600 → zs (48 + 5 * n + 2) = nt n := fun n n1 n6 => (hN n n1 n6).2.2.1
  have key : (0 < cnt (fun j => !decide (ni j ≤ nI x)) 0 t) ↔ (0 < 0 + cnt (fun j => !decide (zs (48 + 5 * j + 2) < 0) && !decide (zs (48 + 5 * x + 2) ≤ zs (48 + 5 * j + 2))) (x + 1) (600 - x)) := by
    rw [Nat.zero_add, any_iff, any_iff]
    constructor
    · rintro ⟨j, -, j2, j3⟩
      obtain ⟨n, n1, n6, n3, n4⟩ := hT.1 j (by omega)
      have hxn : x < n := by
        rcases Nat.lt_or_ge x n with z | z
        · exact z
        · rw [n3, decide_eq_true (nI_le z (by omega))] at j3
          exact absurd j3 (by decide)
      refine ⟨n, by omega, by omega, ?_⟩
      rw [hz n n1 n6, hz x h1 h6, e, n4, decide_eq_false (nI_pos (by omega)), decide_eq_false (nI_ge (by omega) (by omega))]
      rfl
    · rintro ⟨n, n1, n2, n3⟩
      rw [hz n (by omega) (by omega), hz x h1 h6, e] at n3
      rcases (hN n (by omega) (by omega)).2.2.2.2.2.2.2.2.2.2 with ⟨z, -⟩ | ⟨j, j1, j2, j3, -⟩
      · rw [z] at n3
        rw [decide_eq_true (show ((-1) : Int32) < 0 by decide)] at n3
        exact absurd n3 (by simp)
      · rw [j2] at n3
        have hjt : j < t := by
          rcases Nat.lt_or_ge j t with z | z
          · exact z
          · rw [decide_eq_true (nI_le z (by omega)), Bool.and_comm] at n3
            exact absurd n3 (by simp)
        refine ⟨j, by omega, by omega, ?_⟩
        rw [j3, decide_eq_false (nI_ge (by omega) (by omega))]
        rfl
  have a1 := lt_loop nt ni h6 (by omega) e t 0 K (by omega) (by omega)
  have a2 := il_loop zs h6 (600 - x) (x + 1) K 0 (by omega) (by omega) (by omega)
  refine ⟨if 0 < cnt (fun j => !decide (ni j ≤ nI x)) 0 t then 1 else 0, ?_, ?_, ?_⟩
  · split
    · exact Or.inr rfl
    · exact Or.inl rfl
  · unfold f_X1_tellLateness
    rw [isNumber_t h1 h6, if_neg (show ¬ (1 : Int32) = 0 by decide), ix_nI (by omega) (by omega), cl_nI (by omega), e, if_neg (nI_m1 (by omega))]
    exact a1
  · unfold f_X5_isLate
    rw [nI_1]
    refine Eq.trans a2 ?_
    by_cases h : 0 < cnt (fun j => !decide (ni j ≤ nI x)) 0 t
    · rw [if_pos h, if_pos (key.mp h)]
    · rw [if_neg h, if_neg (fun z => h (key.mpr z))]
