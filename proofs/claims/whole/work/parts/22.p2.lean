/-! PURE SIDE: where a block begins, and how long it is. -/
theorem lf_loop (ns : Nat → Int32) {F : Nat} (hF : F ≤ 601) : ∀ (m i n : Nat), i + m = F → m < n → 1 ≤ i → (∃ j, i ≤ j ∧ j < F ∧ ns j = 3 ∧ (∀ k, i ≤ k → k < j → ¬ ns k = 3) ∧ f_X1_lowestFree_2 ns (nI F) n (nI i) = some (nI j)) ∨ ((∀ k, i ≤ k → k < F → ¬ ns k = 3) ∧ f_X1_lowestFree_2 ns (nI F) n (nI i) = some (-1)) := by
  intro m
  induction m with
  | zero =>
    intro i n hi hn h1
    obtain ⟨n, rfl⟩ : ∃ z, n = z + 1 := ⟨n - 1, by omega⟩
    have : i = F := by omega
    subst this
    refine Or.inr ⟨fun k h2 h3 => by omega, ?_⟩
    rw [f_X1_lowestFree_2]
    by_cases h : 600 < i
    · rw [if_pos (g600t h (by omega))]
    · rw [if_neg (g600f (by omega)), if_pos (nI_le (Nat.le_refl _) (by omega))]
  | succ m ih =>
    intro i n hi hn h1
    obtain ⟨n, rfl⟩ : ∃ z, n = z + 1 := ⟨n - 1, by omega⟩
    rw [f_X1_lowestFree_2, if_neg (g600f (by omega)), if_neg (nI_ge (by omega) (by omega)), ix_nI (by omega) (by omega), cl_nI (by omega)]
    by_cases h : ns i = 3
    · rw [if_pos h]
      exact Or.inl ⟨i, Nat.le_refl i, by omega, h, fun k h2 h3 => by omega, rfl⟩
    · rw [if_neg h, nI_1]
      rcases ih (i + 1) n (by omega) (by omega) (by omega) with ⟨j, a1, a2, a3, a4, a5⟩ | ⟨a1, a2⟩
      · refine Or.inl ⟨j, by omega, a2, a3, fun k h2 h3 => ?_, a5⟩
        by_cases hk : k = i
        · subst hk; exact h
        · exact a4 k (by omega) h3
      · refine Or.inr ⟨fun k h2 h3 => ?_, a2⟩
        by_cases hk : k = i
        · subst hk; exact h
        · exact a1 k (by omega) h3
theorem lo_loop (zs : Nat → Int32) (w : Int32) : ∀ (m i n : Nat), i + m = 601 → m < n → 1 ≤ i → (∃ j, i ≤ j ∧ j ≤ 600 ∧ zs (48 + 5 * j) = w ∧ (∀ k, i ≤ k → k < j → ¬ zs (48 + 5 * k) = w) ∧ f_X5_lowest_2 w zs n (nI i) = some (nI j)) ∨ ((∀ k, i ≤ k → k ≤ 600 → ¬ zs (48 + 5 * k) = w) ∧ f_X5_lowest_2 w zs n (nI i) = some (nI 601)) := by
  intro m
  induction m with
  | zero =>
    intro i n hi hn h1
    obtain ⟨n, rfl⟩ : ∃ z, n = z + 1 := ⟨n - 1, by omega⟩
    have : i = 601 := by omega
    subst this
    refine Or.inr ⟨fun k h2 h3 => by omega, ?_⟩
    rw [f_X5_lowest_2, if_pos (g600t (by omega) (by omega))]
  | succ m ih =>
    intro i n hi hn h1
    obtain ⟨n, rfl⟩ : ∃ z, n = z + 1 := ⟨n - 1, by omega⟩
    rw [f_X5_lowest_2, if_neg (g600f (by omega)), n_nI, nI_a0, ix_nI (by omega) (by omega), cl_nI (by omega)]
    by_cases h : zs (48 + 5 * i) = w
    · rw [if_pos h]
      exact Or.inl ⟨i, Nat.le_refl i, by omega, h, fun k h2 h3 => by omega, rfl⟩
    · rw [if_neg h, nI_1]
      rcases ih (i + 1) n (by omega) (by omega) (by omega) with ⟨j, a1, a2, a3, a4, a5⟩ | ⟨a1, a2⟩
      · refine Or.inl ⟨j, by omega, a2, a3, fun k h2 h3 => ?_, a5⟩
        by_cases hk : k = i
        · subst hk; exact h
        · exact a4 k (by omega) h3
      · refine Or.inr ⟨fun k h2 h3 => ?_, a2⟩
        by_cases hk : k = i
        · subst hk; exact h
        · exact a1 k (by omega) h3
/-- the first new number, by the reference -/
theorem lo_new {K : Nat} (hK : 1000 ≤ K) {ns zs : Nat → Int32} {F : Nat} (h1 : 1 ≤ F) (hF : F ≤ 601) (hs : ∀ n, 1 ≤ n → n ≤ 600 → zs (48 + 5 * n) = ns n ∧ (ns n = 0 ↔ F ≤ n)) : f_X5_lowest K zs 0 = some (nI F) := by
  unfold f_X5_lowest
  rcases lo_loop zs 0 600 1 K rfl (by omega) (by omega) with ⟨j, a1, a2, a3, a4, a5⟩ | ⟨a1, a2⟩
  · have hj := (hs j a1 a2)
    rw [hj.1] at a3
    have h3 := hj.2.mp a3
    have : j = F := by
      rcases Nat.lt_or_ge F j with z | z
      · have := hs F h1 (by omega)
        exact absurd (by rw [this.1]; exact this.2.mpr (Nat.le_refl F)) (a4 F h1 z)
      · omega
    subst this
    exact a5
  · have : F = 601 := by
      rcases Nat.lt_or_ge F 601 with z | z
      · have := hs F h1 (by omega)
        exact absurd (by rw [this.1]; exact this.2.mpr (Nat.le_refl F)) (a1 F h1 (by omega))
      · omega
    subst this
    exact a2
/-- both begin a block at the same number; above the last one just if none is left for it -/
theorem blockStart {K : Nat} (hK : 1000 ≤ K) {ns cs zs : Nat → Int32} {F : Nat} (h1 : 1 ≤ F) (hF : F ≤ 601) (hs : ∀ n, 1 ≤ n → n ≤ 600 → zs (48 + 5 * n) = ns n ∧ (ns n = 0 ↔ F ≤ n)) (hc : zs 1 = cs 1) : ∃ a : Nat, 1 ≤ a ∧ a ≤ 601 ∧ f_X2_startOfBlock K ns (nI F) cs = some (nI a) ∧ f_X5_blockFrom K zs = some (nI a) ∧ (a ≤ 600 → (cs 1 = 1 ∧ ns a = 3) ∨ (a = F ∧ ns a = 0)) ∧ (a = 601 → (∀ n, 1 ≤ n → n ≤ 600 → ¬ ns n = 0) ∧ (cs 1 = 1 → ∀ n, 1 ≤ n → n ≤ 600 → ¬ ns n = 3)) := by
  have hnew := lo_new hK h1 hF hs
  have hfin : F = 601 → ∀ n, 1 ≤ n → n ≤ 600 → ¬ ns n = 0 := fun e n a b c => by have := (hs n a b).2.mp c; omega
  by_cases hcs : cs 1 = 1
  · unfold f_X2_startOfBlock f_X5_blockFrom f_X1_lowestFree
    rw [if_pos hcs, if_pos (hc.trans hcs)]
    have e3 : f_X5_lowest K zs 3 = f_X5_lowest_2 3 zs K (nI 1) := rfl
    rcases lf_loop ns hF (F - 1) 1 K (by omega) (by omega) (by omega) with ⟨j, a1, a2, a3, a4, a5⟩ | ⟨a1, a2⟩
    · refine ⟨j, a1, by omega, ?_, ?_, fun _ => Or.inl ⟨hcs, a3⟩, fun e => by omega⟩
      · show (f_X1_lowestFree_2 ns (nI F) K (nI 1)).bind _ = _
        rw [a5]
        show (if nI j = (-1) then some (nI F) else some (nI j)) = _
        rw [if_neg (nI_m1 (by omega))]
      · rw [e3]
        rcases lo_loop zs 3 600 1 K rfl (by omega) (by omega) with ⟨j2, b1, b2, b3, b4, b5⟩ | ⟨b1, b2⟩
        · have : j2 = j := by
            rcases Nat.lt_trichotomy j2 j with z | z | z
            · exact absurd (by rw [← (hs j2 b1 b2).1]; exact b3) (a4 j2 b1 z)
            · exact z
            · exact absurd (by rw [(hs j a1 (by omega)).1]; exact a3) (b4 j a1 z)
          subst this
          rw [b5]
          show (if (600 : Int32) < nI j2 then _ else some (nI j2)) = _
          rw [if_neg (g600f b2)]
        · exact absurd (by rw [(hs j a1 (by omega)).1]; exact a3) (b1 j a1 (by omega))
    · have none3 : ∀ n, 1 ≤ n → n ≤ 600 → ¬ ns n = 3 := by
        intro n c1 c2 c3
        rcases Nat.lt_or_ge n F with z | z
        · exact a1 n c1 z c3
        · have := (hs n c1 c2).2.mpr z
          rw [this] at c3
          exact absurd c3 (by decide)
      refine ⟨F, h1, hF, ?_, ?_, fun h => Or.inr ⟨rfl, (hs F h1 h).2.mpr (Nat.le_refl F)⟩, fun e => ⟨hfin e, fun _ => none3⟩⟩
      · show (f_X1_lowestFree_2 ns (nI F) K (nI 1)).bind _ = _
        rw [a2]
        show (if ((-1) : Int32) = (-1) then some (nI F) else some (-1)) = _
        rw [if_pos rfl]
      · rw [e3]
        rcases lo_loop zs 3 600 1 K rfl (by omega) (by omega) with ⟨j2, b1, b2, b3, b4, b5⟩ | ⟨b1, b2⟩
        · exact absurd (by rw [← (hs j2 b1 b2).1]; exact b3) (none3 j2 b1 b2)
        · rw [b2]
          show (if (600 : Int32) < nI 601 then (f_X5_lowest K zs 0).bind (fun r9 => some r9) else some (nI 601)) = _
          rw [if_pos (g600t (by omega) (by omega)), hnew]
          rfl
  · refine ⟨F, h1, hF, ?_, ?_, fun h => Or.inr ⟨rfl, (hs F h1 h).2.mpr (Nat.le_refl F)⟩, fun e => ⟨hfin e, fun h => absurd h hcs⟩⟩
    · unfold f_X2_startOfBlock
      rw [if_neg hcs]
    · unfold f_X5_blockFrom
      rw [if_neg (fun z => hcs (hc.symm.trans z)), hnew]
      rfl
/-- numbers of a state -/
def isS (ns : Nat → Int32) (s : Int32) : Nat → Bool := fun j => decide (j ≤ 600) && decide (ns j = s)
theorem goesOn_eq {ns no nr : Nat → Int32} {s : Int32} (H : ∀ n, 1 ≤ n → n ≤ 600 → ns n = s → no n = (-1) ∧ nr n = (-1)) {x : Nat} (h1 : 1 ≤ x) (h2 : x ≤ 600) (hx : ns x = s) : f_X1_goesOn ns no nr (nI x) = some (if isS ns s (x + 1) then 1 else 0) := by
  unfold f_X1_goesOn isS
  rw [if_neg (show ¬ nI x < 1 from nI_nlt (a := x) (b := 1) h1 (by omega))]
  by_cases h6 : x = 600
  · rw [if_pos (l600t (by omega) (by omega)), if_neg (by simp; omega)]
  · rw [if_neg (l600f (by omega)), nI_1]
    simp (disch := omega) only [ix_nI, cl_nI]
    by_cases h : ns (x + 1) = s
    · have a := H x h1 h2 hx
      have b := H (x + 1) (by omega) (by omega) h
      rw [if_pos (hx.trans h.symm), if_pos (a.1.trans b.1.symm), if_pos (a.2.trans b.2.symm), if_pos (by simp; exact ⟨by omega, h⟩)]
    · rw [if_neg (fun z => h (z.symm.trans hx)), if_neg (by simp; intro _; exact h)]
theorem lr_loop {ns no nr : Nat → Int32} {s : Int32} (H : ∀ n, 1 ≤ n → n ≤ 600 → ns n = s → no n = (-1) ∧ nr n = (-1)) : ∀ (m x n : Nat), m < n → 1 ≤ x → x ≤ 600 → x + m < 2 ^ 31 → ns x = s → f_X1_lastOfRow_2 (nI (x + m)) ns no nr n (nI x) = some (nI (x + run (isS ns s) (x + 1) m)) := by
  intro m
  induction m with
  | zero =>
    intro x n hn h1 h2 hb hx
    obtain ⟨n, rfl⟩ : ∃ z, n = z + 1 := ⟨n - 1, by omega⟩
    rw [f_X1_lastOfRow_2, if_pos (nI_le (by omega) (by omega))]
    rfl
  | succ m ih =>
    intro x n hn h1 h2 hb hx
    obtain ⟨n, rfl⟩ : ∃ z, n = z + 1 := ⟨n - 1, by omega⟩
    rw [f_X1_lastOfRow_2, if_neg (nI_ge (by omega) (by omega)), goesOn_eq H h1 h2 hx]
    show (if (if isS ns s (x + 1) then (1 : Int32) else 0) = 0 then some (nI x) else f_X1_lastOfRow_2 (nI (x + (m + 1))) ns no nr n (nI x + 1)) = _
    unfold run
    by_cases h : isS ns s (x + 1) = true
    · have h' := h
      unfold isS at h'
      simp only [Bool.and_eq_true, decide_eq_true_eq] at h'
      rw [if_pos h, if_pos h, if_neg (by decide), nI_1, show x + (m + 1) = x + 1 + m by omega, ih (x + 1) n (by omega) (by omega) h'.1 (by omega) h'.2]
      rw [show x + 1 + run (isS ns s) (x + 1 + 1) m = x + (run (isS ns s) (x + 1 + 1) m + 1) by omega]
    · rw [if_neg h, if_neg h, if_pos rfl]
      rfl
