/-! PURE SIDE: asking. -/
theorem cnt_zero {p : Nat → Bool} {m i : Nat} (h : ∀ j, i ≤ j → j < i + m → p j = false) : cnt p i m = 0 := by
  rcases Nat.eq_zero_or_pos (cnt p i m) with z | z
  · exact z
  · obtain ⟨j, h1, h2, h3⟩ := cnt_pos m i z
    rw [h j h1 h2] at h3
    exact absurd h3 (by decide)
/-- a clerk's number: both say no, or it is one -/
theorem clerk_cases {C : Nat} (hC : C ≤ 6) {zs : Nat → Int32} (h3 : zs 3 = nI C) (x : Int32) : (f_X2_isClerk (nI C) x = 0 ∧ f_X5_isClerk zs x = 0) ∨ ∃ i : Nat, i < C ∧ x = nI i ∧ f_X2_isClerk (nI C) x = 1 ∧ f_X5_isClerk zs x = 1 := by
  unfold f_X5_isClerk f_X5_in
  rw [h3]
  by_cases h0 : x < 0
  · refine Or.inl ⟨?_, ?_⟩
    · unfold f_X2_isClerk; rw [if_pos h0]
    · rw [if_pos h0]
  · obtain ⟨i, hi, rfl⟩ := nI_of h0
    by_cases hiC : i < C
    · refine Or.inr ⟨i, hiC, rfl, isClerk_t hiC hC, ?_⟩
      rw [if_neg h0, nI_s1 (by omega), if_neg (nI_nlt (by omega) (by omega))]
    · refine Or.inl ⟨?_, ?_⟩
      · unfold f_X2_isClerk
        rw [if_neg h0, if_pos (nI_le (by omega) hi)]
      · rw [if_neg h0]
        have : (nI C - 1) < nI i := by
          apply Int32.lt_iff_toInt_lt.mpr
          have e1 : (nI C - 1).toInt = (C : Int) - 1 := pk_sub_toInt (a := C) (b := 1) (by omega) (by omega)
          rw [e1, nI_toInt hi]
          omega
        rw [if_pos this]
theorem in_cases (x : Int32) (a b : Nat) (hb : b < 2 ^ 31) (ha : a ≤ b) : (f_X5_in x (nI a) (nI b) = 0 ∧ (x < nI a ∨ nI b < x)) ∨ ∃ m : Nat, a ≤ m ∧ m ≤ b ∧ x = nI m ∧ f_X5_in x (nI a) (nI b) = 1 := by
  unfold f_X5_in
  by_cases h1 : x < nI a
  · exact Or.inl ⟨if_pos h1, Or.inl h1⟩
  · by_cases h2 : nI b < x
    · exact Or.inl ⟨by rw [if_neg h1, if_pos h2], Or.inr h2⟩
    · have h0 : ¬ x < 0 := by
        intro z
        refine h1 (Int32.lt_iff_toInt_lt.mpr ?_)
        have h3 := Int32.lt_iff_toInt_lt.mp z
        have e : (0 : Int32).toInt = 0 := by decide
        rw [e] at h3
        rw [nI_toInt (by omega)]
        omega
      obtain ⟨m, hm, rfl⟩ := nI_of h0
      refine Or.inr ⟨m, ?_, ?_, rfl, by rw [if_neg h1, if_neg h2]⟩
      · rcases Nat.lt_or_ge m a with z | z
        · exact absurd (nI_lt z (by omega)) h1
        · exact z
      · rcases Nat.lt_or_ge b m with z | z
        · exact absurd (nI_lt z hm) h2
        · exact z
set_option maxHeartbeats 1000000 in
theorem serve_J {K : Nat} (hK : 1000 ≤ K) {d C Y m i : Nat} (hY : Y ≤ 1000000) (hm1 : 1 ≤ m) (hm5 : m ≤ 50) (hi : i < C) {cc : Int32} {cs : Nat → Int32} {ct : Int32} : ∀ (k t n T F : Nat) (x3 : Int32) (ns no nr nt nd ni : Nat → Int32) (nm nf : Int32) (cl : Nat → Nat → Int32) (zs : Nat → Int32) (hn : Nat), t + k = m → k < n → JJ d T F C Y ns no nr nt nd ni nm nf cl cc cs ct zs → hn ≤ 600 → f_X0_held (cl i) = nI hn → k ≤ hn + av ns cs → (t = 0 ∨ (x3 = zs (6 + 7 * i + 6) ∧ ¬ x3 < 0)) →
    ∃ (T' F' : Nat) (r : Int32) (ns' no' nr' nt' nd' ni' : Nat → Int32) (nm' nf' : Int32) (cl' : Nat → Nat → Int32) (zs' : Nat → Int32), f_X2_serve_38 K (nI i) (nI m) cc cs ct n x3 (nI t) ns no nr nt nd ni nm nf cl = some (r, ns', no', nr', nt', nd', ni', nm', nf', cl') ∧ f_X5_goAsk_2 K (nI i) (nI m) n (nI t) zs = some (r, zs') ∧ ¬ r < 0 ∧ JJ d T' F' C Y ns' no' nr' nt' nd' ni' nm' nf' cl' cc cs ct zs' := by
  intro k
  induction k with
  | zero =>
    intro t n T F x3 ns no nr nt nd ni nm nf cl zs hn htk hkn hJ hn6 hh hav hx
    obtain ⟨n, rfl⟩ : ∃ z, n = z + 1 := ⟨n - 1, by omega⟩
    have : t = m := by omega
    subst this
    have hC6 : C ≤ 6 := hJ.2.2.1.2.2
    rcases hx with h | ⟨h, h'⟩
    · omega
    · refine ⟨T, F, x3, ns, no, nr, nt, nd, ni, nm, nf, cl, zs, ?_, ?_, h', hJ⟩
      · rw [f_X2_serve_38, if_pos (nI_le (Nat.le_refl _) (by omega))]
      · rw [f_X5_goAsk_2, if_pos (nI_le (Nat.le_refl _) (by omega)), c_nI, nI_a6, ix_nI (by omega) (by omega), cl_nI (by omega), h]
  | succ k ih =>
    intro t n T F x3 ns no nr nt nd ni nm nf cl zs hn htk hkn hJ hn6 hh hav hx
    obtain ⟨n, rfl⟩ : ∃ z, n = z + 1 := ⟨n - 1, by omega⟩
    have hC6 : C ≤ 6 := hJ.2.2.1.2.2
    obtain ⟨-, -, -, -, p5, -⟩ := (hJ.2.2.2.2.2.2.1 i (by omega)).1 hi
    obtain ⟨hn', q0, q1, q2, q3⟩ := HR_held p5
    have ehn : hn' = hn := nI_inj (by omega) (by omega) (q1.symm.trans hh)
    subst ehn
    have hholds := holds_eq (zs := zs) (i := i) (by omega)
    rw [q2] at hholds
    by_cases hp : 0 < hn'
    · obtain ⟨lo, ck', ns', no', nr', nt', nd', ni', zs', nf', g1, g2, g3, g4, g5, g6, g7, g8, g9⟩ := give_J hK hJ hY hi hp hn6 hh
      obtain ⟨T', F', r, a1, a2, a3, a4, a5, a6, a7, a8, a9, a10, b1, b2, b3, b4⟩ := ih (t + 1) n (T + 1) F (nI lo) ns' no' nr' nt' nd' ni' (nI (T + 1)) nf' (va_up cl i ck') zs' (hn' - 1) (by omega) (by omega) g6 (by omega) (by rw [va_up_self]; exact g7) (by rw [g8]; omega) (Or.inr ⟨g9.symm, nI_pos (by omega)⟩)
      refine ⟨T', F', r, a1, a2, a3, a4, a5, a6, a7, a8, a9, a10, ?_, ?_, b3, b4⟩
      · rw [f_X2_serve_38, if_neg (nI_ge (by omega) (by omega)), ix_nI (by omega) (by omega), cl_nI (by omega), hh, if_pos (show (0 : Int32) < nI hn' from nI_lt (a := 0) hp (by omega)), ix_nI (by omega) (by omega), g3]
        show (f_X1_give K ns no nr nt nd ni nm nf (nI lo) (nI i) ct).bind _ = _
        rw [g4, nI_1]
        exact b1
      · rw [f_X5_goAsk_2, if_neg (nI_ge (by omega) (by omega)), give_eq, hholds]
        show ((if nI hn' = 0 then (f_X5_getBlock K zs (nI i)).bind (fun y => gvT (nI i) y) else gvT (nI i) zs)).bind _ = _
        rw [if_neg (nI_ne0 hp (by omega)), g5, nI_1]
        exact b2
    · have hz : hn' = 0 := by omega
      subst hz
      obtain ⟨hX1, ⟨rfl, f1, f6⟩, hX3, hX4, hN, hX6, hX7, ⟨s0, s1, s2, hX8⟩⟩ := id hJ
      obtain ⟨a, a1, a6, hS, hB, ha, hno⟩ := blockStart hK f1 f6 (fun n h1 h2 => ⟨(hN n h1 h2).1, (hN n h1 h2).2.2.2.2.1⟩) s1
      have ha6 : a ≤ 600 := by
        rcases Nat.lt_or_ge 600 a with z | z
        · obtain ⟨z0, z3⟩ := hno (by omega)
          have e0 : cnt (fun k => decide (ns k = 0)) 1 600 = 0 := cnt_zero (fun j h1 h2 => decide_eq_false (z0 j h1 (by omega)))
          have : av ns cs = 0 := by
            unfold av
            rw [e0]
            by_cases hc : cs 1 = 1
            · rw [if_pos hc, cnt_zero (fun j h1 h2 => decide_eq_false (z3 hc j h1 (by omega)))]
            · rw [if_neg hc]
          omega
        · exact z
      obtain ⟨F1, ns1, no1, nr1, cl1, zs1, lo1, hn1, u1, u2, u3, u4, u5, u6, u7⟩ := block_J hK hJ hi a1 ha6 hS hB (ha ha6)
      obtain ⟨lo, ck', ns', no', nr', nt', nd', ni', zs', nf', g1, g2, g3, g4, g5, g6, g7, g8, g9⟩ := give_J hK u3 hY hi u4 u6 u5
      obtain ⟨T', F', r, c1, c2, c3, c4, c5, c6, c7, c8, c9, c10, b1, b2, b3, b4⟩ := ih (t + 1) n (T + 1) F1 (nI lo) ns' no' nr' nt' nd' ni' (nI (T + 1)) nf' (va_up cl1 i ck') zs' (hn1 - 1) (by omega) (by omega) g6 (by omega) (by rw [va_up_self]; exact g7) (by rw [g8]; omega) (Or.inr ⟨g9.symm, nI_pos (by omega)⟩)
      refine ⟨T', F', r, c1, c2, c3, c4, c5, c6, c7, c8, c9, c10, ?_, ?_, b3, b4⟩
      · rw [f_X2_serve_38, if_neg (nI_ge (by omega) (by omega)), ix_nI (by omega) (by omega), cl_nI (by omega), hh, if_neg (show ¬ (0 : Int32) < nI 0 by decide), u1]
        show ix (nI i) 6 ((f_X0_giveLowest (cl1 i) (cs 2)).bind _) = _
        rw [ix_nI (by omega) (by omega), g3]
        show (f_X1_give K ns1 no1 nr1 nt nd ni nm (nI F1) (nI lo) (nI i) ct).bind _ = _
        rw [g4, nI_1]
        exact b1
      · rw [f_X5_goAsk_2, if_neg (nI_ge (by omega) (by omega)), give_eq, hholds]
        show ((if nI 0 = 0 then (f_X5_getBlock K zs (nI i)).bind (fun y => gvT (nI i) y) else gvT (nI i) zs)).bind _ = _
        rw [if_pos (show nI 0 = 0 from rfl), u2]
        show (gvT (nI i) zs1).bind _ = _
        rw [g5, nI_1]
        exact b2
theorem avail_eq {K : Nat} (hK : 1000 ≤ K) {ns : Nat → Int32} {cl : Nat → Nat → Int32} {cs : Nat → Int32} {C i hn : Nat} (hi : i < C) (hC : C ≤ 6) (hh : f_X0_held (cl i) = nI hn) : f_X2_available K ns cl (nI C) cs (nI i) = some (nI (hn + av ns cs)) := by
  unfold f_X2_available av
  rw [isClerk_t hi hC, if_neg (by decide)]
  by_cases h : cs 1 = 1
  · rw [if_pos h, if_pos h, inState_eq hK, inState_eq hK]
    show ix (nI i) 6 _ = _
    rw [ix_nI (by omega) (by omega), cl_nI (by omega)]
    show some ((f_X0_held (cl i) + nI _) + nI _) = _
    rw [hh, nI_add, nI_add, Nat.add_assoc]
  · rw [if_neg h, if_neg h, inState_eq hK]
    rw [ix_nI (by omega) (by omega), cl_nI (by omega)]
    show some ((f_X0_held (cl i) + nI _) + 0) = _
    rw [hh, nI_add, nI_a0, Nat.add_zero]
theorem cnt_same {ns zs : Nat → Int32} (h : ∀ n, 1 ≤ n → n ≤ 600 → zs (48 + 5 * n) = ns n) (s : Int32) : cnt (fun k => decide (zs (48 + 5 * k) = s)) 1 600 = cnt (fun k => decide (ns k = s)) 1 600 := cnt_congr 600 1 (fun j h1 h2 => by rw [h j h1 (by omega)])
theorem canAsk_eq {K : Nat} (hK : 1000 ≤ K) {ns cs zs : Nat → Int32} {i hn : Nat} (hi : i < 6) (hh : (zs (6 + 7 * i + 2) - zs (6 + 7 * i + 1)) + 1 = nI hn) (h : ∀ n, 1 ≤ n → n ≤ 600 → zs (48 + 5 * n) = ns n) (h1 : zs 1 = cs 1) (x : Int32) : f_X5_canAsk K zs (nI i) x = some (if nI (hn + av ns cs) < x then 0 else 1) := by
  unfold f_X5_canAsk av
  rw [holds_eq hi, hh, many_eq hK, many_eq hK, cnt_same h, cnt_same h]
  show (if zs 1 = 1 then _ else _) = _
  rw [h1]
  by_cases hc : cs 1 = 1
  · rw [if_pos hc, if_pos hc]
    show (if (nI hn + nI _) + nI _ < x then some 0 else some 1) = _
    rw [nI_add, nI_add, Nat.add_assoc]
    split <;> rfl
  · rw [if_neg hc, if_neg hc]
    show (if (nI hn + nI _) + 0 < x then some 0 else some 1) = _
    rw [nI_add, nI_a0, Nat.add_zero]
    split <;> rfl
