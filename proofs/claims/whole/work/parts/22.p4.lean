/-! PURE SIDE: a block keeps the relation. -/
theorem held1 {lo hi : Nat} (h : lo ≤ hi) (hb : hi ≤ 600) : (nI hi - nI lo) + 1 = nI (hi - lo + 1) := by rw [pk_sub h, nI_1]
theorem held0 {hi : Nat} (hb : hi ≤ 600) : (nI hi - nI (hi + 1)) + 1 = nI 0 := by
  have e : (nI hi - nI (hi + 1)).toInt = (hi : Int) - ((hi + 1 : Nat) : Int) := pk_sub_toInt (by omega) (by omega)
  have : nI hi - nI (hi + 1) = (-1) := by
    apply Int32.toInt_inj.mp
    rw [e]
    have : ((-1 : Int32)).toInt = -1 := by decide
    rw [this]
    omega
  rw [this]
  decide
/-- both sides count alike what a clerk holds -/
theorem HR_held {ns no : Nat → Int32} {i : Nat} {ck zs : Nat → Int32} (h : HR ns no i (ck 1) (ck 2) (ck 3) (zs (6 + 7 * i + 1)) (zs (6 + 7 * i + 2)) (zs (6 + 7 * i + 3))) : ∃ hn : Nat, hn ≤ 600 ∧ f_X0_held ck = nI hn ∧ (zs (6 + 7 * i + 2) - zs (6 + 7 * i + 1)) + 1 = nI hn ∧ ((0 < hn ∧ ∃ lo hi mk : Nat, 1 ≤ lo ∧ lo ≤ hi ∧ hi ≤ 600 ∧ mk ≤ hi ∧ hn = hi - lo + 1 ∧ ck 1 = nI lo ∧ ck 2 = nI hi ∧ ck 3 = nI mk ∧ zs (6 + 7 * i + 1) = nI lo ∧ zs (6 + 7 * i + 2) = nI hi ∧ zs (6 + 7 * i + 3) = nI mk ∧ ∀ n : Nat, lo ≤ n → n ≤ hi → ns n = 1 ∧ no n = nI i) ∨ (hn = 0 ∧ ∃ hi mk h2 : Nat, hi ≤ 600 ∧ mk ≤ hi ∧ h2 ≤ 600 ∧ ck 1 = nI (hi + 1) ∧ ck 2 = nI hi ∧ ck 3 = nI mk ∧ zs (6 + 7 * i + 1) = nI (h2 + 1) ∧ zs (6 + 7 * i + 2) = nI h2)) := by
  rcases h with ⟨lo, hi, mk, a1, a2, a3, a4, a5, a6, a7, a8, a9, a10, a11⟩ | ⟨hi, mk, h2, a1, a2, a3, a4, a5, a6, a7, a8⟩
  · refine ⟨hi - lo + 1, by omega, ?_, ?_, Or.inl ⟨by omega, lo, hi, mk, a1, a2, a3, a4, rfl, a5, a6, a7, a8, a9, a10, a11⟩⟩
    · unfold f_X0_held
      rw [a5, a6]; exact held1 a2 a3
    · rw [a8, a9]; exact held1 a2 a3
  · refine ⟨0, by omega, ?_, ?_, Or.inr ⟨rfl, hi, mk, h2, a1, a2, a3, a4, a5, a6, a7, a8⟩⟩
    · unfold f_X0_held
      rw [a4, a5]; exact held0 a1
    · rw [a7, a8]; exact held0 a3
theorem holds_eq {zs : Nat → Int32} {i : Nat} (hi : i < 6) : f_X5_holds zs (nI i) = some ((zs (6 + 7 * i + 2) - zs (6 + 7 * i + 1)) + 1) := by
  unfold f_X5_holds
  rw [c_nI, nI_a2, nI_1]
  simp (disch := omega) only [ix_nI, cl_nI]
theorem HR_keep {ns no ns' no' : Nat → Int32} {i : Nat} {k1 k2 k3 m1 m2 m3 : Int32} (h : HR ns no i k1 k2 k3 m1 m2 m3) (hk : ∀ n, 1 ≤ n → n ≤ 600 → ns n = 1 → no n = nI i → ns' n = 1 ∧ no' n = nI i) : HR ns' no' i k1 k2 k3 m1 m2 m3 := by
  rcases h with ⟨lo, hi, mk, a1, a2, a3, a4, a5, a6, a7, a8, a9, a10, a11⟩ | h
  · exact Or.inl ⟨lo, hi, mk, a1, a2, a3, a4, a5, a6, a7, a8, a9, a10, fun n h1 h2 => hk n (by omega) (by omega) (a11 n h1 h2).1 (a11 n h1 h2).2⟩
  · exact Or.inr h
/-- what is left for a clerk beside what the clerk holds -/
def av (ns cs : Nat → Int32) : Nat := cnt (fun k => decide (ns k = 0)) 1 600 + if cs 1 = 1 then cnt (fun k => decide (ns k = 3)) 1 600 else 0
theorem isClerk_t {C i : Nat} (h : i < C) (hC : C ≤ 6) : f_X2_isClerk (nI C) (nI i) = 1 := by
  unfold f_X2_isClerk
  rw [if_neg (nI_pos (by omega)), if_neg (nI_ge h (by omega)), if_neg (show ¬ (6 : Int32) ≤ nI i from nI_ge (a := i) (b := 6) (by omega) (by omega))]
theorem isNumber_t {n : Nat} (h : 1 ≤ n) (h6 : n ≤ 600) : f_X1_isNumber (nI n) = 1 := by
  unfold f_X1_isNumber
  rw [if_neg (show ¬ nI n < 1 from nI_nlt (a := n) (b := 1) h (by omega)), if_neg (g600f h6)]
theorem num4 (s : Int32) (h : s = 0 ∨ s = 3) : ¬ s = 1 ∧ ¬ s = 2 ∧ ¬ s = 4 := by rcases h with rfl | rfl <;> decide
set_option maxHeartbeats 1000000 in
theorem block_J {K : Nat} (hK : 1000 ≤ K) {d T F C Y : Nat} {ns no nr nt nd ni : Nat → Int32} {nm nf : Int32} {cl : Nat → Nat → Int32} {cc : Int32} {cs : Nat → Int32} {ct : Int32} {zs : Nat → Int32} (hJ : JJ d T F C Y ns no nr nt nd ni nm nf cl cc cs ct zs) {i : Nat} (hi : i < C) {a : Nat} (ha1 : 1 ≤ a) (ha6 : a ≤ 600) (hS : f_X2_startOfBlock K ns (nI F) cs = some (nI a)) (hB : f_X5_blockFrom K zs = some (nI a)) (hs : (cs 1 = 1 ∧ ns a = 3) ∨ (a = F ∧ ns a = 0)) :
    ∃ (F' : Nat) (ns' no' nr' : Nat → Int32) (cl' : Nat → Nat → Int32) (zs' : Nat → Int32) (lo hn : Nat), f_X2_handOut K ns no nr nf cl cc cs (nI i) = some (ns', no', nr', nI F', cl') ∧ f_X5_getBlock K zs (nI i) = some zs' ∧ JJ d T F' C Y ns' no' nr' nt nd ni nm (nI F') cl' cc cs ct zs' ∧ 0 < hn ∧ f_X0_held (cl' i) = nI hn ∧ hn ≤ 600 ∧ av ns' cs + hn = av ns cs := by
  obtain ⟨⟨e5, e5'⟩, ⟨rfl, f1, f6⟩, ⟨rfl, e3, c6⟩, ⟨ey, ey', y1⟩, hN, hT, hC, hSs⟩ := hJ
  obtain ⟨s0, s1, s2, ⟨B, b1, b5, eB⟩, s5, s6⟩ := hSs
  have hs03 : ns a = 0 ∨ ns a = 3 := by rcases hs with h | h; exact Or.inr h.2; exact Or.inl h.2
  obtain ⟨n1, n2, n4⟩ := num4 _ hs03
  generalize hst : ns a = st at hs03 n1 n2 n4
  have hH : ∀ n, 1 ≤ n → n ≤ 600 → ns n = st → no n = (-1) ∧ nr n = (-1) := by
    intro n g1 g2 g3
    obtain ⟨-, -, -, -, -, h7, h8, -⟩ := hN n g1 g2
    rw [g3] at h7 h8
    exact ⟨h7 hs03, h8 n4⟩
  obtain ⟨l, hl⟩ : ∃ l, l = run (isS ns st) (a + 1) (B - 1) := ⟨_, rfl⟩
  have hisa : isS ns st a = true := by
    unfold isS
    simp
    exact ⟨ha6, hst⟩
  have hrun : run (isS ns st) a B = l + 1 := by
    obtain ⟨B', rfl⟩ : ∃ z, B = z + 1 := ⟨B - 1, by omega⟩
    show (if isS ns st a then run (isS ns st) (a + 1) B' + 1 else 0) = _
    rw [if_pos hisa, hl]
    rfl
  have hall : ∀ j, a ≤ j → j < a + (l + 1) → j ≤ 600 ∧ ns j = st := by
    intro j g1 g2
    rw [← hrun] at g2
    have := run_all B a j g1 g2
    unfold isS at this
    simpa using this
  have hl6 : a + l ≤ 600 := (hall (a + l) (by omega) (by omega)).1
  -- the class
  have hlr : f_X1_lastOfRow K ns no nr (nI a) ((nI a + cs 0) - 1) = some (nI (a + l)) := by
    unfold f_X1_lastOfRow
    rw [eB, nI_add, nI_s1 (by omega), show a + B - 1 = a + (B - 1) by omega, lr_loop hH (B - 1) a K (by omega) ha1 ha6 (by omega) hst, hl]
  obtain ⟨ck', r1, r2, r3, r4, r5, r6, r7, r8⟩ := receive_eq (a := a) (e := a + l + 1) ha1 (cl i)
  have hput := put_eq hK ns no nr (F := F) (a := a) (b := a + l) f6 ha1 (by omega) hl6 1 (nI i) (-1)
  have hHO : f_X2_handOut K ns no nr (nI F) cl (nI C) cs (nI i) = some (pz ns a (a + l) 1, pz no a (a + l) (nI i), pz nr a (a + l) (-1), nI (max F (a + l + 1)), va_up cl i ck') := by
    unfold f_X2_handOut
    rw [hS]
    show (if f_X2_isClerk (nI C) (nI i) = 0 then _ else if f_X1_isNumber (nI a) = 0 then _ else _) = _
    rw [isClerk_t hi c6, isNumber_t ha1 ha6, if_neg (by decide), if_neg (by decide), hlr]
    show (f_X1_put K ns no nr (nI F) (nI a) (nI (a + l)) 1 (nI i) (-1)).bind _ = _
    rw [hput]
    show ix (nI i) 6 ((f_X0_receive (cl (nI i).toNatClampNeg) (nI a) (nI (a + l))).bind fun y22 => nb (va_up cl (nI i).toNatClampNeg y22) fun y25 => some (pz ns a (a + l) 1, pz no a (a + l) (nI i), pz nr a (a + l) (-1), nI (max F (a + l + 1)), y25)) = _
    have r1' : f_X0_receive (cl i) (nI a) (nI (a + l)) = some ck' := r1
    rw [ix_nI (by omega) (by omega), cl_nI (by omega), r1']
    rfl
  -- the reference
  obtain ⟨zw, hzw⟩ : ∃ z, z = wz (wz zs a (a + l) 0 1) a (a + l) 1 (nI i) := ⟨_, rfl⟩
  obtain ⟨zs', g1, g2, g3, g4, g5, g6⟩ := gbT_eq (i := i) (a := a) (e := a + l + 1) (by omega) ha1 (by omega) (by omega) zw
  have hza : zs (48 + 5 * a) = st := (hN a ha1 ha6).1.trans hst
  have hGB : f_X5_getBlock K zs (nI i) = some zs' := by
    unfold f_X5_getBlock
    rw [hB]
    show ix (f_X5_n (nI a) + 0) 3053 (f_X5_getBlock_26 (nI i) (f_X5_c (nI i)) (nI a) (zs (f_X5_n (nI a) + 0).toNatClampNeg) K (nI a) zs) = _
    rw [n_nI, nI_a0, c_nI, ix_nI (by omega) (by omega), cl_nI (by omega), hza, gb_loop (nI i) st (nI (6 + 7 * i)) a B ha1 b5 (isS ns st) B a K zs rfl (by omega) (Nat.le_refl a) (by omega) (s0.trans eB) ?_, hrun]
    · rw [show a + (l + 1) - 1 = a + l by omega, ← hzw]
      exact g1
    · intro j hj
      unfold isS
      by_cases h6 : j ≤ 600
      · rw [(hN j (by omega) h6).1]
      · simp [h6]
  -- fields of the new row
  have zl : ∀ j, j < 6 → zs' j = zs j := fun j hj => by rw [g2 j (by omega), hzw, wz_low (by omega), wz_low (by omega)]
  have zn : ∀ n k, 1 ≤ n → k < 5 → (n < a ∨ a + l < n ∨ 2 ≤ k) → zs' (48 + 5 * n + k) = zs (48 + 5 * n + k) := by
    intro n k h1 hk h
    rw [g2 _ (by omega), hzw]
    rcases h with h | h | h
    · rw [wz_out (by omega) (by omega) hk, wz_out (by omega) (by omega) hk]
    · rw [wz_out (by omega) (by omega) hk, wz_out (by omega) (by omega) hk]
    · rw [wz_ne (by omega) (by omega) hk, wz_ne (by omega) (by omega) hk]
  have zi0 : ∀ n, a ≤ n → n ≤ a + l → zs' (48 + 5 * n) = 1 := by
    intro n h1 h2
    have := wz_in (f := zs) (a := a) (b := a + l) (n := n) (k := 0) (v := 1) h1 h2 (by omega)
    rw [g2 _ (by omega), hzw]
    have q := wz_ne (f := wz zs a (a + l) 0 1) (a := a) (b := a + l) (n := n) (k := 1) (c := 0) (v := nI i) (by omega) (by omega) (by omega)
    exact q.trans this
  have zi1 : ∀ n, a ≤ n → n ≤ a + l → zs' (48 + 5 * n + 1) = nI i := by
    intro n h1 h2
    rw [g2 _ (by omega), hzw]
    exact wz_in h1 h2 (by omega)
  have hF : (a = F ∧ st = 0) ∨ (st = 3 ∧ a + l < F) := by
    rcases hs with h | h
    · refine Or.inr ⟨hst.symm.trans h.2, ?_⟩
      have h3 : ns (a + l) = 3 := (hall (a + l) (by omega) (by omega)).2.trans (hst.symm.trans h.2)
      rcases Nat.lt_or_ge (a + l) F with z | z
      · exact z
      · have := (hN (a + l) (by omega) hl6).2.2.2.2.1.mpr z
        rw [h3] at this
        exact absurd this (by decide)
    · exact Or.inl ⟨h.1, hst.symm.trans h.2⟩
  refine ⟨max F (a + l + 1), _, _, _, _, zs', a, l + 1, hHO, hGB, ⟨⟨e5, (zl 5 (by omega)).trans e5'⟩, ⟨rfl, by omega, by omega⟩, ⟨rfl, (zl 3 (by omega)).trans e3, c6⟩, ⟨ey, (zl 4 (by omega)).trans ey', y1⟩, ?_, hT, ?_, ⟨(zl 0 (by omega)).trans s0, (zl 1 (by omega)).trans s1, (zl 2 (by omega)).trans s2, ⟨B, b1, b5, eB⟩, s5, s6⟩⟩, by omega, ?_, by omega, ?_⟩
  · intro n h1 h2
    obtain ⟨q1, q2, q3, q4, q5, q6, q7, q8, q9, q10, q11⟩ := hN n h1 h2
    by_cases hin : a ≤ n ∧ n ≤ a + l
    · have hnst := (hall n hin.1 (by omega)).2
      have ht : nt n = (-1) := q10 (by rw [hnst]; rcases hs03 with h | h; exact Or.inl h; exact Or.inr (Or.inr h))
      rw [pz_in hin.1 hin.2, pz_in hin.1 hin.2, pz_in hin.1 hin.2, zi0 n hin.1 hin.2, zi1 n hin.1 hin.2, zn n 2 h1 (by omega) (by omega), zn n 3 h1 (by omega) (by omega), zn n 4 h1 (by omega) (by omega)]
      exact ⟨rfl, rfl, q3, Or.inr (Or.inl rfl), ⟨fun z => absurd z (by decide), fun z => by omega⟩, fun z => by rcases z with z | z <;> exact absurd z (by decide), fun _ => rfl, fun z => absurd z (by decide), fun z => absurd z (by decide), fun _ => ht, q11⟩
    · have z0 := zn n 0 h1 (by omega) (by omega)
      rw [pz_out (by omega), pz_out (by omega), pz_out (by omega), show zs' (48 + 5 * n) = zs (48 + 5 * n) from z0, zn n 1 h1 (by omega) (by omega), zn n 2 h1 (by omega) (by omega), zn n 3 h1 (by omega) (by omega), zn n 4 h1 (by omega) (by omega)]
      refine ⟨q1, q2, q3, q4, ?_, q6, q7, q8, q9, q10, q11⟩
      rw [q5]
      omega
  · intro j hj
    obtain ⟨k1, k2⟩ := hC j hj
    have zc : ∀ k, k < 7 → (j ≠ i ∨ k = 0 ∨ k = 4 ∨ k = 6) → zs' (6 + 7 * j + k) = zs (6 + 7 * j + k) := by
      intro k hk h
      rw [g2 _ (by omega), hzw, wz_low (by omega), wz_low (by omega)]
    have z0 : zs' (6 + 7 * j) = zs (6 + 7 * j) := zc 0 (by omega) (by omega)
    have keep : ∀ n, 1 ≤ n → n ≤ 600 → ns n = 1 → no n = nI j → pz ns a (a + l) 1 n = 1 ∧ pz no a (a + l) (nI i) n = nI j := by
      intro n h1 h2 h3 h4
      have : n < a ∨ a + l < n := by
        rcases Nat.lt_or_ge n a with z | z
        · exact Or.inl z
        · rcases Nat.lt_or_ge (a + l) n with z2 | z2
          · exact Or.inr z2
          · have := (hall n z (by omega)).2
            rw [h3] at this
            exact absurd this.symm n1
      rw [pz_out this, pz_out this]
      exact ⟨h3, h4⟩
    by_cases hji : j = i
    · subst hji
      refine ⟨fun _ => ?_, fun h => absurd hi (by omega)⟩
      obtain ⟨p1, p2, p3, p4, p5, g, p6, p7, p8, p9⟩ := k1 hi
      rw [va_up_self]
      refine ⟨?_, ?_, ?_, ?_, ?_, g, p6, by rw [r6]; exact p7, by rw [r8]; exact p8, by rw [r8]; exact p9⟩
      · rw [z0, r2]; exact p1
      · rw [zc 4 (by omega) (by omega), r6]; exact p2
      · have : zw (6 + 7 * j + 5) = zs (6 + 7 * j + 5) := by rw [hzw, wz_low (by omega), wz_low (by omega)]
        rw [g6, r7, this, p3]
      · rw [zc 6 (by omega) (by omega), r8]; exact p4
      · have hk0 : zw (6 + 7 * j) = cl j 0 := by rw [hzw, wz_low (by omega), wz_low (by omega)]; exact p1
        rw [r3, r4, r5, g3, g4, g5, hk0]
        by_cases hd : cl j 0 = 2
        · rw [if_pos hd]
          exact Or.inl ⟨a, a + l, a + l, ha1, by omega, hl6, by omega, rfl, rfl, rfl, rfl, rfl, rfl, fun n h1 h2 => ⟨pz_in h1 h2, pz_in h1 h2⟩⟩
        · rw [if_neg hd]
          exact Or.inl ⟨a, a + l, a - 1, ha1, by omega, hl6, by omega, rfl, rfl, rfl, rfl, rfl, rfl, fun n h1 h2 => ⟨pz_in h1 h2, pz_in h1 h2⟩⟩
    · rw [va_up_ne _ _ hji]
      refine ⟨fun h => ?_, fun h => ?_⟩
      · obtain ⟨p1, p2, p3, p4, p5, p6⟩ := k1 h
        refine ⟨by rw [z0]; exact p1, by rw [zc 4 (by omega) (by omega)]; exact p2, by rw [zc 5 (by omega) (by omega)]; exact p3, by rw [zc 6 (by omega) (by omega)]; exact p4, ?_, p6⟩
        rw [zc 1 (by omega) (by omega), zc 2 (by omega) (by omega), zc 3 (by omega) (by omega)]
        exact HR_keep p5 keep
      · obtain ⟨p1, p2, p3, p4⟩ := k2 h
        exact ⟨p1, by rw [zc 3 (by omega) (by omega)]; exact p2, by rw [zc 4 (by omega) (by omega)]; exact p3, by rw [zc 5 (by omega) (by omega)]; exact p4⟩
  · rw [va_up_self]
    unfold f_X0_held
    rw [r3, r4]
    exact (held1 (lo := a) (hi := a + l) (by omega) (by omega)).trans (by rw [show a + l - a + 1 = l + 1 by omega])
  · have cr : ∀ s, ¬ s = (1 : Int32) → (s = st → cnt (fun k => decide (ns k = s)) 1 600 = cnt (fun k => decide (pz ns a (a + l) 1 k = s)) 1 600 + (l + 1)) ∧ (¬ s = st → cnt (fun k => decide (ns k = s)) 1 600 = cnt (fun k => decide (pz ns a (a + l) 1 k = s)) 1 600) := by
      intro s hs1
      refine ⟨fun h => ?_, fun h => ?_⟩
      · refine cnt_range a (l + 1) _ (fun j h1 h2 => by rw [h]; exact decide_eq_true (hall j h1 h2).2) (fun j => ?_) ha1 (by omega)
        by_cases hin : a ≤ j ∧ j ≤ a + l
        · have h2 : j < a + (l + 1) := by omega
          rw [pz_in hin.1 hin.2]
          simp [hin.1, h2]
          exact fun z => hs1 z.symm
        · rw [pz_out (by omega)]
          by_cases h1 : a ≤ j
          · have h2 : ¬ j < a + (l + 1) := by omega
            simp [h2]
          · simp [h1]
      · refine cnt_congr 600 1 (fun j _ _ => ?_)
        by_cases hin : a ≤ j ∧ j ≤ a + l
        · rw [pz_in hin.1 hin.2, (hall j hin.1 (by omega)).2]
          simp
          exact ⟨fun z => absurd z.symm h, fun z => absurd z.symm hs1⟩
        · rw [pz_out (by omega)]
    have c0 := cr 0 (by decide)
    have c3 := cr 3 (by decide)
    unfold av
    rcases hF with ⟨-, h⟩ | ⟨h, -⟩
    · rw [c0.1 h.symm, c3.2 (by rw [h]; decide)]
      omega
    · have hcs : cs 1 = 1 := by
        rcases hs with z | z
        · exact z.1
        · rw [z.2] at hst; rw [h] at hst; exact absurd hst (by decide)
      rw [if_pos hcs, if_pos hcs, c3.1 h.symm, c0.2 (by rw [h]; decide)]
      omega
