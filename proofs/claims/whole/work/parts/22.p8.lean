/-! PURE SIDE: forget, giveBack, makeVoid, close, clerk, set keep the relation. -/
theorem sub_add1 (a b : Int32) : a - b + 1 = (a + 1) - b := by
  simp only [Int32.sub_eq_add_neg, Int32.add_assoc]
  rw [Int32.add_comm (-b) 1]
theorem loss_eq {lo hi mk : Nat} {ck : Nat → Int32} (h1 : lo ≤ 601) (h2 : hi ≤ 600) (h3 : mk ≤ hi) (a1 : ck 1 = nI lo) (a2 : ck 2 = nI hi) (a3 : ck 3 = nI mk) : f_X0_lastLost ck = nI mk ∧ f_X0_loss ck = nI (mk + 1 - lo) := by
  have e : f_X0_lastLost ck = nI mk := by
    unfold f_X0_lastLost
    rw [a2, a3, imin_nI (by omega) (by omega), Nat.min_eq_left h3]
  refine ⟨e, ?_⟩
  unfold f_X0_loss
  rw [e, a1, sub_add1, nI_1]
  by_cases h : lo ≤ mk + 1
  · rw [pk_sub h]
    have := imax_nI (a := 0) (b := mk + 1 - lo) (by omega) (by omega)
    rw [Nat.max_eq_right (by omega)] at this
    exact this
  · unfold imax
    rw [if_neg, show mk + 1 - lo = 0 by omega]
    · rfl
    · intro z
      have z2 := Int32.lt_iff_toInt_lt.mp z
      rw [pk_sub_toInt (by omega) (by omega)] at z2
      have e0 : (0 : Int32).toInt = 0 := by decide
      rw [e0] at z2
      omega
theorem held_lt {ns no nr nt nd ni zs : Nat → Int32} {T F n : Nat} (hN : JN T F ns no nr nt nd ni zs) (h1 : 1 ≤ n) (h2 : n ≤ 600) (h : ¬ ns n = 0) : n < F := by
  rcases Nat.lt_or_ge n F with z | z
  · exact z
  · exact absurd ((hN n h1 h2).2.2.2.2.1.mpr z) h
set_option maxHeartbeats 1000000 in
theorem forget_J {K : Nat} (hK : 1000 ≤ K) {d T F C Y : Nat} {ns no nr nt nd ni : Nat → Int32} {nm nf : Int32} {cl : Nat → Nat → Int32} {cc : Int32} {cs : Nat → Int32} {ct : Int32} {zs : Nat → Int32} (hJ : JJ d T F C Y ns no nr nt nd ni nm nf cl cc cs ct zs) {i : Nat} (hi : i < C) {hn : Nat} (hn0 : 0 < hn) (hn6 : hn ≤ 600) (hh : f_X0_held (cl i) = nI hn) :
    ∃ (l : Nat) (ns' no' nr' : Nat → Int32) (nf' : Int32) (cl' : Nat → Nat → Int32) (zs' : Nat → Int32), l ≤ 600 ∧ f_X2_letForget K ns no nr nf cl cc (nI i) = some (nI l, ns', no', nr', nf', cl') ∧ f_X5_goForget K zs (nI i) = some (nI l, zs') ∧ f_X0_loss (cl i) = nI l ∧ JJ d T F C Y ns' no' nr' nt nd ni nm nf' cl' cc cs ct zs' := by
  obtain ⟨t5, ⟨rfl, f1, f6⟩, ⟨rfl, e3, c6⟩, t4, hN, hT, hC, hSs⟩ := id hJ
  have hi6 : i < 6 := by omega
  obtain ⟨p1, p2, p3, p4, p5, p6⟩ := (hC i hi6).1 hi
  obtain ⟨hn', q0, q1, q2, q3⟩ := HR_held p5
  have ehn : hn' = hn := nI_inj (by omega) (by omega) (q1.symm.trans hh)
  subst ehn
  rcases Or.symm q3 with ⟨z, -⟩ | ⟨-, lo, hi', mk, b1, b2, b3, b4, b5, b6, b7, b8, b9, b10, b11, b12⟩
  · omega
  obtain ⟨l1, l2⟩ := loss_eq (lo := lo) (hi := hi') (mk := mk) (ck := cl i) (by omega) b3 b4 b6 b7 b8
  by_cases hl : lo ≤ mk
  · have hput := put_eq hK ns no nr (F := F) (a := lo) (b := mk) f6 b1 (by omega) (by omega) 4 (nI i) 0
    have hmF : mk < F := held_lt hN (by omega) (by omega) (by rw [(b12 mk hl b4).1]; decide)
    rw [Nat.max_eq_left (by omega)] at hput
    refine ⟨mk + 1 - lo, pz ns lo mk 4, pz no lo mk (nI i), pz nr lo mk 0, nI F, va_up cl i (upd (cl i) 1 (nI (mk + 1))), upd (hz zs lo mk 0) (6 + 7 * i + 1) (nI (mk + 1)), by omega, ?_, ?_, l2, ⟨?_, ⟨rfl, f1, f6⟩, ⟨rfl, ?_, c6⟩, ?_, ?_, hT, ?_, ?_⟩⟩
    · unfold f_X2_letForget
      rw [isClerk_t hi c6, if_neg (by decide), ix_nI (by omega) (by omega), cl_nI (by omega), hh, if_pos (show (0 : Int32) < nI hn' from nI_lt (a := 0) hn0 (by omega)), l2, if_neg (nI_nle (by omega) (by omega)), b6, l1, hput]
      show (nb (va_up cl i (upd (cl i) 1 (nI lo + nI (mk + 1 - lo)))) fun y20 => some (nI (mk + 1 - lo), pz ns lo mk 4, pz no lo mk (nI i), pz nr lo mk 0, nI F, y20)) = _
      rw [nI_add, show lo + (mk + 1 - lo) = mk + 1 by omega]
      rfl
    · unfold f_X5_goForget
      rw [c_nI, fg_loop hi6 b4 b3 (mk + 1 - lo) lo K 0 zs (by omega) (by omega) b1 b9 b10 b11, Int32.zero_add]
    · exact ⟨t5.1, by rw [pk_un (by omega), hz_lo (by omega)]; exact t5.2⟩
    · rw [pk_un (by omega), hz_lo (by omega)]; exact e3
    · exact ⟨t4.1, by rw [pk_un (by omega), hz_lo (by omega)]; exact t4.2.1, t4.2.2⟩
    · refine JN_hole hN (fun n => lo ≤ n ∧ n ≤ mk) 0 (by decide) (fun n h1 h2 => ?_) (fun n k h1 h2 hk => ?_)
      · rw [pk_un (by omega), pk_un (by omega), show hz zs lo mk 0 (48 + 5 * n) = _ from hz_n (k := 0) (by omega), hz_n (by omega)]
        by_cases h : lo ≤ n ∧ n ≤ mk
        · refine Or.inl ⟨h, Or.inl (b12 n h.1 (by omega)).1, pz_in h.1 h.2, ?_, pz_in h.1 h.2, ?_, ?_⟩
          · rw [pz_in h.1 h.2]; exact (b12 n h.1 (by omega)).2.symm
          · rw [if_pos h, if_pos rfl]
          · rw [if_pos h, if_neg (by omega), if_pos rfl]
        · exact Or.inr ⟨h, pz_out (by omega), pz_out (by omega), pz_out (by omega), by rw [if_neg h]; rfl, by rw [if_neg h]⟩
      · rw [pk_un (by omega), hz_n (by omega)]
        split
        · rw [if_neg (by omega), if_neg (by omega)]
        · rfl
    · intro j hj
      by_cases hji : j = i
      · subst hji
        refine ⟨fun _ => ?_, fun h => absurd hi (by omega)⟩
        rw [va_up_self]
        have z0 : upd (hz zs lo mk 0) (6 + 7 * j + 1) (nI (mk + 1)) (6 + 7 * j) = zs (6 + 7 * j) := by rw [pk_un (by omega), hz_lo (by omega)]
        refine ⟨z0.trans p1, ?_, ?_, ?_, ?_, p6⟩
        · rw [pk_un (by omega), hz_lo (by omega)]; exact p2
        · rw [pk_un (by omega), hz_lo (by omega)]; exact p3
        · rw [pk_un (by omega), hz_lo (by omega)]; exact p4
        · have w1 : upd (hz zs lo mk 0) (6 + 7 * j + 1) (nI (mk + 1)) (6 + 7 * j + 1) = nI (mk + 1) := pk_us
          have w2 : upd (hz zs lo mk 0) (6 + 7 * j + 1) (nI (mk + 1)) (6 + 7 * j + 2) = nI hi' := by rw [pk_un (by omega), hz_lo (by omega), b10]
          have w3 : upd (hz zs lo mk 0) (6 + 7 * j + 1) (nI (mk + 1)) (6 + 7 * j + 3) = nI mk := by rw [pk_un (by omega), hz_lo (by omega), b11]
          rw [w1, w2, w3]
          show HR _ _ j (nI (mk + 1)) (cl j 2) (cl j 3) _ _ _
          rw [b7, b8]
          by_cases hmh : mk = hi'
          · subst hmh
            exact Or.inr ⟨mk, mk, mk, b3, Nat.le_refl _, b3, rfl, rfl, rfl, rfl, rfl⟩
          · exact Or.inl ⟨mk + 1, hi', mk, by omega, by omega, b3, b4, rfl, rfl, rfl, rfl, rfl, rfl, fun n h1 h2 => by
              rw [pz_out (by omega), pz_out (by omega)]
              exact b12 n (by omega) h2⟩
      · rw [va_up_ne _ _ hji]
        refine JC_keep hC hj (fun k hk => by rw [pk_un (by omega), hz_lo (by omega)]) (fun n h1 h2 h3 h4 => ?_)
        have : n < lo ∨ mk < n := by
          rcases Nat.lt_or_ge n lo with z | z
          · exact Or.inl z
          · rcases Nat.lt_or_ge mk n with z2 | z2
            · exact Or.inr z2
            · have := (b12 n z (by omega)).2
              rw [h4] at this
              exact absurd (nI_inj (by omega) (by omega) this) hji
        rw [pz_out this, pz_out this]
        exact ⟨h3, h4⟩
    · obtain ⟨s0, s1, s2, s3⟩ := hSs
      exact ⟨by rw [pk_un (by omega), hz_lo (by omega)]; exact s0, by rw [pk_un (by omega), hz_lo (by omega)]; exact s1, by rw [pk_un (by omega), hz_lo (by omega)]; exact s2, s3⟩
  · have e0 : mk + 1 - lo = 0 := by omega
    rw [e0] at l2
    refine ⟨0, ns, no, nr, nI F, cl, zs, by omega, ?_, ?_, l2, hJ⟩
    · unfold f_X2_letForget
      rw [isClerk_t hi c6, if_neg (by decide), ix_nI (by omega) (by omega), cl_nI (by omega), hh, if_pos (show (0 : Int32) < nI hn' from nI_lt (a := 0) hn0 (by omega)), l2, if_pos (by decide)]
    · unfold f_X5_goForget
      obtain ⟨K', rfl⟩ : ∃ z, K = z + 1 := ⟨K - 1, by omega⟩
      rw [c_nI, f_X5_goForget_7, holds_eq hi6, q2]
      show (if nI hn' ≤ 0 then _ else _) = _
      rw [if_neg (nI_nle (by omega) (by omega)), nI_1, nI_a3, ix_nI (by omega) (by omega), ix_nI (by omega) (by omega), cl_nI (by omega), cl_nI (by omega), b9, b11, if_pos (nI_lt (by omega) (by omega))]
      rfl
set_option maxHeartbeats 1000000 in
theorem back_J {K : Nat} (hK : 1000 ≤ K) {d T F C Y : Nat} {ns no nr nt nd ni : Nat → Int32} {nm nf : Int32} {cl : Nat → Nat → Int32} {cc : Int32} {cs : Nat → Int32} {ct : Int32} {zs : Nat → Int32} (hJ : JJ d T F C Y ns no nr nt nd ni nm nf cl cc cs ct zs) {i : Nat} (hi : i < C) {hn : Nat} (hn0 : 0 < hn) (hn6 : hn ≤ 600) (hh : f_X0_held (cl i) = nI hn) :
    ∃ (ns' no' nr' : Nat → Int32) (nf' : Int32) (cl' : Nat → Nat → Int32) (zs' : Nat → Int32), f_X2_takeBack K ns no nr nf cl cc cs (nI i) = some (nI hn, ns', no', nr', nf', cl') ∧ f_X5_goBack K zs (nI i) = some (nI hn, zs') ∧ JJ d T F C Y ns' no' nr' nt nd ni nm nf' cl' cc cs ct zs' := by
  obtain ⟨t5, ⟨rfl, f1, f6⟩, ⟨rfl, e3, c6⟩, t4, hN, hT, hC, hSs⟩ := id hJ
  have hi6 : i < 6 := by omega
  obtain ⟨p1, p2, p3, p4, p5, p6⟩ := (hC i hi6).1 hi
  obtain ⟨hn', q0, q1, q2, q3⟩ := HR_held p5
  have ehn : hn' = hn := nI_inj (by omega) (by omega) (q1.symm.trans hh)
  subst ehn
  rcases Or.symm q3 with ⟨z, -⟩ | ⟨-, lo, hi', mk, b1, b2, b3, b4, b5, b6, b7, b8, b9, b10, b11, b12⟩
  · omega
  have hmF : hi' < F := held_lt hN (by omega) (by omega) (by rw [(b12 hi' b2 (Nat.le_refl _)).1]; decide)
  obtain ⟨s0, s1, s2, s3, s5, s6⟩ := id hSs
  have apart : ∀ j n, j < 6 → j ≠ i → no n = nI j → n < lo ∨ hi' < n := by
    intro j n hj hji h4
    rcases Nat.lt_or_ge n lo with z | z
    · exact Or.inl z
    · rcases Nat.lt_or_ge hi' n with z2 | z2
      · exact Or.inr z2
      · have := (b12 n z z2).2
        rw [h4] at this
        exact absurd (nI_inj (by omega) (by omega) this) hji
  have drop : ∀ ck : Nat → Int32, f_X0_drop ck = some (upd (upd (upd ck 1 1) 2 0) 3 0) := fun ck => rfl
  by_cases hc : cs 1 = 1
  · have hput := put_eq hK ns no nr (F := F) (a := lo) (b := hi') f6 b1 (by omega) (by omega) 3 (-1) (-1)
    rw [Nat.max_eq_left (by omega)] at hput
    refine ⟨pz ns lo hi' 3, pz no lo hi' (-1), pz nr lo hi' (-1), nI F, va_up cl i (upd (upd (upd (cl i) 1 1) 2 0) 3 0), upd (fz zs lo hi') (6 + 7 * i + 1) (nI (hi' + 1)), ?_, ?_, ⟨?_, ⟨rfl, f1, f6⟩, ⟨rfl, ?_, c6⟩, ?_, ?_, hT, ?_, ?_⟩⟩
    · unfold f_X2_takeBack
      rw [isClerk_t hi c6, if_neg (by decide), ix_nI (by omega) (by omega), cl_nI (by omega), hh, if_pos (show (0 : Int32) < nI hn' from nI_lt (a := 0) hn0 (by omega)), if_pos hc, b6, b7, hput]
      rfl
    · unfold f_X5_goBack
      rw [holds_eq hi6, q2, c_nI]
      exact bf_loop hi6 b3 (nI hn') (hi' + 1 - lo) lo K zs (by omega) (by omega) b1 b9 b10 (s1.trans hc)
    · exact ⟨t5.1, by rw [pk_un (by omega), fz_lo (by omega)]; exact t5.2⟩
    · rw [pk_un (by omega), fz_lo (by omega)]; exact e3
    · exact ⟨t4.1, by rw [pk_un (by omega), fz_lo (by omega)]; exact t4.2.1, t4.2.2⟩
    · intro n h1 h2
      obtain ⟨q1, q2, q3, q4, q5, q6, q7, q8, q9, q10, q11⟩ := hN n h1 h2
      have z0 := fz_n (f := zs) (a := lo) (b := hi') (n := n) (k := 0) (by omega)
      rw [pk_un (by omega), pk_un (by omega), pk_un (by omega), pk_un (by omega), pk_un (by omega), show fz zs lo hi' (48 + 5 * n) = _ from z0, fz_n (k := 1) (by omega), fz_n (k := 2) (by omega), fz_n (k := 3) (by omega), fz_n (k := 4) (by omega)]
      by_cases h : lo ≤ n ∧ n ≤ hi'
      · have hx := b12 n h.1 h.2
        have ht := q10 (Or.inr (Or.inl hx.1))
        rw [if_pos h, if_pos h, if_pos h, if_pos h, if_pos h, if_pos rfl, if_neg (by omega), if_pos rfl, if_neg (by omega), if_neg (by omega), if_neg (by omega), if_neg (by omega), if_neg (by omega), if_neg (by omega), pz_in h.1 h.2, pz_in h.1 h.2, pz_in h.1 h.2]
        exact ⟨rfl, rfl, q3, Or.inr (Or.inr (Or.inr (Or.inl rfl))), ⟨fun z => absurd z (by decide), fun z => by have := held_lt hN h1 h2 (by rw [hx.1]; decide); omega⟩, fun _ => rfl, fun _ => rfl, fun z => absurd z (by decide), fun z => absurd z (by decide), fun _ => ht, q11⟩
      · rw [if_neg h, if_neg h, if_neg h, if_neg h, if_neg h, pz_out (by omega), pz_out (by omega), pz_out (by omega)]
        exact ⟨q1, q2, q3, q4, q5, q6, q7, q8, q9, q10, q11⟩
    · intro j hj
      by_cases hji : j = i
      · subst hji
        refine ⟨fun _ => ?_, fun h => absurd hi (by omega)⟩
        rw [va_up_self]
        have z0 : upd (fz zs lo hi') (6 + 7 * j + 1) (nI (hi' + 1)) (6 + 7 * j) = zs (6 + 7 * j) := by rw [pk_un (by omega), fz_lo (by omega)]
        refine ⟨z0.trans p1, ?_, ?_, ?_, ?_, p6⟩
        · rw [pk_un (by omega), fz_lo (by omega)]; exact p2
        · rw [pk_un (by omega), fz_lo (by omega)]; exact p3
        · rw [pk_un (by omega), fz_lo (by omega)]; exact p4
        · have w1 : upd (fz zs lo hi') (6 + 7 * j + 1) (nI (hi' + 1)) (6 + 7 * j + 1) = nI (hi' + 1) := pk_us
          have w2 : upd (fz zs lo hi') (6 + 7 * j + 1) (nI (hi' + 1)) (6 + 7 * j + 2) = nI hi' := by rw [pk_un (by omega), fz_lo (by omega), b10]
          rw [w1, w2]
          exact Or.inr ⟨0, 0, hi', by omega, by omega, b3, rfl, rfl, rfl, rfl, rfl⟩
      · rw [va_up_ne _ _ hji]
        refine JC_keep hC hj (fun k hk => by rw [pk_un (by omega), fz_lo (by omega)]) (fun n h1 h2 h3 h4 => ?_)
        have := apart j n hj hji h4
        rw [pz_out this, pz_out this]
        exact ⟨h3, h4⟩
    · exact ⟨by rw [pk_un (by omega), fz_lo (by omega)]; exact s0, by rw [pk_un (by omega), fz_lo (by omega)]; exact s1, by rw [pk_un (by omega), fz_lo (by omega)]; exact s2, s3, s5, s6⟩
  · have hput := put_eq hK ns no nr (F := F) (a := lo) (b := hi') f6 b1 (by omega) (by omega) 4 (nI i) 1
    rw [Nat.max_eq_left (by omega)] at hput
    refine ⟨pz ns lo hi' 4, pz no lo hi' (nI i), pz nr lo hi' 1, nI F, va_up cl i (upd (upd (upd (cl i) 1 1) 2 0) 3 0), upd (hz zs lo hi' 1) (6 + 7 * i + 1) (nI (hi' + 1)), ?_, ?_, ⟨?_, ⟨rfl, f1, f6⟩, ⟨rfl, ?_, c6⟩, ?_, ?_, hT, ?_, ?_⟩⟩
    · unfold f_X2_takeBack
      rw [isClerk_t hi c6, if_neg (by decide), ix_nI (by omega) (by omega), cl_nI (by omega), hh, if_pos (show (0 : Int32) < nI hn' from nI_lt (a := 0) hn0 (by omega)), if_neg hc, b6, b7, hput]
      rfl
    · unfold f_X5_goBack
      rw [holds_eq hi6, q2, c_nI]
      exact bh_loop hi6 b3 (nI hn') (hi' + 1 - lo) lo K zs (by omega) (by omega) b1 b9 b10 (fun z => hc (s1.symm.trans z))
    · exact ⟨t5.1, by rw [pk_un (by omega), hz_lo (by omega)]; exact t5.2⟩
    · rw [pk_un (by omega), hz_lo (by omega)]; exact e3
    · exact ⟨t4.1, by rw [pk_un (by omega), hz_lo (by omega)]; exact t4.2.1, t4.2.2⟩
    · refine JN_hole hN (fun n => lo ≤ n ∧ n ≤ hi') 1 (by decide) (fun n h1 h2 => ?_) (fun n k h1 h2 hk => ?_)
      · rw [pk_un (by omega), pk_un (by omega), show hz zs lo hi' 1 (48 + 5 * n) = _ from hz_n (k := 0) (by omega), hz_n (by omega)]
        by_cases h : lo ≤ n ∧ n ≤ hi'
        · refine Or.inl ⟨h, Or.inl (b12 n h.1 (by omega)).1, pz_in h.1 h.2, ?_, pz_in h.1 h.2, ?_, ?_⟩
          · rw [pz_in h.1 h.2]; exact (b12 n h.1 (by omega)).2.symm
          · rw [if_pos h, if_pos rfl]
          · rw [if_pos h, if_neg (by omega), if_pos rfl]
        · exact Or.inr ⟨h, pz_out (by omega), pz_out (by omega), pz_out (by omega), by rw [if_neg h]; rfl, by rw [if_neg h]⟩
      · rw [pk_un (by omega), hz_n (by omega)]
        split
        · rw [if_neg (by omega), if_neg (by omega)]
        · rfl
    · intro j hj
      by_cases hji : j = i
      · subst hji
        refine ⟨fun _ => ?_, fun h => absurd hi (by omega)⟩
        rw [va_up_self]
        have z0 : upd (hz zs lo hi' 1) (6 + 7 * j + 1) (nI (hi' + 1)) (6 + 7 * j) = zs (6 + 7 * j) := by rw [pk_un (by omega), hz_lo (by omega)]
        refine ⟨z0.trans p1, ?_, ?_, ?_, ?_, p6⟩
        · rw [pk_un (by omega), hz_lo (by omega)]; exact p2
        · rw [pk_un (by omega), hz_lo (by omega)]; exact p3
        · rw [pk_un (by omega), hz_lo (by omega)]; exact p4
        · have w1 : upd (hz zs lo hi' 1) (6 + 7 * j + 1) (nI (hi' + 1)) (6 + 7 * j + 1) = nI (hi' + 1) := pk_us
          have w2 : upd (hz zs lo hi' 1) (6 + 7 * j + 1) (nI (hi' + 1)) (6 + 7 * j + 2) = nI hi' := by rw [pk_un (by omega), hz_lo (by omega), b10]
          rw [w1, w2]
          exact Or.inr ⟨0, 0, hi', by omega, by omega, b3, rfl, rfl, rfl, rfl, rfl⟩
      · rw [va_up_ne _ _ hji]
        refine JC_keep hC hj (fun k hk => by rw [pk_un (by omega), hz_lo (by omega)]) (fun n h1 h2 h3 h4 => ?_)
        have := apart j n hj hji h4
        rw [pz_out this, pz_out this]
        exact ⟨h3, h4⟩
    · exact ⟨by rw [pk_un (by omega), hz_lo (by omega)]; exact s0, by rw [pk_un (by omega), hz_lo (by omega)]; exact s1, by rw [pk_un (by omega), hz_lo (by omega)]; exact s2, s3, s5, s6⟩
