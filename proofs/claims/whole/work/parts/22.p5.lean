/-! PURE SIDE: one number is given. -/
def gvT (x1 : Int32) (zs : Nat → Int32) : Option (Nat → Int32) :=
  ix ((f_X5_c x1) + 1) 3053 <|
  ix ((f_X5_c x1) + 1) 3053 <|
  ix ((f_X5_c x1) + 1) 3053 <|
  nb (upd zs ((f_X5_c x1) + 1).toNatClampNeg ((zs ((f_X5_c x1) + 1).toNatClampNeg) + 1)) fun y10 =>
  ix ((f_X5_n (zs ((f_X5_c x1) + 1).toNatClampNeg)) + 0) 3053 <|
  nb (upd y10 ((f_X5_n (zs ((f_X5_c x1) + 1).toNatClampNeg)) + 0).toNatClampNeg 2) fun y15 =>
  ix ((f_X5_n (zs ((f_X5_c x1) + 1).toNatClampNeg)) + 2) 3053 <|
  nb (upd y15 ((f_X5_n (zs ((f_X5_c x1) + 1).toNatClampNeg)) + 2).toNatClampNeg (y15 5)) fun y20 =>
  ix ((f_X5_n (zs ((f_X5_c x1) + 1).toNatClampNeg)) + 3) 3053 <|
  nb (upd y20 ((f_X5_n (zs ((f_X5_c x1) + 1).toNatClampNeg)) + 3).toNatClampNeg (y20 4)) fun y25 =>
  nb (upd y25 5 ((y25 5) + 1)) fun y27 =>
  ix ((f_X5_c x1) + 4) 3053 <|
  ix ((f_X5_c x1) + 4) 3053 <|
  nb (upd y27 ((f_X5_c x1) + 4).toNatClampNeg ((y27 ((f_X5_c x1) + 4).toNatClampNeg) + 1)) fun y31 =>
  ix ((f_X5_c x1) + 6) 3053 <|
  nb (upd y31 ((f_X5_c x1) + 6).toNatClampNeg (zs ((f_X5_c x1) + 1).toNatClampNeg)) fun y34 =>
  ix ((f_X5_c x1) + 0) 3053 <|
  if (y34 ((f_X5_c x1) + 0).toNatClampNeg) = 0 then (
  ix ((f_X5_c x1) + 3) 3053 <|
  nb (upd y34 ((f_X5_c x1) + 3).toNatClampNeg (zs ((f_X5_c x1) + 1).toNatClampNeg)) fun y52 =>
  some y52)
  else (
  ix ((f_X5_c x1) + 0) 3053 <|
  if (y34 ((f_X5_c x1) + 0).toNatClampNeg) = 1 then (
  ix ((f_X5_c x1) + 3) 3053 <|
  if (zs ((f_X5_c x1) + 1).toNatClampNeg) ≤ (y34 ((f_X5_c x1) + 3).toNatClampNeg) then (
  some y34)
  else (
  ix ((f_X5_c x1) + 2) 3053 <|
  if (y34 ((f_X5_c x1) + 2).toNatClampNeg) ≤ (((zs ((f_X5_c x1) + 1).toNatClampNeg) + (y34 2)) - 1) then (
  ix ((f_X5_c x1) + 2) 3053 <|
  ix ((f_X5_c x1) + 3) 3053 <|
  nb (upd y34 ((f_X5_c x1) + 3).toNatClampNeg (y34 ((f_X5_c x1) + 2).toNatClampNeg)) fun y46 =>
  some y46)
  else (
  ix ((f_X5_c x1) + 3) 3053 <|
  nb (upd y34 ((f_X5_c x1) + 3).toNatClampNeg (((zs ((f_X5_c x1) + 1).toNatClampNeg) + (y34 2)) - 1)) fun y49 =>
  some y49)))
  else (
  some y34))
theorem give_eq (K : Nat) (zs : Nat → Int32) (x1 : Int32) : f_X5_giveOne K zs x1 = (f_X5_holds zs x1).bind fun r => if r = 0 then (f_X5_getBlock K zs x1).bind fun y => gvT x1 y else gvT x1 zs := rfl
/-- the mark behind a number given -/
def mkN (kind : Int32) (lo hi mk W : Nat) : Nat := if kind = 0 then lo else if kind = 1 then (if lo ≤ mk then mk else min (lo + W - 1) hi) else mk
theorem gvT_eq {i lo hi mk W T Y : Nat} (hi6 : i < 6) (h1 : 1 ≤ lo) (h6 : lo ≤ 600) (hh : hi ≤ 600) (hmk : mk ≤ 600) (hW : 2 ≤ W) (hW1 : W ≤ 10) {zs : Nat → Int32} (a1 : zs (6 + 7 * i + 1) = nI lo) (a2 : zs (6 + 7 * i + 2) = nI hi) (a3 : zs (6 + 7 * i + 3) = nI mk) (a4 : zs 2 = nI W) (a5 : zs 5 = nI T) (a6 : zs 4 = nI Y) : ∃ zs', gvT (nI i) zs = some zs' ∧ (∀ j, j ≠ 5 → j ≠ 6 + 7 * i + 1 → j ≠ 6 + 7 * i + 3 → j ≠ 6 + 7 * i + 4 → j ≠ 6 + 7 * i + 6 → j ≠ 48 + 5 * lo → j ≠ 48 + 5 * lo + 2 → j ≠ 48 + 5 * lo + 3 → zs' j = zs j) ∧ zs' 5 = nI (T + 1) ∧ zs' (6 + 7 * i + 1) = nI (lo + 1) ∧ zs' (6 + 7 * i + 3) = nI (mkN (zs (6 + 7 * i)) lo hi mk W) ∧ zs' (6 + 7 * i + 4) = zs (6 + 7 * i + 4) + 1 ∧ zs' (6 + 7 * i + 6) = nI lo ∧ zs' (48 + 5 * lo) = 2 ∧ zs' (48 + 5 * lo + 2) = nI T ∧ zs' (48 + 5 * lo + 3) = nI Y := by
  unfold gvT
  rw [c_nI, nI_1, nI_a2, nI_a0, nI_a3, nI_a4, nI_a6]
  simp (disch := omega) only [ix_nI, cl_nI, nb, pk_un, pk_us, a1, n_nI, nI_a0, nI_a2, nI_a3, nI_1, a2, a3, a4, a5, a6, nI_add, nI_s1]
  have cl : (nI lo ≤ nI mk) = (lo ≤ mk) := propext (nI_leI (by omega) (by omega))
  have cm : (nI hi ≤ nI (lo + W - 1)) = (hi ≤ lo + W - 1) := propext (nI_leI (by omega) (by omega))
  by_cases k0 : zs (6 + 7 * i) = 0
  · rw [if_pos k0]
    refine ⟨_, rfl, fun j b1 b2 b3 b4 b5 b6 b7 b8 => ?_, ?_, ?_, ?_, ?_, ?_, ?_, ?_, ?_⟩ <;> simp (disch := omega) only [pk_un, pk_us]
    unfold mkN; rw [if_pos k0]
  · rw [if_neg k0]
    by_cases k1 : zs (6 + 7 * i) = 1
    · rw [if_pos k1]
      by_cases c1 : lo ≤ mk
      · rw [if_pos (cl ▸ c1)]
        refine ⟨_, rfl, fun j b1 b2 b3 b4 b5 b6 b7 b8 => ?_, ?_, ?_, ?_, ?_, ?_, ?_, ?_, ?_⟩ <;> simp (disch := omega) only [pk_un, pk_us]
        rw [a3]; unfold mkN; rw [if_neg k0, if_pos k1, if_pos c1]
      · rw [if_neg (fun z => c1 (cl ▸ z))]
        by_cases c2 : hi ≤ lo + W - 1
        · rw [if_pos (cm ▸ c2)]
          refine ⟨_, rfl, fun j b1 b2 b3 b4 b5 b6 b7 b8 => ?_, ?_, ?_, ?_, ?_, ?_, ?_, ?_, ?_⟩ <;> simp (disch := omega) only [pk_un, pk_us]
          unfold mkN; rw [if_neg k0, if_pos k1, if_neg c1, Nat.min_eq_right c2]
        · rw [if_neg (fun z => c2 (cm ▸ z))]
          refine ⟨_, rfl, fun j b1 b2 b3 b4 b5 b6 b7 b8 => ?_, ?_, ?_, ?_, ?_, ?_, ?_, ?_, ?_⟩ <;> simp (disch := omega) only [pk_un, pk_us]
          unfold mkN; rw [if_neg k0, if_pos k1, if_neg c1, Nat.min_eq_left (by omega)]
    · rw [if_neg k1]
      refine ⟨_, rfl, fun j b1 b2 b3 b4 b5 b6 b7 b8 => ?_, ?_, ?_, ?_, ?_, ?_, ?_, ?_, ?_⟩ <;> simp (disch := omega) only [pk_un, pk_us]
      rw [a3]; unfold mkN; rw [if_neg k0, if_neg k1]
theorem giveLowest_eq {lo hi mk W : Nat} (h6 : lo ≤ 600) (hh : hi ≤ 600) (hmk : mk ≤ 600) (hW : 2 ≤ W) (hW1 : W ≤ 10) {ck : Nat → Int32} (a1 : ck 1 = nI lo) (a2 : ck 2 = nI hi) (a3 : ck 3 = nI mk) : ∃ ck', f_X0_giveLowest ck (nI W) = some (nI lo, ck') ∧ ck' 0 = ck 0 ∧ ck' 1 = nI (lo + 1) ∧ ck' 2 = nI hi ∧ ck' 3 = nI (mkN (ck 0) lo hi mk W) ∧ ck' 4 = ck 4 + 1 ∧ ck' 5 = ck 5 ∧ ck' 6 = nI lo := by
  unfold f_X0_giveLowest
  have cl : (nI lo ≤ nI mk) = (lo ≤ mk) := propext (nI_leI (by omega) (by omega))
  have w1 : (nI lo + nI W) - 1 = nI (lo + W - 1) := by rw [nI_add, nI_s1 (by omega)]
  by_cases k0 : ck 0 = 0
  · rw [if_pos k0, a1, nI_1]
    exact ⟨_, rfl, rfl, rfl, a2, by unfold mkN; rw [if_pos k0]; rfl, rfl, rfl, rfl⟩
  · rw [if_neg k0]
    by_cases k1 : ck 0 = 1
    · rw [if_pos k1, a1, a3, nI_1]
      by_cases c1 : lo ≤ mk
      · rw [if_pos (cl ▸ c1)]
        exact ⟨_, rfl, rfl, rfl, a2, by unfold mkN; rw [if_neg k0, if_pos k1, if_pos c1]; exact a3, rfl, rfl, rfl⟩
      · rw [if_neg (fun z => c1 (cl ▸ z)), w1, a2, imin_nI (by omega) (by omega)]
        exact ⟨_, rfl, rfl, rfl, a2, by unfold mkN; rw [if_neg k0, if_pos k1, if_neg c1]; rfl, rfl, rfl, rfl⟩
    · rw [if_neg k1, a1, nI_1]
      exact ⟨_, rfl, rfl, rfl, a2, by unfold mkN; rw [if_neg k0, if_neg k1]; exact a3, rfl, rfl, rfl⟩
theorem mkN_le {kind : Int32} {lo hi mk W : Nat} (h : lo ≤ hi) (hm : mk ≤ hi) : mkN kind lo hi mk W ≤ hi := by
  unfold mkN
  split
  · exact h
  · split
    · split
      · exact hm
      · exact Nat.min_le_right _ _
    · exact hm
set_option maxHeartbeats 1000000 in
theorem give_J {K : Nat} (hK : 1000 ≤ K) {d T F C Y : Nat} {ns no nr nt nd ni : Nat → Int32} {nm nf : Int32} {cl : Nat → Nat → Int32} {cc : Int32} {cs : Nat → Int32} {ct : Int32} {zs : Nat → Int32} (hJ : JJ d T F C Y ns no nr nt nd ni nm nf cl cc cs ct zs) (hY : Y ≤ 1000000) {i : Nat} (hi : i < C) {hn : Nat} (hn0 : 0 < hn) (hn6 : hn ≤ 600) (hh : f_X0_held (cl i) = nI hn) :
    ∃ (lo : Nat) (ck' ns' no' nr' nt' nd' ni' zs' : Nat → Int32) (nf' : Int32), 1 ≤ lo ∧ lo ≤ 600 ∧ f_X0_giveLowest (cl i) (cs 2) = some (nI lo, ck') ∧ f_X1_give K ns no nr nt nd ni nm nf (nI lo) (nI i) ct = some (ns', no', nr', nt', nd', ni', nI (T + 1), nf') ∧ gvT (nI i) zs = some zs' ∧ JJ d (T + 1) F C Y ns' no' nr' nt' nd' ni' (nI (T + 1)) nf' (va_up cl i ck') cc cs ct zs' ∧ f_X0_held ck' = nI (hn - 1) ∧ av ns' cs = av ns cs ∧ zs' (6 + 7 * i + 6) = nI lo := by
  obtain ⟨⟨rfl, e5'⟩, ⟨rfl, f1, f6⟩, ⟨rfl, e3, c6⟩, ⟨rfl, ey', y1⟩, hN, hT, hC, hSs⟩ := hJ
  obtain ⟨s0, s1, s2, s4, s5, W, w1, w2, eW⟩ := hSs
  have hi6 : i < 6 := by omega
  obtain ⟨p1, p2, p3, p4, p5, g, p6, p7, p8, p9⟩ := (hC i hi6).1 hi
  obtain ⟨hn', q0, q1, q2, q3⟩ := HR_held p5
  have ehn : hn' = hn := nI_inj (by omega) (by omega) (q1.symm.trans hh)
  subst ehn
  rcases Or.symm q3 with ⟨z, -⟩ | ⟨-, lo, hi', mk, b1, b2, b3, b4, b5, b6, b7, b8, b9, b10, b11, b12⟩
  · omega
  obtain ⟨ck', r1, r2, r3, r4, r5, r6, r7, r8⟩ := giveLowest_eq (lo := lo) (hi := hi') (mk := mk) (W := W) (by omega) b3 (by omega) w1 w2 b6 b7 b8
  obtain ⟨zs', g1, g2, g3, g4, g5, g6, g7, g8, g9, g10⟩ := gvT_eq (i := i) (lo := lo) (hi := hi') (mk := mk) (W := W) (T := T) (Y := Y) hi6 b1 (by omega) b3 (by omega) w1 w2 b9 b10 b11 (s2.trans eW) e5' ey'
  obtain ⟨m1, m2, m3, m4, m5, m6, m7, m8, m9, m10, m11⟩ := hN lo b1 (by omega)
  have hlo := b12 lo (Nat.le_refl lo) b2
  have htlo : nt lo = (-1) := m10 (Or.inr (Or.inl hlo.1))
  have hloF : lo < F := by
    rcases Nat.lt_or_ge lo F with z | z
    · exact z
    · have := m5.mpr z
      rw [hlo.1] at this
      exact absurd this (by decide)
  have hT6 : T < 600 := by
    rw [← hT.2]
    exact cnt_lt (k := lo) (by simp [htlo]) 600 1 b1 (by omega)
  have hput := put_eq hK ns no nr (F := F) (a := lo) (b := lo) f6 b1 (by omega) (by omega) 2 (nI i) (-1)
  rw [Nat.max_eq_left (by omega)] at hput
  have hgive : f_X1_give K ns no nr nt nd ni (nI T) (nI F) (nI lo) (nI i) (nI Y) = some (pz ns lo lo 2, pz no lo lo (nI i), pz nr lo lo (-1), upd nt lo (nI T), upd nd lo (nI Y), upd ni T (nI lo), nI (T + 1), nI F) := by
    unfold f_X1_give
    rw [isNumber_t b1 (by omega), if_neg (by decide), if_neg (nI_pos (by omega)), if_pos (show nI T < 600 from nI_lt (a := T) (b := 600) hT6 (by omega)), hput]
    show ix (nI lo) 601 (nb (upd nt (nI lo).toNatClampNeg (nI T)) fun y14 => ix (nI lo) 601 (nb (upd nd (nI lo).toNatClampNeg (nI Y)) fun y17 => ix (nI T) 600 (nb (upd ni (nI T).toNatClampNeg (nI lo)) fun y20 => some (pz ns lo lo 2, pz no lo lo (nI i), pz nr lo lo (-1), y14, y17, y20, (nI T + 1), nI F)))) = _
    rw [ix_nI (by omega) (by omega), cl_nI (by omega)]
    simp (disch := omega) only [ix_nI, cl_nI, nb, nI_1]
  have zl : ∀ j, j < 6 → j ≠ 5 → zs' j = zs j := fun j h1 h2 => g2 j h2 (by omega) (by omega) (by omega) (by omega) (by omega) (by omega) (by omega)
  have zn : ∀ n k, n ≠ lo → 1 ≤ n → k < 5 → zs' (48 + 5 * n + k) = zs (48 + 5 * n + k) := fun n k h1 h2 h3 => g2 _ (by omega) (by omega) (by omega) (by omega) (by omega) (by omega) (by omega) (by omega)
  have zlo : ∀ k, k = 1 ∨ k = 4 → zs' (48 + 5 * lo + k) = zs (48 + 5 * lo + k) := fun k h => g2 _ (by omega) (by omega) (by omega) (by omega) (by omega) (by omega) (by omega) (by omega)
  refine ⟨lo, ck', _, _, _, _, _, _, zs', _, b1, by omega, by rw [eW]; exact r1, hgive, g1, ⟨⟨rfl, g3⟩, ⟨rfl, f1, f6⟩, ⟨rfl, (zl 3 (by omega) (by omega)).trans e3, c6⟩, ⟨rfl, (zl 4 (by omega) (by omega)).trans ey', y1⟩, ?_, ⟨?_, ?_⟩, ?_, ⟨(zl 0 (by omega) (by omega)).trans s0, (zl 1 (by omega) (by omega)).trans s1, (zl 2 (by omega) (by omega)).trans s2, s4, s5, W, w1, w2, eW⟩⟩, ?_, ?_, g7⟩
  · intro n h1 h2
    by_cases hn : n = lo
    · subst hn
      rw [pz_in (Nat.le_refl _) (Nat.le_refl _), pz_in (Nat.le_refl _) (Nat.le_refl _), pz_in (Nat.le_refl _) (Nat.le_refl _), pk_us, pk_us, g8, g9, g10, zlo 1 (Or.inl rfl), zlo 4 (Or.inr rfl)]
      exact ⟨rfl, m2.trans hlo.2, rfl, Or.inr (Or.inr (Or.inl rfl)), ⟨fun z => absurd z (by decide), fun z => by omega⟩, fun z => by rcases z with z | z <;> exact absurd z (by decide), fun _ => rfl, fun z => absurd z (by decide), fun _ => ⟨nI_pos (by omega), nI_m1 (by omega)⟩, fun z => by rcases z with z | z | z <;> exact absurd z (by decide), Or.inr ⟨T, by omega, rfl, pk_us, rfl, nI_pos (by omega)⟩⟩
    · obtain ⟨o1, o2, o3, o4, o5, o6, o7, o8, o9, o10, o11⟩ := hN n h1 h2
      rw [pz_out (by omega), pz_out (by omega), pz_out (by omega), pk_un hn, pk_un hn, show zs' (48 + 5 * n) = zs (48 + 5 * n) from zn n 0 hn h1 (by omega), zn n 1 hn h1 (by omega), zn n 2 hn h1 (by omega), zn n 3 hn h1 (by omega), zn n 4 hn h1 (by omega)]
      refine ⟨o1, o2, o3, o4, o5, o6, o7, o8, o9, o10, ?_⟩
      rcases o11 with h | ⟨j, j1, j2, j3, j4⟩
      · exact Or.inl h
      · exact Or.inr ⟨j, by omega, j2, by rw [pk_un (by omega)]; exact j3, j4⟩
  · intro j hj
    by_cases hjT : j = T
    · subst hjT
      exact ⟨lo, b1, by omega, pk_us, pk_us⟩
    · obtain ⟨n, n1, n2, n3, n4⟩ := hT.1 j (by omega)
      have : n ≠ lo := by
        intro z
        rw [z, htlo] at n4
        exact nI_m1 (by omega) n4.symm
      exact ⟨n, n1, n2, by rw [pk_un hjT]; exact n3, by rw [pk_un this]; exact n4⟩
  · have := cnt_one (p := fun n => !decide (nt n = (-1))) (q := fun n => !decide (upd nt lo (nI T) n = (-1))) (k := lo) (by simp [htlo]) (by rw [pk_us]; simp [nI_m1 (show T < 2 ^ 31 by omega)]) (fun j hj => by rw [pk_un hj]) 600 1 b1 (by omega)
    rw [this, hT.2]
  · intro j hj
    obtain ⟨k1, k2⟩ := hC j hj
    have zc : ∀ k, k < 7 → (j ≠ i ∨ k = 0 ∨ k = 2 ∨ k = 5) → zs' (6 + 7 * j + k) = zs (6 + 7 * j + k) := fun k hk h => g2 _ (by omega) (by omega) (by omega) (by omega) (by omega) (by omega) (by omega) (by omega)
    have z0 : zs' (6 + 7 * j) = zs (6 + 7 * j) := by
      have := zc 0 (by omega) (Or.inr (Or.inl rfl))
      exact this
    by_cases hji : j = i
    · subst hji
      refine ⟨fun _ => ?_, fun h => absurd hi (by omega)⟩
      rw [va_up_self]
      refine ⟨by rw [z0, r2]; exact p1, by rw [g6, r6, p2], by rw [zc 5 (by omega) (by omega), r7]; exact p3, by rw [g7, r8], ?_, g + 1, by omega, by rw [r6, p7, nI_1], fun z => by omega, fun _ => by rw [r8]; exact nI_pos (by omega)⟩
      rw [r3, r4, r5, g4, zc 2 (by omega) (by omega), g5, b10, p1]
      have hmk := mkN_le (kind := cl j 0) (W := W) b2 b4
      by_cases hlh : lo = hi'
      · subst hlh
        exact Or.inr ⟨lo, mkN (cl j 0) lo lo mk W, lo, by omega, hmk, by omega, rfl, rfl, rfl, rfl, rfl⟩
      · refine Or.inl ⟨lo + 1, hi', mkN (cl j 0) lo hi' mk W, by omega, by omega, b3, hmk, rfl, rfl, rfl, rfl, rfl, rfl, fun n h1 h2 => ?_⟩
        rw [pz_out (by omega), pz_out (by omega)]
        exact b12 n (by omega) h2
    · rw [va_up_ne _ _ hji]
      refine ⟨fun h => ?_, fun h => ?_⟩
      · obtain ⟨t1, t2, t3, t4, t5, g', t6, t7⟩ := k1 h
        refine ⟨by rw [z0]; exact t1, by rw [zc 4 (by omega) (by omega)]; exact t2, by rw [zc 5 (by omega) (by omega)]; exact t3, by rw [zc 6 (by omega) (by omega)]; exact t4, ?_, g', by omega, t7⟩
        rw [zc 1 (by omega) (by omega), zc 2 (by omega) (by omega), zc 3 (by omega) (by omega)]
        refine HR_keep t5 (fun n h1 h2 h3 h4 => ?_)
        have : n ≠ lo := by
          intro z
          subst z
          rw [hlo.2] at h4
          exact hji (nI_inj (by omega) (by omega) h4.symm)
        rw [pz_out (by omega), pz_out (by omega)]
        exact ⟨h3, h4⟩
      · obtain ⟨t1, t2, t3, t4⟩ := k2 h
        exact ⟨t1, by rw [zc 3 (by omega) (by omega)]; exact t2, by rw [zc 4 (by omega) (by omega)]; exact t3, by rw [zc 5 (by omega) (by omega)]; exact t4⟩
  · unfold f_X0_held
    rw [r3, r4]
    by_cases hlh : lo = hi'
    · subst hlh
      rw [held0 (by omega), show hn' - 1 = 0 by omega]
    · rw [held1 (by omega) b3, show hi' - (lo + 1) + 1 = hn' - 1 by omega]
  · have cr : ∀ s, ¬ s = (1 : Int32) → ¬ s = 2 → cnt (fun k => decide (pz ns lo lo 2 k = s)) 1 600 = cnt (fun k => decide (ns k = s)) 1 600 := by
      intro s h1 h2
      refine cnt_congr 600 1 (fun j _ _ => ?_)
      by_cases hj : j = lo
      · subst hj
        rw [pz_in (Nat.le_refl _) (Nat.le_refl _), hlo.1]
        simp
        exact ⟨fun z => absurd z.symm h2, fun z => absurd z.symm h1⟩
      · rw [pz_out (by omega)]
    unfold av
    rw [cr 0 (by decide) (by decide), cr 3 (by decide) (by decide)]
