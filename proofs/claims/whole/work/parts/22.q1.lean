/-! PURE SIDE: the operations on one office against one row, whatever the arguments. -/
theorem nI_num_cases (x : Int32) : (f_X1_isNumber x = 0 ∧ f_X5_isNumber x = 0) ∨ ∃ n : Nat, 1 ≤ n ∧ n ≤ 600 ∧ x = nI n ∧ f_X1_isNumber x = 1 ∧ f_X5_isNumber x = 1 := by
  rcases in_cases x 1 600 (by omega) (by omega) with ⟨h, h2⟩ | ⟨m, h1, h2, rfl, h3⟩
  · refine Or.inl ⟨?_, h⟩
    unfold f_X1_isNumber
    rcases h2 with z | z
    · rw [if_pos (show x < 1 from z)]
    · by_cases z2 : x < 1
      · rw [if_pos z2]
      · rw [if_neg z2, if_pos (show (600 : Int32) < x from z)]
  · exact Or.inr ⟨m, h1, h2, rfl, isNumber_t h1 h2, h3⟩
theorem oClerk_ok {d : Nat} {w : OW} {zs : Nat → Int32} (hJ : JO d w zs) (x : Int32) :
    ∃ (r : Int32) (cl' : Nat → Nat → Int32) (cc' : Int32), f_X2_addClerk w.2.2.2.2.2.2.2.2.1 w.2.2.2.2.2.2.2.2.2.1 x = some (r, cl', cc') ∧ ((r = (-1) ∧ f_X5_in x 0 2 = 0) ∨ (r = (-3) ∧ f_X5_in x 0 2 = 1 ∧ zs 3 = 6) ∨ (¬ r < 0 ∧ f_X5_in x 0 2 = 1 ∧ ¬ zs 3 = 6 ∧ ¬ (6 : Int32) ≤ zs 3 ∧ ∃ zs', f_X5_goClerk zs x = some (r, zs') ∧ JO d (w.1, w.2.1, w.2.2.1, w.2.2.2.1, w.2.2.2.2.1, w.2.2.2.2.2.1, w.2.2.2.2.2.2.1, w.2.2.2.2.2.2.2.1, cl', cc', w.2.2.2.2.2.2.2.2.2.2.1, w.2.2.2.2.2.2.2.2.2.2.2) zs')) := by
  obtain ⟨ns, no, nr, nt, nd, ni, nm, nf, cl, cc, cs, ct⟩ := w
  obtain ⟨T, F, C, Y, hJ⟩ := hJ
  obtain ⟨t5, t6, ⟨t3a, t3b, t3c⟩, -⟩ := id hJ
  have t3a : cc = nI C := t3a
  rcases in_cases x 0 2 (by omega) (by omega) with ⟨h, h2⟩ | ⟨m, h1, h2, rfl, h3⟩
  · refine ⟨-1, cl, cc, ?_, Or.inl ⟨rfl, h⟩⟩
    show f_X2_addClerk cl cc x = _
    unfold f_X2_addClerk
    rcases h2 with z | z
    · rw [if_pos (show x < 0 from z)]
    · by_cases z2 : x < 0
      · rw [if_pos z2]
      · rw [if_neg z2, if_neg (show ¬ x ≤ (2 : Int32) from Int32.not_le.mpr z)]
  · have h0 : ¬ nI m < 0 := nI_pos (by omega)
    have hm2 : nI m ≤ (2 : Int32) := nI_le (b := 2) h2 (by omega)
    by_cases hC : C = 6
    · refine ⟨-3, cl, cc, ?_, Or.inr (Or.inl ⟨rfl, h3, by rw [t3b, hC]; rfl⟩)⟩
      show f_X2_addClerk cl cc (nI m) = _
      unfold f_X2_addClerk
      rw [if_neg h0, if_pos hm2, t3a, if_neg (nI_pos (by omega)), if_neg]
      exact nI_nlt (b := 6) (by omega) (by omega)
    · obtain ⟨zs', u1, u2, u3⟩ := clerk_J hJ (by omega) h0 hm2
      refine ⟨nI C, _, _, u1, Or.inr (Or.inr ⟨nI_pos (by omega), h3, ?_, ?_, zs', u2, T, F, C + 1, Y, u3⟩)⟩
      · rw [t3b]; exact fun z => hC (nI_inj (b := 6) (by omega) (by omega) z)
      · rw [t3b]; exact nI_ge (b := 6) (by omega) (by omega)
theorem nle_lt {a b : Int32} (h : a < b) : ¬ b ≤ a := Int32.not_le.mpr h
theorem oAsk_ok {K : Nat} (hK : 1000 ≤ K) {d : Nat} (hd : d ≤ 1000000) {w : OW} {zs : Nat → Int32} (hJ : JO d w zs) (x1 x2 : Int32) :
    ∃ (r : Int32) (ns no nr nt nd ni : Nat → Int32) (nm nf : Int32) (cl : Nat → Nat → Int32), f_X2_serve K (w.1) (w.2.1) (w.2.2.1) (w.2.2.2.1) (w.2.2.2.2.1) (w.2.2.2.2.2.1) (w.2.2.2.2.2.2.1) (w.2.2.2.2.2.2.2.1) (w.2.2.2.2.2.2.2.2.1) (w.2.2.2.2.2.2.2.2.2.1) (w.2.2.2.2.2.2.2.2.2.2.1) (w.2.2.2.2.2.2.2.2.2.2.2) x1 x2 = some (r, ns, no, nr, nt, nd, ni, nm, nf, cl) ∧
      ((r = (-1) ∧ (f_X5_isClerk zs x1 = 0 ∨ f_X5_in x2 1 50 = 0)) ∨ (f_X5_isClerk zs x1 = 1 ∧ f_X5_in x2 1 50 = 1 ∧ ((r = (-3) ∧ f_X5_canAsk K zs x1 x2 = some 0) ∨ (¬ r < 0 ∧ f_X5_canAsk K zs x1 x2 = some 1 ∧ ∃ zs', f_X5_goAsk K zs x1 x2 = some (r, zs') ∧ JO d (ns, no, nr, nt, nd, ni, nm, nf, cl, w.2.2.2.2.2.2.2.2.2.1, w.2.2.2.2.2.2.2.2.2.2.1, w.2.2.2.2.2.2.2.2.2.2.2) zs')))) := by
  obtain ⟨ns, no, nr, nt, nd, ni, nm, nf, cl, cc, cs, ct⟩ := w
  obtain ⟨T, F, C, Y, hJ⟩ := hJ
  obtain ⟨t5, t6, ⟨t3a, t3b, t3c⟩, t4, hN, hT, hC, hSs⟩ := id hJ
  have t3a : cc = nI C := t3a
  show ∃ (r : Int32) (ns' no' nr' nt' nd' ni' : Nat → Int32) (nm' nf' : Int32) (cl' : Nat → Nat → Int32), f_X2_serve K ns no nr nt nd ni nm nf cl cc cs ct x1 x2 = some (r, ns', no', nr', nt', nd', ni', nm', nf', cl') ∧ _
  rcases clerk_cases t3c t3b x1 with ⟨h, h2⟩ | ⟨i, hi, rfl, h, h2⟩
  · refine ⟨-1, ns, no, nr, nt, nd, ni, nm, nf, cl, ?_, Or.inl ⟨rfl, Or.inl h2⟩⟩
    unfold f_X2_serve
    rw [t3a, h, if_pos rfl]
  rcases in_cases x2 1 50 (by omega) (by omega) with ⟨g, g2⟩ | ⟨m, g1, g2, rfl, g3⟩
  · refine ⟨-1, ns, no, nr, nt, nd, ni, nm, nf, cl, ?_, Or.inl ⟨rfl, Or.inr g⟩⟩
    unfold f_X2_serve
    rw [t3a, h, if_neg (by decide)]
    rcases g2 with z | z
    · rw [if_pos (show x2 < 1 from z)]
    · by_cases z2 : x2 < 1
      · rw [if_pos z2]
      · rw [if_neg z2, if_neg (show ¬ x2 ≤ (50 : Int32) from nle_lt z)]
  obtain ⟨p1, p2, p3, p4, p5, p6⟩ := (hC i (by omega)).1 hi
  obtain ⟨hn, q0, q1, q2, q3⟩ := HR_held p5
  have q1 : f_X0_held (cl i) = nI hn := q1
  have hav := avail_eq hK (ns := ns) (cs := cs) hi t3c q1
  have hca := canAsk_eq hK (ns := ns) (cs := cs) (by omega) q2 (fun n n1 n2 => (hN n n1 n2).1) hSs.2.1 (nI m)
  have hbig : hn + av ns cs < 2 ^ 31 := by
    have a1 := cnt_le (fun k => decide (ns k = 0)) 600 1
    have a2 := cnt_le (fun k => decide (ns k = 3)) 600 1
    unfold av
    split <;> omega
  have hm50 : nI m ≤ (50 : Int32) := nI_le (b := 50) g2 (by omega)
  have hm1 : ¬ nI m < (1 : Int32) := nI_nlt (b := 1) (by omega) (by omega)
  by_cases hle : m ≤ hn + av ns cs
  · obtain ⟨T', F', r, ns', no', nr', nt', nd', ni', nm', nf', cl', zs', u1, u2, u3, u4⟩ := serve_J hK (d := d) (C := C) (Y := Y) (by omega) g1 g2 hi m 0 K T F (-1) ns no nr nt nd ni nm nf cl zs hn (by omega) (by omega) hJ q0 q1 hle (Or.inl rfl)
    refine ⟨r, ns', no', nr', nt', nd', ni', nm', nf', cl', ?_, Or.inr ⟨h2, g3, Or.inr ⟨u3, ?_, zs', u2, T', F', C, Y, u4⟩⟩⟩
    · unfold f_X2_serve
      rw [t3a, h, if_neg (by decide), if_neg hm1, if_pos hm50, hav]
      show (if nI m ≤ nI (hn + av ns cs) then _ else _) = _
      rw [if_pos (nI_le hle hbig), ← t3a]
      exact u1
    · rw [hca, if_neg (nI_nlt hle (by omega))]
  · refine ⟨-3, ns, no, nr, nt, nd, ni, nm, nf, cl, ?_, Or.inr ⟨h2, g3, Or.inl ⟨rfl, ?_⟩⟩⟩
    · unfold f_X2_serve
      rw [t3a, h, if_neg (by decide), if_neg hm1, if_pos hm50, hav]
      show (if nI m ≤ nI (hn + av ns cs) then _ else _) = _
      rw [if_neg (nI_ge (by omega) (by omega))]
    · rw [hca, if_pos (nI_lt (by omega) (by omega))]
theorem oForget_ok {K : Nat} (hK : 1000 ≤ K) {d : Nat} {w : OW} {zs : Nat → Int32} (hJ : JO d w zs) (x1 : Int32) :
    ∃ (r : Int32) (ns no nr : Nat → Int32) (nf : Int32) (cl : Nat → Nat → Int32), f_X2_letForget K (w.1) (w.2.1) (w.2.2.1) (w.2.2.2.2.2.2.2.1) (w.2.2.2.2.2.2.2.2.1) (w.2.2.2.2.2.2.2.2.2.1) x1 = some (r, ns, no, nr, nf, cl) ∧
      ((r = (-1) ∧ f_X5_isClerk zs x1 = 0) ∨ (f_X5_isClerk zs x1 = 1 ∧ ((r = (-2) ∧ f_X5_holds zs x1 = some 0) ∨ (¬ r < 0 ∧ (∃ h : Nat, 0 < h ∧ h ≤ 600 ∧ f_X5_holds zs x1 = some (nI h)) ∧ ∃ zs', f_X5_goForget K zs x1 = some (r, zs') ∧ JO d (ns, no, nr, w.2.2.2.1, w.2.2.2.2.1, w.2.2.2.2.2.1, w.2.2.2.2.2.2.1, nf, cl, w.2.2.2.2.2.2.2.2.2.1, w.2.2.2.2.2.2.2.2.2.2.1, w.2.2.2.2.2.2.2.2.2.2.2) zs')))) := by
  obtain ⟨ns, no, nr, nt, nd, ni, nm, nf, cl, cc, cs, ct⟩ := w
  obtain ⟨T, F, C, Y, hJ⟩ := hJ
  obtain ⟨t5, t6, ⟨t3a, t3b, t3c⟩, t4, hN, hT, hC, hSs⟩ := id hJ
  have t3a : cc = nI C := t3a
  show ∃ (r : Int32) (ns' no' nr' : Nat → Int32) (nf' : Int32) (cl' : Nat → Nat → Int32), f_X2_letForget K ns no nr nf cl cc x1 = some (r, ns', no', nr', nf', cl') ∧ _
  rcases clerk_cases t3c t3b x1 with ⟨h, h2⟩ | ⟨i, hi, rfl, h, h2⟩
  · refine ⟨-1, ns, no, nr, nf, cl, ?_, Or.inl ⟨rfl, h2⟩⟩
    unfold f_X2_letForget
    rw [t3a, h, if_pos rfl]
  obtain ⟨p1, p2, p3, p4, p5, p6⟩ := (hC i (by omega)).1 hi
  obtain ⟨hn, q0, q1, q2, q3⟩ := HR_held p5
  have q1 : f_X0_held (cl i) = nI hn := q1
  by_cases h0 : hn = 0
  · refine ⟨-2, ns, no, nr, nf, cl, ?_, Or.inr ⟨h2, Or.inl ⟨rfl, ?_⟩⟩⟩
    · unfold f_X2_letForget
      rw [t3a, h, if_neg (by decide), ix_nI (by omega) (by omega), cl_nI (by omega), q1, h0, if_neg (show ¬ (0 : Int32) < nI 0 by decide)]
    · rw [holds_eq (by omega), q2, h0]; rfl
  · obtain ⟨l, ns', no', nr', nf', cl', zs', u0, u1, u2, u3, u4⟩ := forget_J hK hJ hi (by omega) q0 q1
    refine ⟨nI l, ns', no', nr', nf', cl', u1, Or.inr ⟨h2, Or.inr ⟨nI_pos (by omega), ⟨hn, by omega, q0, ?_⟩, zs', u2, T, F, C, Y, u4⟩⟩⟩
    rw [holds_eq (by omega), q2]
theorem oBack_ok {K : Nat} (hK : 1000 ≤ K) {d : Nat} {w : OW} {zs : Nat → Int32} (hJ : JO d w zs) (x1 : Int32) :
    ∃ (r : Int32) (ns no nr : Nat → Int32) (nf : Int32) (cl : Nat → Nat → Int32), f_X2_takeBack K (w.1) (w.2.1) (w.2.2.1) (w.2.2.2.2.2.2.2.1) (w.2.2.2.2.2.2.2.2.1) (w.2.2.2.2.2.2.2.2.2.1) (w.2.2.2.2.2.2.2.2.2.2.1) x1 = some (r, ns, no, nr, nf, cl) ∧
      ((r = (-1) ∧ f_X5_isClerk zs x1 = 0) ∨ (f_X5_isClerk zs x1 = 1 ∧ ((r = (-2) ∧ f_X5_holds zs x1 = some 0) ∨ (¬ r < 0 ∧ (∃ h : Nat, 0 < h ∧ h ≤ 600 ∧ f_X5_holds zs x1 = some (nI h)) ∧ ∃ zs', f_X5_goBack K zs x1 = some (r, zs') ∧ JO d (ns, no, nr, w.2.2.2.1, w.2.2.2.2.1, w.2.2.2.2.2.1, w.2.2.2.2.2.2.1, nf, cl, w.2.2.2.2.2.2.2.2.2.1, w.2.2.2.2.2.2.2.2.2.2.1, w.2.2.2.2.2.2.2.2.2.2.2) zs')))) := by
  obtain ⟨ns, no, nr, nt, nd, ni, nm, nf, cl, cc, cs, ct⟩ := w
  obtain ⟨T, F, C, Y, hJ⟩ := hJ
  obtain ⟨t5, t6, ⟨t3a, t3b, t3c⟩, t4, hN, hT, hC, hSs⟩ := id hJ
  have t3a : cc = nI C := t3a
  show ∃ (r : Int32) (ns' no' nr' : Nat → Int32) (nf' : Int32) (cl' : Nat → Nat → Int32), f_X2_takeBack K ns no nr nf cl cc cs x1 = some (r, ns', no', nr', nf', cl') ∧ _
  rcases clerk_cases t3c t3b x1 with ⟨h, h2⟩ | ⟨i, hi, rfl, h, h2⟩
  · refine ⟨-1, ns, no, nr, nf, cl, ?_, Or.inl ⟨rfl, h2⟩⟩
    unfold f_X2_takeBack
    rw [t3a, h, if_pos rfl]
  obtain ⟨p1, p2, p3, p4, p5, p6⟩ := (hC i (by omega)).1 hi
  obtain ⟨hn, q0, q1, q2, q3⟩ := HR_held p5
  have q1 : f_X0_held (cl i) = nI hn := q1
  by_cases h0 : hn = 0
  · refine ⟨-2, ns, no, nr, nf, cl, ?_, Or.inr ⟨h2, Or.inl ⟨rfl, ?_⟩⟩⟩
    · unfold f_X2_takeBack
      rw [t3a, h, if_neg (by decide), ix_nI (by omega) (by omega), cl_nI (by omega), q1, h0, if_neg (show ¬ (0 : Int32) < nI 0 by decide)]
    · rw [holds_eq (by omega), q2, h0]; rfl
  · obtain ⟨ns', no', nr', nf', cl', zs', u1, u2, u4⟩ := back_J hK hJ hi (by omega) q0 q1
    refine ⟨nI hn, ns', no', nr', nf', cl', u1, Or.inr ⟨h2, Or.inr ⟨nI_pos (by omega), ⟨hn, by omega, q0, ?_⟩, zs', u2, T, F, C, Y, u4⟩⟩⟩
    rw [holds_eq (by omega), q2]
theorem oVoid_ok {K : Nat} (hK : 1000 ≤ K) {d : Nat} {w : OW} {zs : Nat → Int32} (hJ : JO d w zs) (x1 : Int32) :
    ∃ (r : Int32) (ns no nr : Nat → Int32) (nf : Int32), f_X2_cancel K (w.1) (w.2.1) (w.2.2.1) (w.2.2.2.2.2.2.2.1) x1 = some (r, ns, no, nr, nf) ∧
      ((r = (-1) ∧ f_X5_isNumber x1 = 0) ∨ (f_X5_isNumber x1 = 1 ∧ ∃ n : Nat, 1 ≤ n ∧ n ≤ 600 ∧ x1 = nI n ∧ ((r = (-2) ∧ ¬ zs (48 + 5 * n) = 2) ∨ (¬ r < 0 ∧ zs (48 + 5 * n) = 2 ∧ ∃ zs', f_X5_makeHole zs x1 2 = some zs' ∧ zs' (48 + 5 * n + 1) = r ∧ JO d (ns, no, nr, w.2.2.2.1, w.2.2.2.2.1, w.2.2.2.2.2.1, w.2.2.2.2.2.2.1, nf, w.2.2.2.2.2.2.2.2.1, w.2.2.2.2.2.2.2.2.2.1, w.2.2.2.2.2.2.2.2.2.2.1, w.2.2.2.2.2.2.2.2.2.2.2) zs')))) := by
  obtain ⟨ns, no, nr, nt, nd, ni, nm, nf, cl, cc, cs, ct⟩ := w
  obtain ⟨T, F, C, Y, hJ⟩ := hJ
  obtain ⟨t5, t6, t3, t4, hN, hT, hC, hSs⟩ := id hJ
  show ∃ (r : Int32) (ns' no' nr' : Nat → Int32) (nf' : Int32), f_X2_cancel K ns no nr nf x1 = some (r, ns', no', nr', nf') ∧ _
  rcases nI_num_cases x1 with ⟨h, h2⟩ | ⟨n, n1, n6, rfl, h, h2⟩
  · refine ⟨-1, ns, no, nr, nf, ?_, Or.inl ⟨rfl, h2⟩⟩
    unfold f_X2_cancel
    rw [h, if_pos rfl]
  have e : zs (48 + 5 * n) = ns n := (hN n n1 n6).1
  by_cases hs : ns n = 2
  · obtain ⟨ns', no', nr', nf', v1, v2, v3, v4, v5, v6⟩ := void_J hK hJ n1 n6 hs
    exact ⟨no n, ns', no', nr', nf', v3, Or.inr ⟨h2, n, n1, n6, rfl, Or.inr ⟨v1, v2, _, v4, v5, T, F, C, Y, v6⟩⟩⟩
  · refine ⟨-2, ns, no, nr, nf, ?_, Or.inr ⟨h2, n, n1, n6, rfl, Or.inl ⟨rfl, by rw [e]; exact hs⟩⟩⟩
    unfold f_X2_cancel
    rw [h, if_neg (by decide), ix_nI (by omega) (by omega), cl_nI (by omega), if_neg hs]
theorem oClose_ok {K : Nat} (hK : 1000 ≤ K) {d : Nat} {w : OW} {zs : Nat → Int32} (hJ : JO d w zs) :
    ∃ (r : Int32) (ns no nr : Nat → Int32) (nf : Int32) (cl : Nat → Nat → Int32) (ct : Int32) (zs' : Nat → Int32), ¬ r < 0 ∧ f_X2_endDay K (w.1) (w.2.1) (w.2.2.1) (w.2.2.2.2.2.2.2.1) (w.2.2.2.2.2.2.2.2.1) (w.2.2.2.2.2.2.2.2.2.2.2) = some (r, ns, no, nr, nf, cl, ct) ∧ f_X5_goClose K zs = some (r, zs') ∧ JO (d + 1) (ns, no, nr, w.2.2.2.1, w.2.2.2.2.1, w.2.2.2.2.2.1, w.2.2.2.2.2.2.1, nf, cl, w.2.2.2.2.2.2.2.2.2.1, w.2.2.2.2.2.2.2.2.2.2.1, ct) zs' := by
  obtain ⟨ns, no, nr, nt, nd, ni, nm, nf, cl, cc, cs, ct⟩ := w
  obtain ⟨T, F, C, Y, hJ⟩ := hJ
  obtain ⟨c, zs', c1, c2, c3, c4⟩ := close_J hK hJ
  exact ⟨nI c, _, _, _, _, _, _, zs', nI_pos (by omega), c2, c3, T, F, C, Y + 1, c4⟩
