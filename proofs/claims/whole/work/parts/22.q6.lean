/-! PURE SIDE: next, turnAt, the counting of the questions. -/
theorem isNumber_f {n : Nat} (h : 600 < n) (h6 : n < 2 ^ 31) : f_X1_isNumber (nI n) = 0 := by
  unfold f_X1_isNumber
  rw [if_neg (show ¬ nI n < (1 : Int32) from nI_nlt (b := 1) (by omega) (by omega)), if_pos (show (600 : Int32) < nI n from g600t h h6)]
theorem VI_next {k : Nat} {wo wt : OW} {hs : Nat → OW} {hp : Nat → Nat} {kp fp fr : Int32} {sc : Nat → Int32} {sl sp sv sf ss : Int32} {zs zb za zt : Nat → Int32} {zl zu zp zw zf zg zc : Int32} (h : VI k wo wt hs hp kp fp fr sc sl sp sv sf ss zs zb za zt zl zu zp zw zf zg zc) : VI (k + 1) wo wt hs hp kp fp fr sc sl sp sv sf ss zs zb za zt zl zu zp zw zf zg zc := ⟨JO_up (by omega) h.1, HI_up (by omega) h.2.1, h.2.2⟩
theorem next_ok {K : Nat} (hK : 1000 ≤ K) {d : Nat} {w : OW} {zs : Nat → Int32} (hJ : JO d w zs) (x1 : Int32) : ∃ r : Int32, f_X2_upcoming K (w.1) (w.2.2.2.2.2.2.2.1) (w.2.2.2.2.2.2.2.2.1) (w.2.2.2.2.2.2.2.2.2.1) (w.2.2.2.2.2.2.2.2.2.2.1) x1 = some r ∧ f_X5_next K zs x1 = some r := by
  obtain ⟨ns, no, nr, nt, nd, ni, nm, nf, cl, cc, cs, ct⟩ := w
  obtain ⟨T, F, C, Y, hJ⟩ := hJ
  obtain ⟨t5, ⟨t6, f1, f6⟩, ⟨t3a, t3b, t3c⟩, t4, hN, hT, hC, hSs⟩ := id hJ
  have t3a : cc = nI C := t3a
  have t6 : nf = nI F := t6
  show ∃ r : Int32, f_X2_upcoming K ns nf cl cc cs x1 = some r ∧ _
  rcases clerk_cases t3c t3b x1 with ⟨h, h2⟩ | ⟨i, hi, rfl, h, h2⟩
  · refine ⟨-1, ?_, ?_⟩
    · unfold f_X2_upcoming
      rw [t3a, h, if_pos rfl]
    · unfold f_X5_next
      rw [if_pos h2]
  obtain ⟨p1, p2, p3, p4, p5, p6⟩ := (hC i (by omega)).1 hi
  obtain ⟨hn, q0, q1, q2, q3⟩ := HR_held p5
  have q1 : f_X0_held (cl i) = nI hn := q1
  unfold f_X2_upcoming f_X5_next
  rw [t3a, h, h2, if_neg (show ¬ (1 : Int32) = 0 by decide), if_neg (show ¬ (1 : Int32) = 0 by decide), ix_nI (by omega) (by omega), ix_nI (by omega) (by omega), cl_nI (by omega), q1, holds_eq (by omega), q2, sb_eq]
  rcases Or.symm q3 with ⟨z, -⟩ | ⟨z, lo, hi', mk, b1, b2, b3, b4, b5, b6, b7, b8, b9, b10, b11, b12⟩
  · subst z
    rw [if_pos (show nI 0 ≤ 0 by decide), if_pos (show nI 0 ≤ 0 by decide)]
    obtain ⟨a, a1, a6, a2, a3, -⟩ := blockStart hK (cs := cs) f1 f6 (fun n n1 n6 => ⟨(hN n n1 n6).1, (hN n n1 n6).2.2.2.2.1⟩) hSs.2.1
    rw [t6, show f_X2_startOfBlock K ns (nI F) cs = some (nI a) from a2, a3, sb_eq, sb_eq]
    by_cases e : a ≤ 600
    · exact ⟨nI a, by rw [isNumber_t a1 e, if_neg (by decide)], by rw [if_pos (show nI a ≤ (600 : Int32) from nI_le (b := 600) e (by omega))]⟩
    · exact ⟨-3, by rw [isNumber_f (by omega) (by omega), if_pos rfl], by rw [if_neg (show ¬ nI a ≤ (600 : Int32) from nI_ge (a := 600) (by omega) (by omega))]⟩
  · have b6 : cl i 1 = nI lo := b6
    have hp0 : ¬ nI hn ≤ (0 : Int32) := nI_ge (a := 0) (b := hn) (by omega) (by omega)
    rw [if_neg hp0, if_neg hp0, c_nI, nI_1, ix_nI (by omega) (by omega), cl_nI (by omega), b6, b9]
    exact ⟨nI lo, by rw [isNumber_t b1 (by omega), if_neg (by decide)], by rw [if_pos (show nI lo ≤ (600 : Int32) from nI_le (b := 600) (by omega) (by omega))]⟩
theorem s_next {K : Nat} (hK : 20000 ≤ K) : St_next VI K := by
  intro k wo wt hs hp kp fp fr sc sl sp sv sf ss zs zb za zt zl zu zp zw zf zg zc hk hI x1
  obtain ⟨r, u1, u2⟩ := next_ok (K := K) (by omega) hI.1 x1
  refine ⟨r, ?_, u2, VI_next hI⟩
  unfold f_X4_next
  rw [u1]
  rfl
