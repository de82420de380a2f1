/-! PURE SIDE: clerk and set keep the relation; one office against one row, whatever the arguments. -/
theorem clerk_J {d T F C Y : Nat} {ns no nr nt nd ni : Nat → Int32} {nm nf : Int32} {cl : Nat → Nat → Int32} {cc : Int32} {cs : Nat → Int32} {ct : Int32} {zs : Nat → Int32} (hJ : JJ d T F C Y ns no nr nt nd ni nm nf cl cc cs ct zs) (hC6 : C < 6) {x : Int32} (x0 : ¬ x < 0) (x2 : x ≤ 2) :
    ∃ zs', f_X2_addClerk cl cc x = some (nI C, va_up cl C (upd (cl C) 0 x), nI (C + 1)) ∧ f_X5_goClerk zs x = some (nI C, zs') ∧ JJ d T F (C + 1) Y ns no nr nt nd ni nm nf (va_up cl C (upd (cl C) 0 x)) (nI (C + 1)) cs ct zs' := by
  obtain ⟨t5, t6, ⟨rfl, e3, c6⟩, t4, hN, hT, hC, hSs⟩ := id hJ
  have hone : (nI (C + 1)) - 1 = nI C := nI_s1 (a := C + 1) (by omega)
  refine ⟨upd (upd (upd (upd (upd zs (6 + 7 * C) x) (6 + 7 * C + 1) 1) (6 + 7 * C + 2) 0) (6 + 7 * C + 6) (-1)) 3 (nI (C + 1)), ?_, ?_, ⟨⟨t5.1, ?_⟩, t6, ⟨rfl, pk_us, by omega⟩, ⟨t4.1, ?_, t4.2.2⟩, ?_, hT, ?_, ?_⟩⟩
  · unfold f_X2_addClerk
    rw [if_neg x0, if_pos x2, if_neg (nI_pos (by omega)), if_pos (show nI C < (6 : Int32) from nI_lt (b := 6) (by omega) (by omega)), ix_nI (by omega) (by omega), cl_nI (by omega)]
    show some ((nI C + 1) - 1, va_up cl C (upd (cl C) 0 x), nI C + 1) = _
    rw [nI_1, hone]
  · unfold f_X5_goClerk
    rw [e3, c_nI, nI_a0, nI_1, nI_a2, nI_a6]
    simp (disch := omega) only [nb, ix_nI, cl_nI]
    show some (upd (upd (upd (upd (upd zs (6 + 7 * C) x) (6 + 7 * C + 1) 1) (6 + 7 * C + 2) 0) (6 + 7 * C + 6) (-1)) 3 ((upd (upd (upd (upd zs (6 + 7 * C) x) (6 + 7 * C + 1) 1) (6 + 7 * C + 2) 0) (6 + 7 * C + 6) (-1)) 3 + 1) 3 - 1, _) = _
    have e : (upd (upd (upd (upd zs (6 + 7 * C) x) (6 + 7 * C + 1) 1) (6 + 7 * C + 2) 0) (6 + 7 * C + 6) (-1)) 3 = nI C := by
      rw [pk_un (by omega), pk_un (by omega), pk_un (by omega), pk_un (by omega), e3]
    rw [e, nI_1, pk_us, hone]
  · rw [pk_un (by omega), pk_un (by omega), pk_un (by omega), pk_un (by omega), pk_un (by omega)]; exact t5.2
  · rw [pk_un (by omega), pk_un (by omega), pk_un (by omega), pk_un (by omega), pk_un (by omega)]; exact t4.2.1
  · intro n h1 h2
    have := hN n h1 h2
    unfold NR at this ⊢
    simp (disch := omega) only [pk_un]
    exact this
  · intro j hj
    by_cases hjC : j = C
    · subst hjC
      refine ⟨fun _ => ?_, fun h => by omega⟩
      obtain ⟨p1, p2, p3, p4⟩ := (hC j hj).2 (Nat.le_refl _)
      rw [va_up_self]
      refine ⟨?_, ?_, ?_, ?_, ?_, ⟨0, by omega, ?_, fun _ => ?_, fun z => absurd z (by omega)⟩⟩
      · rw [pk_us]; simp (disch := omega) only [pk_un]; exact pk_us
      · simp (disch := omega) only [pk_un]; rw [p3]; exact (p1 4 (by omega)).symm
      · simp (disch := omega) only [pk_un]; rw [p4]; exact (p1 5 (by omega)).symm
      · rw [pk_un (by omega), pk_us, pk_un (by omega)]; exact (p1 6 (by omega)).symm
      · refine Or.inr ⟨0, 0, 0, by omega, by omega, by omega, ?_, ?_, ?_, ?_, ?_⟩
        · rw [pk_un (by omega), p1 1 (by omega)]; rfl
        · rw [pk_un (by omega), p1 2 (by omega)]; rfl
        · rw [pk_un (by omega), p1 3 (by omega)]; rfl
        · rw [pk_un (by omega), pk_un (by omega), pk_un (by omega), pk_us]; rfl
        · rw [pk_un (by omega), pk_un (by omega), pk_us]; rfl
      · rw [pk_un (by omega), p1 4 (by omega)]; rfl
      · rw [pk_un (by omega), p1 6 (by omega)]; rfl
    · rw [va_up_ne _ _ hjC]
      have := JC_keep (zs' := upd (upd (upd (upd (upd zs (6 + 7 * C) x) (6 + 7 * C + 1) 1) (6 + 7 * C + 2) 0) (6 + 7 * C + 6) (-1)) 3 (nI (C + 1))) hC hj (fun k hk => by simp (disch := omega) only [pk_un]) (fun n g1 g2 g3 g4 => ⟨g3, g4⟩)
      exact ⟨fun h => this.1 (by omega), fun h => this.2 (by omega)⟩
  · obtain ⟨s0, s1, s2, s3⟩ := hSs
    refine ⟨?_, ?_, ?_, s3⟩ <;> simp (disch := omega) only [pk_un]
    · exact s0
    · exact s1
    · exact s2
theorem set_J {d T F C Y : Nat} {ns no nr nt nd ni : Nat → Int32} {nm nf : Int32} {cl : Nat → Nat → Int32} {cc : Int32} {cs : Nat → Int32} {ct : Int32} {zs : Nat → Int32} (hJ : JJ d T F C Y ns no nr nt nd ni nm nf cl cc cs ct zs) {w : Nat} (hw : w < 3) {x : Int32} (hx : (w = 0 → ∃ B : Nat, 1 ≤ B ∧ B ≤ 50 ∧ x = nI B) ∧ (w = 1 → x = 0 ∨ x = 1) ∧ (w = 2 → ∃ W : Nat, 2 ≤ W ∧ W ≤ 10 ∧ x = nI W)) :
    zs w = cs w ∧ JJ d T F C Y ns no nr nt nd ni nm nf cl cc (upd cs w x) ct (upd zs w x) := by
  obtain ⟨t5, t6, t3, t4, hN, hT, hC, s0, s1, s2, s3, s4, s5⟩ := id hJ
  refine ⟨?_, ⟨⟨t5.1, by rw [pk_un (by omega)]; exact t5.2⟩, t6, ⟨t3.1, by rw [pk_un (by omega)]; exact t3.2.1, t3.2.2⟩, ⟨t4.1, by rw [pk_un (by omega)]; exact t4.2.1, t4.2.2⟩, ?_, hT, ?_, ?_⟩⟩
  · match w, hw with
    | 0, _ => exact s0
    | 1, _ => exact s1
    | 2, _ => exact s2
    | n + 3, h => exact absurd h (by omega)
  · intro n h1 h2
    have := hN n h1 h2
    unfold NR at this ⊢
    simp (disch := omega) only [pk_un]
    exact this
  · intro j hj
    exact JC_keep hC hj (fun k hk => by rw [pk_un (by omega)]) (fun n g1 g2 g3 g4 => ⟨g3, g4⟩)
  · match w, hw with
    | 0, _ => exact ⟨rfl, s1, s2, hx.1 rfl, s4, s5⟩
    | 1, _ => exact ⟨s0, rfl, s2, s3, hx.2.1 rfl, s5⟩
    | 2, _ => exact ⟨s0, s1, rfl, s3, s4, hx.2.2 rfl⟩
    | n + 3, h => exact absurd h (by omega)
def JO (d : Nat) (w : OW) (zs : Nat → Int32) : Prop := ∃ T F C Y : Nat, JJ d T F C Y w.1 w.2.1 w.2.2.1 w.2.2.2.1 w.2.2.2.2.1 w.2.2.2.2.2.1 w.2.2.2.2.2.2.1 w.2.2.2.2.2.2.2.1 w.2.2.2.2.2.2.2.2.1 w.2.2.2.2.2.2.2.2.2.1 w.2.2.2.2.2.2.2.2.2.2.1 w.2.2.2.2.2.2.2.2.2.2.2 zs
theorem JJ_up {d d' T F C Y : Nat} {ns no nr nt nd ni : Nat → Int32} {nm nf : Int32} {cl : Nat → Nat → Int32} {cc : Int32} {cs : Nat → Int32} {ct : Int32} {zs : Nat → Int32} (h : d ≤ d') (hJ : JJ d T F C Y ns no nr nt nd ni nm nf cl cc cs ct zs) : JJ d' T F C Y ns no nr nt nd ni nm nf cl cc cs ct zs := by
  obtain ⟨t5, t6, t3, t4, t⟩ := hJ
  exact ⟨t5, t6, t3, ⟨t4.1, t4.2.1, by omega⟩, t⟩
theorem JO_up {d d' : Nat} {w : OW} {zs : Nat → Int32} (h : d ≤ d') (hJ : JO d w zs) : JO d' w zs := by
  obtain ⟨T, F, C, Y, hJ⟩ := hJ
  exact ⟨T, F, C, Y, JJ_up h hJ⟩
theorem JJ_congr {d T F C Y : Nat} {ns no nr nt nd ni ms mo mr mt md mi : Nat → Int32} {nm nf : Int32} {cl dl : Nat → Nat → Int32} {cc : Int32} {cs ds : Nat → Int32} {ct : Int32} {zs ys : Nat → Int32} (hJ : JJ d T F C Y ns no nr nt nd ni nm nf cl cc cs ct zs)
    (e1 : ∀ n, n ≤ 600 → ms n = ns n) (e2 : ∀ n, n ≤ 600 → mo n = no n) (e3 : ∀ n, n ≤ 600 → mr n = nr n) (e4 : ∀ n, n ≤ 600 → mt n = nt n) (e5 : ∀ n, n ≤ 600 → md n = nd n) (e6 : ∀ n, n < 600 → mi n = ni n) (e7 : ∀ i k, i < 6 → k < 7 → dl i k = cl i k) (e8 : ∀ k, k < 3 → ds k = cs k) (e9 : ∀ x, x < 3053 → ys x = zs x) :
    JJ d T F C Y ms mo mr mt md mi nm nf dl cc ds ct ys := by
  obtain ⟨⟨u1, u2⟩, t6, ⟨u3, u4, u5⟩, ⟨u6, u7, u8⟩, hN, hT, hC, s0, s1, s2, s3, s4, s5⟩ := hJ
  have hT6 := JT_le hT
  refine ⟨⟨u1, by rw [e9 5 (by omega)]; exact u2⟩, t6, ⟨u3, by rw [e9 3 (by omega)]; exact u4, u5⟩, ⟨u6, by rw [e9 4 (by omega)]; exact u7, u8⟩, ?_, ⟨?_, ?_⟩, ?_, ?_⟩
  · intro n h1 h2
    rw [e1 n h2, e2 n h2, e3 n h2, e4 n h2, e5 n h2, e9 _ (by omega), e9 _ (by omega), e9 _ (by omega), e9 _ (by omega), e9 _ (by omega)]
    obtain ⟨q1, q2, q3, q4, q5, q6, q7, q8, q9, q10, q11⟩ := hN n h1 h2
    refine ⟨q1, q2, q3, q4, q5, q6, q7, q8, q9, q10, ?_⟩
    rcases q11 with h | ⟨j, j1, j2, j3, j4⟩
    · exact Or.inl h
    · exact Or.inr ⟨j, j1, j2, by rw [e6 j (by omega)]; exact j3, j4⟩
  · intro j hj
    obtain ⟨n, n1, n2, n3, n4⟩ := hT.1 j hj
    exact ⟨n, n1, n2, by rw [e6 j (by omega)]; exact n3, by rw [e4 n n2]; exact n4⟩
  · rw [← hT.2]
    exact cnt_congr 600 1 (fun j h1 h2 => by rw [e4 j (by omega)])
  · intro i hi
    obtain ⟨k1, k2⟩ := hC i hi
    refine ⟨fun h => ?_, fun h => ?_⟩
    · obtain ⟨p1, p2, p3, p4, p5, p6⟩ := k1 h
      unfold CR
      rw [e7 i 0 hi (by omega), e7 i 1 hi (by omega), e7 i 2 hi (by omega), e7 i 3 hi (by omega), e7 i 4 hi (by omega), e7 i 5 hi (by omega), e7 i 6 hi (by omega), e9 _ (by omega), e9 _ (by omega), e9 _ (by omega), e9 _ (by omega), e9 _ (by omega), e9 _ (by omega), e9 _ (by omega)]
      exact ⟨p1, p2, p3, p4, HR_keep p5 (fun n h1 h2 h3 h4 => ⟨by rw [e1 n h2]; exact h3, by rw [e2 n h2]; exact h4⟩), p6⟩
    · obtain ⟨p1, p2, p3, p4⟩ := k2 h
      exact ⟨fun k hk => by rw [e7 i k hi hk]; exact p1 k hk, by rw [e9 _ (by omega)]; exact p2, by rw [e9 _ (by omega)]; exact p3, by rw [e9 _ (by omega)]; exact p4⟩
  · refine ⟨?_, ?_, ?_, ?_, ?_, ?_⟩
    · rw [e8 0 (by omega), e9 0 (by omega)]; exact s0
    · rw [e8 1 (by omega), e9 1 (by omega)]; exact s1
    · rw [e8 2 (by omega), e9 2 (by omega)]; exact s2
    · rw [e8 0 (by omega)]; exact s3
    · rw [e8 1 (by omega)]; exact s4
    · rw [e8 2 (by omega)]; exact s5
theorem JO_z {d : Nat} {w : OW} {zs ys : Nat → Int32} (hJ : JO d w zs) (e : ∀ x, x < 3053 → ys x = zs x) : JO d w ys := by
  obtain ⟨T, F, C, Y, hJ⟩ := hJ
  exact ⟨T, F, C, Y, JJ_congr hJ (fun _ _ => rfl) (fun _ _ => rfl) (fun _ _ => rfl) (fun _ _ => rfl) (fun _ _ => rfl) (fun _ _ => rfl) (fun _ _ _ _ => rfl) (fun _ _ => rfl) e⟩
def bec (wt wo : OW) : OW := (va_cpy wo.1 wt.1 0 0 601, va_cpy wo.2.1 wt.2.1 0 0 601, va_cpy wo.2.2.1 wt.2.2.1 0 0 601, va_cpy wo.2.2.2.1 wt.2.2.2.1 0 0 601, va_cpy wo.2.2.2.2.1 wt.2.2.2.2.1 0 0 601, va_cpy wo.2.2.2.2.2.1 wt.2.2.2.2.2.1 0 0 600, wo.2.2.2.2.2.2.1, wo.2.2.2.2.2.2.2.1, va_up (va_up (va_up (va_up (va_up (va_up wt.2.2.2.2.2.2.2.2.1 0 (upd (upd (upd (upd (upd (upd (upd (wt.2.2.2.2.2.2.2.2.1 0) 0 (wo.2.2.2.2.2.2.2.2.1 0 0)) 1 (wo.2.2.2.2.2.2.2.2.1 0 1)) 2 (wo.2.2.2.2.2.2.2.2.1 0 2)) 3 (wo.2.2.2.2.2.2.2.2.1 0 3)) 4 (wo.2.2.2.2.2.2.2.2.1 0 4)) 5 (wo.2.2.2.2.2.2.2.2.1 0 5)) 6 (wo.2.2.2.2.2.2.2.2.1 0 6))) 1 (upd (upd (upd (upd (upd (upd (upd (wt.2.2.2.2.2.2.2.2.1 1) 0 (wo.2.2.2.2.2.2.2.2.1 1 0)) 1 (wo.2.2.2.2.2.2.2.2.1 1 1)) 2 (wo.2.2.2.2.2.2.2.2.1 1 2)) 3 (wo.2.2.2.2.2.2.2.2.1 1 3)) 4 (wo.2.2.2.2.2.2.2.2.1 1 4)) 5 (wo.2.2.2.2.2.2.2.2.1 1 5)) 6 (wo.2.2.2.2.2.2.2.2.1 1 6))) 2 (upd (upd (upd (upd (upd (upd (upd (wt.2.2.2.2.2.2.2.2.1 2) 0 (wo.2.2.2.2.2.2.2.2.1 2 0)) 1 (wo.2.2.2.2.2.2.2.2.1 2 1)) 2 (wo.2.2.2.2.2.2.2.2.1 2 2)) 3 (wo.2.2.2.2.2.2.2.2.1 2 3)) 4 (wo.2.2.2.2.2.2.2.2.1 2 4)) 5 (wo.2.2.2.2.2.2.2.2.1 2 5)) 6 (wo.2.2.2.2.2.2.2.2.1 2 6))) 3 (upd (upd (upd (upd (upd (upd (upd (wt.2.2.2.2.2.2.2.2.1 3) 0 (wo.2.2.2.2.2.2.2.2.1 3 0)) 1 (wo.2.2.2.2.2.2.2.2.1 3 1)) 2 (wo.2.2.2.2.2.2.2.2.1 3 2)) 3 (wo.2.2.2.2.2.2.2.2.1 3 3)) 4 (wo.2.2.2.2.2.2.2.2.1 3 4)) 5 (wo.2.2.2.2.2.2.2.2.1 3 5)) 6 (wo.2.2.2.2.2.2.2.2.1 3 6))) 4 (upd (upd (upd (upd (upd (upd (upd (wt.2.2.2.2.2.2.2.2.1 4) 0 (wo.2.2.2.2.2.2.2.2.1 4 0)) 1 (wo.2.2.2.2.2.2.2.2.1 4 1)) 2 (wo.2.2.2.2.2.2.2.2.1 4 2)) 3 (wo.2.2.2.2.2.2.2.2.1 4 3)) 4 (wo.2.2.2.2.2.2.2.2.1 4 4)) 5 (wo.2.2.2.2.2.2.2.2.1 4 5)) 6 (wo.2.2.2.2.2.2.2.2.1 4 6))) 5 (upd (upd (upd (upd (upd (upd (upd (wt.2.2.2.2.2.2.2.2.1 5) 0 (wo.2.2.2.2.2.2.2.2.1 5 0)) 1 (wo.2.2.2.2.2.2.2.2.1 5 1)) 2 (wo.2.2.2.2.2.2.2.2.1 5 2)) 3 (wo.2.2.2.2.2.2.2.2.1 5 3)) 4 (wo.2.2.2.2.2.2.2.2.1 5 4)) 5 (wo.2.2.2.2.2.2.2.2.1 5 5)) 6 (wo.2.2.2.2.2.2.2.2.1 5 6)), wo.2.2.2.2.2.2.2.2.2.1, va_cpy wo.2.2.2.2.2.2.2.2.2.2.1 wt.2.2.2.2.2.2.2.2.2.2.1 0 0 3, wo.2.2.2.2.2.2.2.2.2.2.2)
theorem bec_eq (wt wo : OW) : (f_X2_become (wt.1) (wt.2.1) (wt.2.2.1) (wt.2.2.2.1) (wt.2.2.2.2.1) (wt.2.2.2.2.2.1) (wt.2.2.2.2.2.2.2.2.1) (wt.2.2.2.2.2.2.2.2.2.2.1) (wo.1) (wo.2.1) (wo.2.2.1) (wo.2.2.2.1) (wo.2.2.2.2.1) (wo.2.2.2.2.2.1) (wo.2.2.2.2.2.2.1) (wo.2.2.2.2.2.2.2.1) (wo.2.2.2.2.2.2.2.2.1) (wo.2.2.2.2.2.2.2.2.2.1) (wo.2.2.2.2.2.2.2.2.2.2.1) (wo.2.2.2.2.2.2.2.2.2.2.2)) = some (bec wt wo) := rfl
theorem sev {f g : Nat → Int32} {k : Nat} (h : k < 7) : upd (upd (upd (upd (upd (upd (upd f 0 (g 0)) 1 (g 1)) 2 (g 2)) 3 (g 3)) 4 (g 4)) 5 (g 5)) 6 (g 6) k = g k := by
  match k, h with
  | 0, _ => rfl
  | 1, _ => rfl
  | 2, _ => rfl
  | 3, _ => rfl
  | 4, _ => rfl
  | 5, _ => rfl
  | 6, _ => rfl
  | n + 7, h => exact absurd h (by omega)
theorem bec_cl (wt wo : OW) (i k : Nat) (h : i < 6) (hk : k < 7) : (bec wt wo).2.2.2.2.2.2.2.2.1 i k = wo.2.2.2.2.2.2.2.2.1 i k := by
  match i, h with
  | 0, _ => exact sev (g := wo.2.2.2.2.2.2.2.2.1 0) hk
  | 1, _ => exact sev (g := wo.2.2.2.2.2.2.2.2.1 1) hk
  | 2, _ => exact sev (g := wo.2.2.2.2.2.2.2.2.1 2) hk
  | 3, _ => exact sev (g := wo.2.2.2.2.2.2.2.2.1 3) hk
  | 4, _ => exact sev (g := wo.2.2.2.2.2.2.2.2.1 4) hk
  | 5, _ => exact sev (g := wo.2.2.2.2.2.2.2.2.1 5) hk
  | n + 6, h => exact absurd h (by omega)
theorem cpy_at {α : Type} {f g : Nat → α} {n k : Nat} (h : k < n) : va_cpy f g 0 0 n k = f k := by
  unfold va_cpy
  simp only [Nat.zero_le, Nat.zero_add, Nat.sub_zero, h, and_self, if_true, true_and]
theorem JO_bec {d : Nat} {wt wo : OW} {zs : Nat → Int32} (hJ : JO d wo zs) : JO d (bec wt wo) zs := by
  obtain ⟨T, F, C, Y, hJ⟩ := hJ
  exact ⟨T, F, C, Y, JJ_congr hJ (fun n h => cpy_at (by omega)) (fun n h => cpy_at (by omega)) (fun n h => cpy_at (by omega)) (fun n h => cpy_at (by omega)) (fun n h => cpy_at (by omega)) (fun n h => cpy_at (by omega)) (fun i k hi hk => bec_cl wt wo i k hi hk) (fun n h => cpy_at (by omega)) (fun _ _ => rfl)⟩
