/-! PURE SIDE: set, whatever the arguments; the record of the past, both sides. -/
theorem oSet_ok {K : Nat} {d : Nat} {w : OW} {zs : Nat → Int32} (hJ : JO d w zs) (x1 x2 : Int32) :
    ∃ (r : Int32) (cs : Nat → Int32), f_X2_change w.2.2.2.2.2.2.2.2.2.2.1 x1 x2 = some (r, cs) ∧
      ((r = (-1) ∧ ∀ zb zu, f_X5_set K zs zb zu x1 x2 = some ((-1), zs, zb, zu)) ∨ (¬ r < 0 ∧ ∃ zs', (∀ zb zu zb' zu', f_X5_record K zs zb zu = some (zb', zu') → f_X5_set K zs zb zu x1 x2 = some (r, zs', zb', zu')) ∧ JO d (w.1, w.2.1, w.2.2.1, w.2.2.2.1, w.2.2.2.2.1, w.2.2.2.2.2.1, w.2.2.2.2.2.2.1, w.2.2.2.2.2.2.2.1, w.2.2.2.2.2.2.2.2.1, w.2.2.2.2.2.2.2.2.2.1, cs, w.2.2.2.2.2.2.2.2.2.2.2) zs')) := by
  obtain ⟨ns, no, nr, nt, nd, ni, nm, nf, cl, cc, cs, ct⟩ := w
  obtain ⟨T, F, C, Y, hJ⟩ := hJ
  obtain ⟨t5, t6, t3, t4, hN, hT, hC, s0, s1, s2, s3, s4, s5⟩ := id hJ
  show ∃ (r : Int32) (cs' : Nat → Int32), f_X2_change cs x1 x2 = some (r, cs') ∧ _
  have low : ∀ (w a b : Nat), w < 3 → b < 1000 → a ≤ b → tabL w = nI a → tabM w = nI b → x1 = nI w → f_X5_in x2 (nI a) (nI b) = 0 → f_X2_change cs x1 x2 = some ((-1), cs) := by
    intro w a b hw hb hab e1 e2 e3 e4
    subst e3
    unfold f_X2_change
    rw [if_neg (nI_pos (by omega)), if_neg (show ¬ (3 : Int32) ≤ nI w from nI_ge (b := 3) hw (by omega)), ix_nI (by omega) (by omega), ix_nI (by omega) (by omega), cl_nI (by omega), e1, e2]
    rcases in_cases x2 a b (by omega) hab with ⟨-, z | z⟩ | ⟨m, -, -, -, z⟩
    · rw [if_pos z]
    · by_cases z2 : x2 < nI a
      · rw [if_pos z2]
      · rw [if_neg z2, if_neg (nle_lt z)]
    · rw [e4] at z
      exact absurd z (by decide)
  have high : ∀ (w a b m : Nat), w < 3 → b < 1000 → a ≤ m → m ≤ b → tabL w = nI a → tabM w = nI b → x1 = nI w → x2 = nI m → f_X2_change cs x1 x2 = some (cs w, upd cs w (nI m)) := by
    intro w a b m hw hb ha hm e1 e2 e3 e4
    subst e3
    subst e4
    unfold f_X2_change
    rw [if_neg (nI_pos (by omega)), if_neg (show ¬ (3 : Int32) ≤ nI w from nI_ge (b := 3) hw (by omega)), ix_nI (by omega) (by omega), ix_nI (by omega) (by omega), ix_nI (by omega) (by omega), cl_nI (by omega), e1, e2, if_neg (nI_nlt ha (by omega)), if_pos (nI_le hm (by omega)), ix_nI (by omega) (by omega)]
    rfl
  by_cases c0 : x1 = 0
  · subst c0
    rcases in_cases x2 1 50 (by omega) (by omega) with ⟨g, g2⟩ | ⟨m, g1, g2, rfl, g3⟩
    · refine ⟨-1, cs, low 0 1 50 (by omega) (by omega) (by omega) rfl rfl rfl g, Or.inl ⟨rfl, fun zb zu => ?_⟩⟩
      unfold f_X5_set
      rw [if_pos rfl, if_pos (show f_X5_in x2 1 50 = 0 from g)]
    · obtain ⟨v1, v2⟩ := set_J hJ (w := 0) (by omega) (x := nI m) ⟨fun _ => ⟨m, g1, g2, rfl⟩, fun z => absurd z (by decide), fun z => absurd z (by decide)⟩
      refine ⟨cs 0, upd cs 0 (nI m), high 0 1 50 m (by omega) (by omega) g1 g2 rfl rfl rfl rfl, Or.inr ⟨?_, upd zs 0 (nI m), fun zb zu zb' zu' h => ?_, T, F, C, Y, v2⟩⟩
      · obtain ⟨B, b1, b2, b3⟩ := s3
        rw [show cs 0 = nI B from b3]; exact nI_pos (by omega)
      · unfold f_X5_set
        rw [if_pos rfl, if_neg (by rw [show f_X5_in (nI m) 1 50 = 1 from g3]; decide), h]
        show some (zs 0, upd zs 0 (nI m), zb', zu') = _
        rw [v1]
  by_cases c1 : x1 = 1
  · subst c1
    rcases in_cases x2 0 1 (by omega) (by omega) with ⟨g, g2⟩ | ⟨m, g1, g2, rfl, g3⟩
    · refine ⟨-1, cs, low 1 0 1 (by omega) (by omega) (by omega) rfl rfl rfl g, Or.inl ⟨rfl, fun zb zu => ?_⟩⟩
      unfold f_X5_set
      rw [if_neg (by decide), if_pos rfl, if_pos (show f_X5_in x2 0 1 = 0 from g)]
    · have hm : nI m = 0 ∨ nI m = 1 := by
        rcases Nat.lt_or_ge m 1 with z | z
        · have : m = 0 := by omega
          subst this; exact Or.inl rfl
        · have : m = 1 := by omega
          subst this; exact Or.inr rfl
      obtain ⟨v1, v2⟩ := set_J hJ (w := 1) (by omega) (x := nI m) ⟨fun z => absurd z (by decide), fun _ => hm, fun z => absurd z (by decide)⟩
      refine ⟨cs 1, upd cs 1 (nI m), high 1 0 1 m (by omega) (by omega) g1 g2 rfl rfl rfl rfl, Or.inr ⟨?_, upd zs 1 (nI m), fun zb zu zb' zu' h => ?_, T, F, C, Y, v2⟩⟩
      · have s4 : cs 1 = 0 ∨ cs 1 = 1 := s4
        rcases s4 with z | z <;> (rw [z]; decide)
      · unfold f_X5_set
        rw [if_neg (by decide), if_pos rfl, if_neg (by rw [show f_X5_in (nI m) 0 1 = 1 from g3]; decide), h]
        show some (zs 1, upd zs 1 (nI m), zb', zu') = _
        rw [v1]
  by_cases c2 : x1 = 2
  · subst c2
    rcases in_cases x2 2 10 (by omega) (by omega) with ⟨g, g2⟩ | ⟨m, g1, g2, rfl, g3⟩
    · refine ⟨-1, cs, low 2 2 10 (by omega) (by omega) (by omega) rfl rfl rfl g, Or.inl ⟨rfl, fun zb zu => ?_⟩⟩
      unfold f_X5_set
      rw [if_neg (by decide), if_neg (by decide), if_pos rfl, if_pos (show f_X5_in x2 2 10 = 0 from g)]
    · obtain ⟨v1, v2⟩ := set_J hJ (w := 2) (by omega) (x := nI m) ⟨fun z => absurd z (by decide), fun z => absurd z (by decide), fun _ => ⟨m, g1, g2, rfl⟩⟩
      refine ⟨cs 2, upd cs 2 (nI m), high 2 2 10 m (by omega) (by omega) g1 g2 rfl rfl rfl rfl, Or.inr ⟨?_, upd zs 2 (nI m), fun zb zu zb' zu' h => ?_, T, F, C, Y, v2⟩⟩
      · obtain ⟨B, b1, b2, b3⟩ := s5
        rw [show cs 2 = nI B from b3]; exact nI_pos (by omega)
      · unfold f_X5_set
        rw [if_neg (by decide), if_neg (by decide), if_pos rfl, if_neg (by rw [show f_X5_in (nI m) 2 10 = 1 from g3]; decide), h]
        show some (zs 2, upd zs 2 (nI m), zb', zu') = _
        rw [v1]
  · refine ⟨-1, cs, ?_, Or.inl ⟨rfl, fun zb zu => ?_⟩⟩
    · unfold f_X2_change
      rcases in_cases x1 0 2 (by omega) (by omega) with ⟨-, z | z⟩ | ⟨m, m1, m2, rfl, -⟩
      · rw [if_pos (show x1 < 0 from z)]
      · by_cases z2 : x1 < 0
        · rw [if_pos z2]
        · rw [if_neg z2, if_pos]
          have z3 := Int32.lt_iff_toInt_lt.mp z
          refine Int32.le_iff_toInt_le.mpr ?_
          have e2 : (nI 2).toInt = 2 := by decide
          have e3 : (3 : Int32).toInt = 3 := by decide
          rw [e2] at z3
          rw [e3]
          omega
      · match m, m2 with
        | 0, _ => exact absurd rfl c0
        | 1, _ => exact absurd rfl c1
        | 2, _ => exact absurd rfl c2
        | n + 3, h => exact absurd h (by omega)
    · unfold f_X5_set
      rw [if_neg c0, if_neg c1, if_neg c2]
