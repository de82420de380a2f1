/-! PURE SIDE: the text's steps. -/
theorem char_id : ∀ m : Nat, m < 127 → vp_nar .char (i2c (nI m)) = nI m := by decide +kernel
theorem s_type {K : Nat} : St_type VI K := by
  intro k wo wt hs hp kp fp fr sc sl sp sv sf ss zs zb za zt zl zu zp zw zf zg zc hk hI x1
  obtain ⟨hJ, hH, L, h80, rfl, rfl, hX⟩ := hI
  have stay : VI (k + 1) wo wt hs hp kp fp fr sc (nI L) sp sv sf ss zs zb za zt (nI L) zu zp zw zf zg zc := ⟨JO_up (by omega) hJ, HI_up (by omega) hH, L, h80, rfl, rfl, hX⟩
  rcases in_cases x1 32 126 (by omega) (by omega) with ⟨h, h2⟩ | ⟨m, h1, h2, rfl, h3⟩
  · refine ⟨-1, sc, nI L, zt, nI L, ?_, ?_, stay⟩
    · show (f_X3_append sc (nI L) x1).bind _ = _
      have : f_X3_append sc (nI L) x1 = some ((-1), sc, nI L) := by
        unfold f_X3_append
        rcases h2 with z | z
        · rw [if_pos (show x1 < 32 from z)]
        · by_cases z2 : x1 < 32
          · rw [if_pos z2]
          · rw [if_neg z2, if_neg (show ¬ x1 ≤ (126 : Int32) from nle_lt z)]
      rw [this]
      rfl
    · unfold f_X5_type
      rw [if_pos (show f_X5_in x1 32 126 = 0 from h)]
  have a1 : ¬ nI m < (32 : Int32) := nI_nlt (b := 32) h1 (by omega)
  have a2 : nI m ≤ (126 : Int32) := nI_le (b := 126) h2 (by omega)
  have a3 : ¬ f_X5_in (nI m) 32 126 = 0 := by rw [show f_X5_in (nI m) 32 126 = 1 from h3]; decide
  by_cases hL : L = 80
  · subst hL
    refine ⟨-3, sc, nI 80, zt, nI 80, ?_, ?_, stay⟩
    · show (f_X3_append sc (nI 80) (nI m)).bind _ = _
      unfold f_X3_append
      rw [if_neg a1, if_pos a2]
      rfl
    · unfold f_X5_type
      rw [if_neg a3]
      rfl
  · refine ⟨nI (L + 1), upd sc L (nI m), nI (L + 1), upd zt L (nI m), nI (L + 1), ?_, ?_, JO_up (by omega) hJ, HI_up (by omega) hH, L + 1, by omega, rfl, rfl, ?_⟩
    · show (f_X3_append sc (nI L) (nI m)).bind _ = _
      unfold f_X3_append
      rw [if_neg a1, if_pos a2, if_neg (nI_pos (by omega)), if_pos (show nI L < (80 : Int32) from nI_lt (b := 80) (by omega) (by omega)), ix_nI (by omega) (by omega), cl_nI (by omega), char_id m (by omega), nI_1]
      rfl
    · unfold f_X5_type
      rw [if_neg a3, if_neg (show ¬ nI L = (80 : Int32) from fun z => hL (nI_inj (b := 80) (by omega) (by omega) z)), ix_nI (by omega) (by omega), cl_nI (by omega), nI_1]
      rfl
    · intro j hj
      by_cases e : j = L
      · subst e
        rw [pk_us, pk_us]
      · rw [pk_un e, pk_un e]
        exact hX j (by omega)
theorem s_clearText {K : Nat} : St_clearText VI K := by
  intro k wo wt hs hp kp fp fr sc sl sp sv sf ss zs zb za zt zl zu zp zw zf zg zc hk hI
  obtain ⟨hJ, hH, L, h80, rfl, rfl, hX⟩ := hI
  exact ⟨nI L, 0, 0, rfl, rfl, JO_up (by omega) hJ, HI_up (by omega) hH, 0, by omega, rfl, rfl, fun j hj => absurd hj (by omega)⟩
