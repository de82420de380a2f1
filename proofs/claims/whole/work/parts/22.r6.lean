/-! PURE SIDE: all steps together, and the start. -/
theorem st_all : StAll VI 20000 := by
  have hK : 20000 ≤ 20000 := Nat.le_refl _
  refine ⟨s_clerk hK, s_ask hK, s_forget hK, s_giveBack hK, s_makeVoid hK, s_close hK, s_set hK, s_numberOf hK, s_clerkOf hK, s_holesAt hK, s_freeAt hK, s_turnAt hK, s_among hK, s_count hK, s_next hK, s_cost hK, s_worst hK, s_undo hK, s_type, s_clearText, s_fault hK, s_play hK, ?_⟩
  intro k wo wt hs hp kp fp fr sc sl sp sv sf ss zs zb za zt zl zu zp zw zf zg zc hI
  exact VI_next hI
theorem zsI_lo {j : Nat} (h : 3 ≤ j) (h2 : j < 53) : zsI 601 j = 0 := by
  unfold zsI
  rw [if_neg (by omega), if_neg (by omega), if_neg (by omega), if_neg (by omega)]
theorem zsI_n {n k : Nat} (h1 : 1 ≤ n) (h6 : n ≤ 600) (hk : k < 5) : zsI 601 (48 + 5 * n + k) = if k = 1 ∨ k = 2 then (-1) else 0 := by
  unfold zsI
  rw [if_neg (by omega), if_neg (by omega), if_neg (by omega)]
  by_cases h : k = 1 ∨ k = 2
  · rw [if_pos (by omega), if_pos h]
  · rw [if_neg (by omega), if_neg h]
theorem start_JO : JO (80 * 0) ow0 (zsI 601) := by
  refine ⟨0, 1, 0, 0, ⟨rfl, zsI_lo (by omega) (by omega)⟩, ⟨rfl, by omega, by omega⟩, ⟨rfl, zsI_lo (by omega) (by omega), by omega⟩, ⟨rfl, zsI_lo (by omega) (by omega), by omega⟩, ?_, ⟨fun j hj => absurd hj (by omega), ?_⟩, ?_, ?_⟩
  · intro n n1 n6
    refine ⟨zsI_n (k := 0) n1 n6 (by omega), zsI_n (k := 1) n1 n6 (by omega), zsI_n (k := 2) n1 n6 (by omega), Or.inl rfl, ⟨fun _ => n1, fun _ => rfl⟩, fun _ => rfl, fun _ => rfl, fun h => absurd h (show ¬ (0 : Int32) = 4 by decide), fun h => absurd h (show ¬ (0 : Int32) = 2 by decide), fun _ => rfl, Or.inl ⟨rfl, rfl⟩⟩
  · exact cnt_zero (fun j _ _ => rfl)
  · intro i hi
    exact ⟨fun h => absurd h (by omega), fun _ => ⟨fun k hk => rfl, zsI_lo (by omega) (by omega), zsI_lo (by omega) (by omega), zsI_lo (by omega) (by omega)⟩⟩
  · exact ⟨rfl, rfl, rfl, ⟨10, by omega, by omega, rfl⟩, Or.inr rfl, ⟨4, by omega, by omega, rfl⟩⟩
theorem start_VI : VI 0 ow0 ow0 (fun _ => ow0) (fun i => i) 0 (-1) 0 (fun _ => 0) 0 0 (-1) (-1) (-1) (zsI 601) (fun _ => 0) (fun _ => 0) (fun _ => 0) 0 0 0 0 0 0 0 :=
  ⟨start_JO, ⟨0, by omega, rfl, rfl, fun j hj => hj, fun i j _ _ h => h, fun j hj => absurd hj (by omega)⟩, ⟨0, by omega, rfl, rfl, fun j hj => absurd hj (by omega)⟩⟩
