/-! PURE SIDE: getting a block, both sides. -/
def gbT (x2 x3 x5 : Int32) (zs : Nat → Int32) : Option (Nat → Int32) :=
  ix (x2 + 1) 3053 <|
  nb (upd zs (x2 + 1).toNatClampNeg x3) fun y11 =>
  ix (x2 + 2) 3053 <|
  nb (upd y11 (x2 + 2).toNatClampNeg (x5 - 1)) fun y14 =>
  ix (x2 + 0) 3053 <|
  if (y14 (x2 + 0).toNatClampNeg) = 2 then (
  ix (x2 + 3) 3053 <|
  nb (upd y14 (x2 + 3).toNatClampNeg (x5 - 1)) fun y26 =>
  ix (x2 + 5) 3053 <|
  ix (x2 + 5) 3053 <|
  nb (upd y26 (x2 + 5).toNatClampNeg ((y26 (x2 + 5).toNatClampNeg) + 1)) fun y30 =>
  some y30)
  else (
  ix (x2 + 3) 3053 <|
  nb (upd y14 (x2 + 3).toNatClampNeg (x3 - 1)) fun y19 =>
  ix (x2 + 5) 3053 <|
  ix (x2 + 5) 3053 <|
  nb (upd y19 (x2 + 5).toNatClampNeg ((y19 (x2 + 5).toNatClampNeg) + 1)) fun y23 =>
  some y23)
theorem gb_eq (x1 x2 x3 x4 x5 : Int32) (n : Nat) (zs : Nat → Int32) : f_X5_getBlock_26 x1 x2 x3 x4 (n + 1) x5 zs = if 600 < x5 then gbT x2 x3 x5 zs else if (zs 0) ≤ (x5 - x3) then gbT x2 x3 x5 zs else ix ((f_X5_n x5) + 0) 3053 (if (zs ((f_X5_n x5) + 0).toNatClampNeg) = x4 then ix ((f_X5_n x5) + 0) 3053 (nb (upd zs ((f_X5_n x5) + 0).toNatClampNeg 1) fun y84 => ix ((f_X5_n x5) + 1) 3053 (nb (upd y84 ((f_X5_n x5) + 1).toNatClampNeg x1) fun y89 => f_X5_getBlock_26 x1 x2 x3 x4 n (x5 + 1) y89)) else gbT x2 x3 x5 zs) := rfl
/-- the reference's loop over a block -/
theorem gb_loop (c st : Int32) (x2 : Int32) (a B : Nat) (ha : 1 ≤ a) (hB : B ≤ 50) (p : Nat → Bool) : ∀ (m x n : Nat) (zs : Nat → Int32), x + m = a + B → m < n → a ≤ x → x ≤ 601 → zs 0 = nI B → (∀ j, x ≤ j → p j = (decide (j ≤ 600) && decide (zs (48 + 5 * j) = st))) → f_X5_getBlock_26 c x2 (nI a) st n (nI x) zs = gbT x2 (nI a) (nI (x + run p x m)) (wz (wz zs x (x + run p x m - 1) 0 1) x (x + run p x m - 1) 1 c) := by
  intro m
  induction m with
  | zero =>
    intro x n zs hm hn hx hx6 h0 hp
    obtain ⟨n, rfl⟩ : ∃ z, n = z + 1 := ⟨n - 1, by omega⟩
    have hB1 : (zs 0) ≤ (nI x - nI a) := by
      rw [h0, pk_sub (by omega)]
      exact nI_le (by omega) (by omega)
    have e : run p x 0 = 0 := rfl
    rw [gb_eq, e, wz_nil _ _ _ (by omega), wz_nil _ _ _ (by omega), if_pos hB1]
    by_cases h : 600 < x
    · rw [if_pos (g600t h (by omega))]; rfl
    · rw [if_neg (g600f (by omega))]; rfl
  | succ m ih =>
    intro x n zs hm hn hx hx6 h0 hp
    obtain ⟨n, rfl⟩ : ∃ z, n = z + 1 := ⟨n - 1, by omega⟩
    rw [gb_eq]
    have hpx := hp x (Nat.le_refl x)
    have hB1 : ¬ (zs 0) ≤ (nI x - nI a) := by
      rw [h0, pk_sub (by omega)]
      exact nI_ge (by omega) (by omega)
    by_cases h : 600 < x
    · have e : run p x (m + 1) = 0 := by
        unfold run
        rw [if_neg]
        rw [hpx]
        simp
        omega
      rw [if_pos (g600t h (by omega)), e, wz_nil _ _ _ (by omega), wz_nil _ _ _ (by omega)]
      rfl
    · rw [if_neg (g600f (by omega)), if_neg hB1, n_nI, nI_a0, nI_1, nI_1]
      simp (disch := omega) only [ix_nI, cl_nI, nb]
      by_cases hs : zs (48 + 5 * x) = st
      · have e : run p x (m + 1) = run p (x + 1) m + 1 := by
          show (if p x then run p (x + 1) m + 1 else 0) = _
          rw [if_pos]
          rw [hpx]
          simp
          exact ⟨by omega, hs⟩
        rw [if_pos hs, ih (x + 1) n _ (by omega) (by omega) (by omega) (by omega) ?_ ?_, e]
        · have e2 : x + 1 + run p (x + 1) m = x + (run p (x + 1) m + 1) := by omega
          rw [e2]
          have e3 : x ≤ x + (run p (x + 1) m + 1) - 1 := by omega
          generalize x + (run p (x + 1) m + 1) - 1 = b at e3
          congr 1
          rw [wz_comm _ _ _ (by omega)]
          have q := wz_step zs (a := x) (b := b) (k := 0) 1 e3 (by omega)
          rw [show 48 + 5 * x + 0 = 48 + 5 * x by omega] at q
          rw [q]
          exact wz_step _ (a := x) (b := b) (k := 1) c e3 (by omega)
        · rw [pk_un (by omega), pk_un (by omega)]; exact h0
        · intro j hj
          rw [hp j (by omega), pk_un (by omega), pk_un (by omega)]
      · have e : run p x (m + 1) = 0 := by
          show (if p x then run p (x + 1) m + 1 else 0) = _
          rw [if_neg]
          rw [hpx]
          simp
          exact fun _ => hs
        rw [if_neg hs, e, wz_nil _ _ _ (by omega), wz_nil _ _ _ (by omega)]
        rfl
/-- the clerk's part of the reference behind a block -/
theorem gbT_eq {i a e : Nat} (hi : i < 6) (ha : 1 ≤ a) (hae : a < e) (he : e ≤ 601) (zs : Nat → Int32) : ∃ zs', gbT (nI (6 + 7 * i)) (nI a) (nI e) zs = some zs' ∧ (∀ j, (j < 6 + 7 * i + 1 ∨ 6 + 7 * i + 5 < j ∨ j = 6 + 7 * i + 4) → zs' j = zs j) ∧ zs' (6 + 7 * i + 1) = nI a ∧ zs' (6 + 7 * i + 2) = nI (e - 1) ∧ zs' (6 + 7 * i + 3) = (if zs (6 + 7 * i) = 2 then nI (e - 1) else nI (a - 1)) ∧ zs' (6 + 7 * i + 5) = zs (6 + 7 * i + 5) + 1 := by
  unfold gbT
  rw [nI_1, nI_a2, nI_a0, nI_a3, nI_a5, nI_s1 (by omega), nI_s1 (by omega)]
  simp (disch := omega) only [ix_nI, cl_nI, nb, pk_un]
  by_cases h : zs (6 + 7 * i) = 2
  · rw [if_pos h, if_pos h]
    refine ⟨_, rfl, fun j hj => ?_, ?_, ?_, ?_, ?_⟩
    · rw [pk_un (by omega), pk_un (by omega), pk_un (by omega), pk_un (by omega)]
    · rw [pk_un (by omega), pk_un (by omega), pk_un (by omega), pk_us]
    · rw [pk_un (by omega), pk_un (by omega), pk_us]
    · rw [pk_un (by omega), pk_us]
    · rw [pk_us]
  · rw [if_neg h, if_neg h]
    refine ⟨_, rfl, fun j hj => ?_, ?_, ?_, ?_, ?_⟩
    · rw [pk_un (by omega), pk_un (by omega), pk_un (by omega), pk_un (by omega)]
    · rw [pk_un (by omega), pk_un (by omega), pk_un (by omega), pk_us]
    · rw [pk_un (by omega), pk_un (by omega), pk_us]
    · rw [pk_un (by omega), pk_us]
    · rw [pk_us]
/-- the clerk's part of the class behind a block -/
theorem receive_eq {a e : Nat} (ha : 1 ≤ a) (ck : Nat → Int32) : ∃ ck', f_X0_receive ck (nI a) (nI (e - 1)) = some ck' ∧ ck' 0 = ck 0 ∧ ck' 1 = nI a ∧ ck' 2 = nI (e - 1) ∧ ck' 3 = (if ck 0 = 2 then nI (e - 1) else nI (a - 1)) ∧ ck' 4 = ck 4 ∧ ck' 5 = ck 5 + 1 ∧ ck' 6 = ck 6 := by
  unfold f_X0_receive
  rw [nI_s1 ha]
  by_cases h : ck 0 = 2
  · rw [if_pos h, if_pos h]
    exact ⟨_, rfl, rfl, rfl, rfl, rfl, rfl, rfl, rfl⟩
  · rw [if_neg h, if_neg h]
    exact ⟨_, rfl, rfl, rfl, rfl, rfl, rfl, rfl, rfl⟩
/-- a range that leaves a count -/
theorem cnt_range {p : Nat → Bool} (a : Nat) : ∀ (l : Nat) (q : Nat → Bool), (∀ j, a ≤ j → j < a + l → p j = true) → (∀ j, q j = (p j && !(decide (a ≤ j) && decide (j < a + l)))) → 1 ≤ a → a + l ≤ 601 → cnt p 1 600 = cnt q 1 600 + l := by
  intro l
  induction l with
  | zero =>
    intro q hp hq h1 h2
    rw [Nat.add_zero]
    refine cnt_congr 600 1 (fun j _ _ => ?_)
    rw [hq]
    have : ¬ (a ≤ j ∧ j < a + 0) := by omega
    by_cases h : a ≤ j
    · have h2 : decide (j < a + 0) = false := decide_eq_false (by omega)
      rw [h2]
      simp
    · simp [h]
  | succ l ih =>
    intro q hp hq h1 h2
    have h3 := ih (fun j => p j && !(decide (a ≤ j) && decide (j < a + l))) (fun j b c => hp j b (by omega)) (fun j => rfl) h1 (by omega)
    rw [h3]
    have h4 := cnt_one (p := q) (q := fun j => p j && !(decide (a ≤ j) && decide (j < a + l))) (k := a + l) (by rw [hq]; simp) (by simp [hp (a + l) (by omega) (by omega)]) (fun j hj => by
      rw [hq]
      by_cases h : a ≤ j
      · by_cases h5 : j < a + l
        · have : j < a + (l + 1) := by omega
          simp [h, h5, this]
        · have : ¬ j < a + (l + 1) := by omega
          simp [h, h5, this]
      · simp [h]) 600 1 (by omega) (by omega)
    rw [h4]
    omega
