/-! PURE SIDE: makeVoid, close, clerk, set keep the relation. -/
theorem void_J {K : Nat} (hK : 1000 ≤ K) {d T F C Y : Nat} {ns no nr nt nd ni : Nat → Int32} {nm nf : Int32} {cl : Nat → Nat → Int32} {cc : Int32} {cs : Nat → Int32} {ct : Int32} {zs : Nat → Int32} (hJ : JJ d T F C Y ns no nr nt nd ni nm nf cl cc cs ct zs) {m : Nat} (h1 : 1 ≤ m) (h6 : m ≤ 600) (hs : ns m = 2) :
    ∃ (ns' no' nr' : Nat → Int32) (nf' : Int32), ¬ no m < 0 ∧ zs (48 + 5 * m) = 2 ∧ f_X2_cancel K ns no nr nf (nI m) = some (no m, ns', no', nr', nf') ∧ f_X5_makeHole zs (nI m) 2 = some (hz zs m m 2) ∧ hz zs m m 2 (48 + 5 * m + 1) = no m ∧ JJ d T F C Y ns' no' nr' nt nd ni nm nf' cl cc cs ct (hz zs m m 2) := by
  obtain ⟨t5, ⟨rfl, f1, f6⟩, ⟨rfl, e3, c6⟩, t4, hN, hT, hC, hSs⟩ := id hJ
  have hmF : m < F := held_lt hN h1 h6 (by rw [hs]; decide)
  obtain ⟨q1, q2, q3, q4, q5, q6, q7, q8, q9, q10, q11⟩ := hN m h1 h6
  have hput := put_eq hK ns no nr (F := F) (a := m) (b := m) f6 h1 (by omega) h6 4 (no m) 2
  rw [Nat.max_eq_left (by omega)] at hput
  refine ⟨pz ns m m 4, pz no m m (no m), pz nr m m 2, nI F, (q9 hs).1, q1.trans hs, ?_, ?_, ?_, ⟨?_, ⟨rfl, f1, f6⟩, ⟨rfl, ?_, c6⟩, ?_, ?_, hT, ?_, ?_⟩⟩
  · unfold f_X2_cancel
    rw [isNumber_t h1 h6, if_neg (by decide), ix_nI (by omega) (by omega), cl_nI (by omega), if_pos hs, ix_nI (by omega) (by omega), hput]
    show ix (nI m) 601 (some (pz no m m (no m) m, pz ns m m 4, pz no m m (no m), pz nr m m 2, nI F)) = _
    rw [ix_nI (by omega) (by omega), pz_in (Nat.le_refl _) (Nat.le_refl _)]
  · rw [makeHole_eq 2 h6, ← hz_step zs 2 (Nat.le_refl m), hz_nil _ _ (by omega)]
  · rw [hz_n (by omega), if_pos ⟨Nat.le_refl _, Nat.le_refl _⟩, if_neg (by omega), if_neg (by omega)]
    exact q2
  · exact ⟨t5.1, by rw [hz_lo (by omega)]; exact t5.2⟩
  · rw [hz_lo (by omega)]; exact e3
  · exact ⟨t4.1, by rw [hz_lo (by omega)]; exact t4.2.1, t4.2.2⟩
  · refine JN_hole hN (fun n => m ≤ n ∧ n ≤ m) 2 (by decide) (fun n g1 g2 => ?_) (fun n k g1 g2 hk => ?_)
    · rw [show hz zs m m 2 (48 + 5 * n) = _ from hz_n (k := 0) (by omega), hz_n (by omega)]
      by_cases h : m ≤ n ∧ n ≤ m
      · have : n = m := by omega
        subst this
        exact Or.inl ⟨h, Or.inr (Or.inl hs), pz_in h.1 h.2, pz_in h.1 h.2, pz_in h.1 h.2, by rw [if_pos h, if_pos rfl], by rw [if_pos h, if_neg (by omega), if_pos rfl]⟩
      · exact Or.inr ⟨h, pz_out (by omega), pz_out (by omega), pz_out (by omega), by rw [if_neg h]; rfl, by rw [if_neg h]⟩
    · rw [hz_n (by omega)]
      split
      · rw [if_neg (by omega), if_neg (by omega)]
      · rfl
  · intro j hj
    refine JC_keep hC hj (fun k hk => by rw [hz_lo (by omega)]) (fun n g1 g2 g3 g4 => ?_)
    have : n < m ∨ m < n := by
      rcases Nat.lt_or_ge n m with z | z
      · exact Or.inl z
      · rcases Nat.lt_or_ge m n with z2 | z2
        · exact Or.inr z2
        · have e : n = m := by omega
          rw [e, hs] at g3
          exact absurd g3 (by decide)
    rw [pz_out this, pz_out this]
    exact ⟨g3, g4⟩
  · obtain ⟨s0, s1, s2, s3⟩ := hSs
    exact ⟨by rw [hz_lo (by omega)]; exact s0, by rw [hz_lo (by omega)]; exact s1, by rw [hz_lo (by omega)]; exact s2, s3⟩
/-- from n on, all that is held or free becomes a hole -/
def cz (s f : Nat → Int32) (a : Nat) (v : Int32) : Nat → Int32 := fun j => if a ≤ j ∧ j ≤ 600 ∧ (s j = 1 ∨ s j = 3) then v else f j
theorem cz_nil (s f : Nat → Int32) (v : Int32) : cz s f 601 v = f := by
  funext j
  unfold cz
  rw [if_neg (by omega)]
theorem cz_hit (s f : Nat → Int32) {a : Nat} (v x : Int32) (h6 : a ≤ 600) (h : s a = 1 ∨ s a = 3) : cz (upd s a x) (upd f a v) (a + 1) v = cz s f a v := by
  funext j
  unfold cz upd
  by_cases h2 : j = a
  · subst h2
    rw [if_neg (by omega), if_pos rfl, if_pos ⟨Nat.le_refl _, h6, h⟩]
  · rw [if_neg h2, if_neg h2]
    by_cases h3 : a ≤ j
    · by_cases h4 : j ≤ 600 ∧ (s j = 1 ∨ s j = 3)
      · rw [if_pos ⟨by omega, h4⟩, if_pos ⟨h3, h4⟩]
      · rw [if_neg (fun z => h4 z.2), if_neg (fun z => h4 z.2)]
    · rw [if_neg (fun z => h3 (by omega)), if_neg (fun z => h3 z.1)]
theorem cz_miss (s f : Nat → Int32) {a : Nat} (v : Int32) (h : ¬ (s a = 1 ∨ s a = 3)) : cz s f (a + 1) v = cz s f a v := by
  funext j
  unfold cz
  by_cases h2 : j = a
  · subst h2
    rw [if_neg (by omega), if_neg (fun z => h z.2.2)]
  · by_cases h4 : j ≤ 600 ∧ (s j = 1 ∨ s j = 3)
    · by_cases h3 : a ≤ j
      · rw [if_pos ⟨by omega, h4⟩, if_pos ⟨h3, h4⟩]
      · rw [if_neg (fun z => h3 (by omega)), if_neg (fun z => h3 z.1)]
    · rw [if_neg (fun z => h4 z.2), if_neg (fun z => h4 z.2)]
theorem pz_one (f : Nat → Int32) (a : Nat) (v : Int32) : pz f a a v = upd f a v := by
  rw [← pz_step f v (Nat.le_refl a), pz_nil _ _ (by omega)]
theorem cnt_s1 {p : Nat → Bool} {i m : Nat} (h : p i = true) : cnt p i (m + 1) = 1 + cnt p (i + 1) m := by rw [cnt, if_pos h]
theorem cnt_s0 {p : Nat → Bool} {i m : Nat} (h : p i = false) : cnt p i (m + 1) = cnt p (i + 1) m := by rw [cnt, h, if_neg (by decide), Nat.zero_add]
def cq (s : Nat → Int32) : Nat → Bool := fun k => decide (s k = 1 ∨ s k = 3)
theorem ca_loop {K : Nat} (hK : 1000 ≤ K) {F : Nat} (f6 : F ≤ 601) : ∀ (m i n : Nat) (c : Int32) (ns no nr : Nat → Int32), i + m = 601 → m < n → 1 ≤ i → (∀ k, 1 ≤ k → k ≤ 600 → ns k = 1 ∨ ns k = 3 → k < F) → f_X1_closeAll_4 K n c (nI i) ns no nr (nI F) = some (c + nI (cnt (cq ns) i m), cz ns ns i 4, no, cz ns nr i 3, nI F) := by
  intro m
  induction m with
  | zero =>
    intro i n c ns no nr hi hn h1 hF
    obtain ⟨n, rfl⟩ : ∃ z, n = z + 1 := ⟨n - 1, by omega⟩
    have : i = 601 := by omega
    subst this
    rw [f_X1_closeAll_4, if_pos (g600t (by omega) (by omega)), cz_nil, cz_nil]
    show _ = some (c + 0, _)
    rw [Int32.add_zero]
  | succ m ih =>
    intro i n c ns no nr hi hn h1 hF
    obtain ⟨n, rfl⟩ : ∃ z, n = z + 1 := ⟨n - 1, by omega⟩
    have hput : i < F → f_X1_put K ns no nr (nI F) (nI i) (nI i) 4 (no i) 3 = some (upd ns i 4, no, upd nr i 3, nI F) := by
      intro hiF
      have := put_eq hK ns no nr (F := F) (a := i) (b := i) f6 h1 (by omega) (by omega) 4 (no i) 3
      rw [Nat.max_eq_left (by omega), pz_one, pz_one, pz_one, upd_self no rfl] at this
      exact this
    have hnx : ∀ k, 1 ≤ k → k ≤ 600 → upd ns i 4 k = 1 ∨ upd ns i 4 k = 3 → k < F := by
      intro k k1 k2 k3
      by_cases e : k = i
      · subst e
        rw [pk_us] at k3
        rcases k3 with z | z <;> exact absurd z (by decide)
      · rw [pk_un e] at k3
        exact hF k k1 k2 k3
    have hcn : cnt (cq (upd ns i 4)) (i + 1) m = cnt (cq ns) (i + 1) m := cnt_congr m (i + 1) (fun j j1 j2 => by unfold cq; rw [pk_un (by omega)])
    rw [f_X1_closeAll_4, if_neg (g600f (by omega)), ix_nI (by omega) (by omega), ix_nI (by omega) (by omega), ix_nI (by omega) (by omega), cl_nI (by omega)]
    by_cases e1 : ns i = 1
    · rw [if_pos e1, hput (hF i h1 (by omega) (Or.inl e1))]
      show f_X1_closeAll_4 K n (c + 1) (nI i + 1) (upd ns i 4) no (upd nr i 3) (nI F) = _
      rw [nI_1, ih (i + 1) n _ _ _ _ (by omega) (by omega) (by omega) hnx, cz_hit _ _ _ _ (by omega) (Or.inl e1), cz_hit _ _ _ _ (by omega) (Or.inl e1), hcn, cnt_s1 (by unfold cq; exact decide_eq_true (Or.inl e1)), ← add_cnt]
      rfl
    · rw [if_neg e1]
      by_cases e3 : ns i = 3
      · rw [if_pos e3, hput (hF i h1 (by omega) (Or.inr e3))]
        show f_X1_closeAll_4 K n (c + 1) (nI i + 1) (upd ns i 4) no (upd nr i 3) (nI F) = _
        rw [nI_1, ih (i + 1) n _ _ _ _ (by omega) (by omega) (by omega) hnx, cz_hit _ _ _ _ (by omega) (Or.inr e3), cz_hit _ _ _ _ (by omega) (Or.inr e3), hcn, cnt_s1 (by unfold cq; exact decide_eq_true (Or.inr e3)), ← add_cnt]
        rfl
      · have e : ¬ (ns i = 1 ∨ ns i = 3) := fun z => z.elim e1 e3
        rw [if_neg e3, nI_1, ih (i + 1) n _ _ _ _ (by omega) (by omega) (by omega) hF, cz_miss _ _ _ e, cz_miss _ _ _ e, cnt_s0 (by unfold cq; exact decide_eq_false e)]
/-- the reference's numbers from a on, all held or free ones made holes -/
def cw (f : Nat → Int32) (a : Nat) : Nat → Int32 := fun j => if 48 + 5 * a ≤ j ∧ j < 3053 ∧ (f (j - (j - 48) % 5) = 1 ∨ f (j - (j - 48) % 5) = 3) then (if (j - 48) % 5 = 0 then 4 else if (j - 48) % 5 = 4 then 3 else f j) else f j
theorem cw_n {f : Nat → Int32} {a n k : Nat} (hk : k < 5) (h6 : n ≤ 600) : cw f a (48 + 5 * n + k) = if a ≤ n ∧ (f (48 + 5 * n) = 1 ∨ f (48 + 5 * n) = 3) then (if k = 0 then 4 else if k = 4 then 3 else f (48 + 5 * n + k)) else f (48 + 5 * n + k) := by
  unfold cw
  rw [show (48 + 5 * n + k - 48) % 5 = k by omega, show 48 + 5 * n + k - k = 48 + 5 * n by omega]
  by_cases h : a ≤ n ∧ (f (48 + 5 * n) = 1 ∨ f (48 + 5 * n) = 3)
  · rw [if_pos h, if_pos ⟨by omega, by omega, h.2⟩]
  · rw [if_neg h, if_neg (fun z => h ⟨by omega, z.2.2⟩)]
theorem cw_lo {f : Nat → Int32} {a j : Nat} (h : j < 48) : cw f a j = f j := by
  unfold cw
  rw [if_neg (by omega)]
theorem cw_nil (f : Nat → Int32) : cw f 601 = f := by
  funext j
  unfold cw
  rw [if_neg (by omega)]
theorem cw_hit (f : Nat → Int32) {a : Nat} (h6 : a ≤ 600) (h : f (48 + 5 * a) = 1 ∨ f (48 + 5 * a) = 3) : cw (upd (upd f (48 + 5 * a) 4) (48 + 5 * a + 4) 3) (a + 1) = cw f a := by
  funext j
  by_cases hj : j < 48 + 5 * a
  · unfold cw
    rw [if_neg (by omega), if_neg (by omega), pk_un (by omega), pk_un (by omega)]
  by_cases hj2 : 3053 ≤ j
  · unfold cw
    rw [if_neg (by omega), if_neg (by omega), pk_un (by omega), pk_un (by omega)]
  obtain ⟨n, k, hk, rfl⟩ : ∃ n k, k < 5 ∧ j = 48 + 5 * n + k := ⟨(j - 48) / 5, (j - 48) % 5, by omega, by omega⟩
  rw [cw_n hk (by omega), cw_n hk (by omega)]
  by_cases e : n = a
  · subst e
    rw [if_neg (by omega), if_pos ⟨Nat.le_refl _, h⟩]
    by_cases k0 : k = 0
    · subst k0
      rw [if_pos rfl, pk_un (by omega)]
      exact pk_us
    · by_cases k4 : k = 4
      · subst k4
        rw [if_neg (by omega), if_pos rfl, pk_us]
      · rw [if_neg k0, if_neg k4, pk_un (by omega), pk_un (by omega)]
  · rw [pk_un (by omega), pk_un (by omega), pk_un (by omega), pk_un (by omega)]
    by_cases h4 : f (48 + 5 * n) = 1 ∨ f (48 + 5 * n) = 3
    · rw [if_pos (And.intro (show a + 1 ≤ n by omega) h4), if_pos (And.intro (show a ≤ n by omega) h4)]
    · rw [if_neg (fun z => h4 z.2), if_neg (fun z => h4 z.2)]
theorem cw_miss (f : Nat → Int32) {a : Nat} (h6 : a ≤ 600) (h : ¬ (f (48 + 5 * a) = 1 ∨ f (48 + 5 * a) = 3)) : cw f (a + 1) = cw f a := by
  funext j
  by_cases hj : j < 48 + 5 * a
  · unfold cw
    rw [if_neg (by omega), if_neg (by omega)]
  by_cases hj2 : 3053 ≤ j
  · unfold cw
    rw [if_neg (by omega), if_neg (by omega)]
  obtain ⟨n, k, hk, rfl⟩ : ∃ n k, k < 5 ∧ j = 48 + 5 * n + k := ⟨(j - 48) / 5, (j - 48) % 5, by omega, by omega⟩
  rw [cw_n hk (by omega), cw_n hk (by omega)]
  by_cases e : n = a
  · subst e
    rw [if_neg (by omega), if_neg (fun z => h z.2)]
  · by_cases h4 : f (48 + 5 * n) = 1 ∨ f (48 + 5 * n) = 3
    · rw [if_pos (And.intro (show a + 1 ≤ n by omega) h4), if_pos (And.intro (show a ≤ n by omega) h4)]
    · rw [if_neg (fun z => h4 z.2), if_neg (fun z => h4 z.2)]
def cm (zs : Nat → Int32) : Nat → Bool := fun k => decide (zs (48 + 5 * k) = 1 ∨ zs (48 + 5 * k) = 3)
theorem cl_loop (K : Nat) : ∀ (m i n : Nat) (c : Int32) (zs : Nat → Int32), i + m = 601 → m < n → 1 ≤ i → f_X5_goClose_4 K n c (nI i) zs = f_X5_goClose_58 (c + nI (cnt (cm zs) i m)) K 0 (cw zs i) := by
  intro m
  induction m with
  | zero =>
    intro i n c zs hi hn h1
    obtain ⟨n, rfl⟩ : ∃ z, n = z + 1 := ⟨n - 1, by omega⟩
    have : i = 601 := by omega
    subst this
    rw [f_X5_goClose_4, if_pos (g600t (by omega) (by omega)), cw_nil]
    show _ = f_X5_goClose_58 (c + 0) K 0 zs
    rw [Int32.add_zero]
  | succ m ih =>
    intro i n c zs hi hn h1
    obtain ⟨n, rfl⟩ : ∃ z, n = z + 1 := ⟨n - 1, by omega⟩
    have hcn : cnt (cm (upd (upd zs (48 + 5 * i) 4) (48 + 5 * i + 4) 3)) (i + 1) m = cnt (cm zs) (i + 1) m := cnt_congr m (i + 1) (fun j j1 j2 => by unfold cm; rw [pk_un (by omega), pk_un (by omega)])
    rw [f_X5_goClose_4, if_neg (g600f (by omega)), n_nI, nI_a0, ix_nI (by omega) (by omega), ix_nI (by omega) (by omega), cl_nI (by omega), makeHole_eq 3 (by omega)]
    have hh : zs (48 + 5 * i) = 1 ∨ zs (48 + 5 * i) = 3 → f_X5_goClose_4 K n (c + 1) (nI i + 1) (upd (upd zs (48 + 5 * i) 4) (48 + 5 * i + 4) 3) = f_X5_goClose_58 (c + nI (cnt (cm zs) i (m + 1))) K 0 (cw zs i) := by
      intro e
      rw [nI_1, ih (i + 1) n _ _ (by omega) (by omega) (by omega), cw_hit _ (by omega) e, hcn, cnt_s1 (by unfold cm; exact decide_eq_true e), ← add_cnt]
      rfl
    by_cases e1 : zs (48 + 5 * i) = 1
    · rw [if_pos e1]
      exact hh (Or.inl e1)
    · rw [if_neg e1]
      by_cases e3 : zs (48 + 5 * i) = 3
      · rw [if_pos e3]
        exact hh (Or.inr e3)
      · have e : ¬ (zs (48 + 5 * i) = 1 ∨ zs (48 + 5 * i) = 3) := fun z => z.elim e1 e3
        rw [if_neg e3, nI_1, ih (i + 1) n _ _ (by omega) (by omega) (by omega), cw_miss _ (by omega) e, cnt_s0 (by unfold cm; exact decide_eq_false e)]
/-- the reference's clerks from a on hold nothing -/
def dz (f : Nat → Int32) (a C : Nat) : Nat → Int32 := fun j => if 6 + 7 * a ≤ j ∧ j < 6 + 7 * C ∧ (j - 6) % 7 = 1 then f (j + 1) + 1 else f j
theorem dc_loop (r : Int32) {C : Nat} (h6 : C ≤ 6) : ∀ (m i n : Nat) (zs : Nat → Int32), i + m = C → m < n → zs 3 = nI C → f_X5_goClose_58 r n (nI i) zs = some (r, upd (dz zs i C) 4 (zs 4 + 1)) := by
  intro m
  induction m with
  | zero =>
    intro i n zs hi hn h3
    obtain ⟨n, rfl⟩ : ∃ z, n = z + 1 := ⟨n - 1, by omega⟩
    have : i = C := by omega
    subst this
    rw [f_X5_goClose_58, h3, if_pos (nI_le (Nat.le_refl _) (by omega))]
    have : dz zs i i = zs := by
      funext j
      unfold dz
      rw [if_neg (by omega)]
    rw [this]
    rfl
  | succ m ih =>
    intro i n zs hi hn h3
    obtain ⟨n, rfl⟩ : ∃ z, n = z + 1 := ⟨n - 1, by omega⟩
    rw [f_X5_goClose_58, h3, if_neg (nI_ge (a := i) (b := C) (by omega) (by omega)), c_nI, nI_1, nI_a2, ix_nI (by omega) (by omega), ix_nI (by omega) (by omega), cl_nI (by omega), cl_nI (by omega)]
    show f_X5_goClose_58 r n (nI i + 1) (upd zs (6 + 7 * i + 1) (zs (6 + 7 * i + 2) + 1)) = _
    rw [nI_1, ih (i + 1) n _ (by omega) (by omega) (by rw [pk_un (by omega)]; exact h3), pk_un (by omega)]
    have : dz (upd zs (6 + 7 * i + 1) (zs (6 + 7 * i + 2) + 1)) (i + 1) C = dz zs i C := by
      funext j
      unfold dz
      by_cases e : j = 6 + 7 * i + 1
      · subst e
        rw [if_neg (by omega), if_pos (by omega), pk_us]
      · by_cases e2 : 6 + 7 * (i + 1) ≤ j ∧ j < 6 + 7 * C ∧ (j - 6) % 7 = 1
        · rw [if_pos e2, if_pos (by omega), pk_un (by omega)]
        · rw [if_neg e2, if_neg (by omega), pk_un e]
    rw [this]
theorem cz_at {s f : Nat → Int32} {a j : Nat} {v : Int32} (h6 : j ≤ 600) : cz s f a v j = if a ≤ j ∧ (s j = 1 ∨ s j = 3) then v else f j := by
  unfold cz
  by_cases h : a ≤ j ∧ (s j = 1 ∨ s j = 3)
  · rw [if_pos h, if_pos ⟨h.1, h6, h.2⟩]
  · rw [if_neg h, if_neg (fun z => h ⟨z.1, z.2.2⟩)]
theorem dz_lo {f : Nat → Int32} {a C j : Nat} (h : j < 6 ∨ 6 + 7 * C ≤ j) : dz f a C j = f j := by
  unfold dz
  rw [if_neg (by omega)]
theorem dz_c {f : Nat → Int32} {C i k : Nat} (hk : k < 7) : dz f 0 C (6 + 7 * i + k) = if i < C ∧ k = 1 then f (6 + 7 * i + 2) + 1 else f (6 + 7 * i + k) := by
  unfold dz
  by_cases h : i < C ∧ k = 1
  · obtain ⟨h1, rfl⟩ := h
    rw [if_pos (by omega), if_pos ⟨h1, rfl⟩]
  · rw [if_neg (by omega), if_neg h]
def drp (ck : Nat → Int32) : Nat → Int32 := upd (upd (upd ck 1 1) 2 0) 3 0
theorem drop_eq (ck : Nat → Int32) : f_X0_drop ck = some (drp ck) := rfl
def dcl (cl : Nat → Nat → Int32) : Nat → Nat → Int32 := va_up (va_up (va_up (va_up (va_up (va_up cl 0 (drp (cl 0))) 1 (drp (cl 1))) 2 (drp (cl 2))) 3 (drp (cl 3))) 4 (drp (cl 4))) 5 (drp (cl 5))
theorem dcl_at (cl : Nat → Nat → Int32) {j : Nat} (h : j < 6) : dcl cl j = drp (cl j) := by
  match j, h with
  | 0, _ => rfl
  | 1, _ => rfl
  | 2, _ => rfl
  | 3, _ => rfl
  | 4, _ => rfl
  | 5, _ => rfl
  | n + 6, h => exact absurd h (by omega)
theorem close_J {K : Nat} (hK : 1000 ≤ K) {d T F C Y : Nat} {ns no nr nt nd ni : Nat → Int32} {nm nf : Int32} {cl : Nat → Nat → Int32} {cc : Int32} {cs : Nat → Int32} {ct : Int32} {zs : Nat → Int32} (hJ : JJ d T F C Y ns no nr nt nd ni nm nf cl cc cs ct zs) :
    ∃ (c : Nat) (zs' : Nat → Int32), c ≤ 600 ∧ f_X2_endDay K ns no nr nf cl ct = some (nI c, cz ns ns 1 4, no, cz ns nr 1 3, nf, dcl cl, ct + 1) ∧ f_X5_goClose K zs = some (nI c, zs') ∧ JJ (d + 1) T F C (Y + 1) (cz ns ns 1 4) no (cz ns nr 1 3) nt nd ni nm nf (dcl cl) cc cs (ct + 1) zs' := by
  obtain ⟨t5, ⟨rfl, f1, f6⟩, ⟨rfl, e3, c6⟩, ⟨rfl, t4, t4b⟩, hN, hT, hC, hSs⟩ := id hJ
  have hcl := ca_loop hK f6 600 1 K 0 ns no nr (by omega) (by omega) (by omega) (fun k k1 k2 k3 => held_lt hN k1 k2 (by rcases k3 with z | z <;> (rw [z]; decide)))
  have hcm : cnt (cm zs) 1 600 = cnt (cq ns) 1 600 := cnt_congr 600 1 (fun j j1 j2 => by unfold cm cq; rw [(hN j j1 (by omega)).1])
  refine ⟨cnt (cq ns) 1 600, upd (dz (cw zs 1) 0 C) 4 (zs 4 + 1), cnt_le _ _ _, ?_, ?_, ⟨⟨t5.1, ?_⟩, ⟨rfl, f1, f6⟩, ⟨rfl, ?_, c6⟩, ⟨nI_1 Y, ?_, by omega⟩, ?_, hT, ?_, ?_⟩⟩
  · unfold f_X2_endDay f_X1_closeAll
    rw [show f_X1_closeAll_4 K K 0 1 ns no nr (nI F) = _ from hcl, Int32.zero_add]
    rfl
  · unfold f_X5_goClose
    rw [show f_X5_goClose_4 K K 0 1 zs = _ from cl_loop K 600 1 K 0 zs (by omega) (by omega) (by omega), show f_X5_goClose_58 (0 + nI (cnt (cm zs) 1 600)) K 0 (cw zs 1) = _ from dc_loop _ c6 C 0 K _ (by omega) (by omega) (by rw [cw_lo (by omega)]; exact e3), Int32.zero_add, hcm, cw_lo (by omega)]
  · rw [pk_un (by omega), dz_lo (by omega), cw_lo (by omega)]; exact t5.2
  · rw [pk_un (by omega), dz_lo (by omega), cw_lo (by omega)]; exact e3
  · rw [pk_us, t4, nI_1]
  · refine JN_hole hN (fun n => ns n = 1 ∨ ns n = 3) 3 (by decide) (fun n h1 h2 => ?_) (fun n k h1 h2 hk => ?_)
    · rw [pk_un (by omega), pk_un (by omega), dz_lo (by omega), dz_lo (by omega), cz_at h2, cz_at h2, show cw zs 1 (48 + 5 * n) = _ from cw_n (k := 0) (by omega) h2, cw_n (by omega) h2, (hN n h1 h2).1]
      by_cases h : ns n = 1 ∨ ns n = 3
      · refine Or.inl ⟨h, by rcases h with z | z; exact Or.inl z; exact Or.inr (Or.inr z), by rw [if_pos ⟨h1, h⟩], rfl, by rw [if_pos ⟨h1, h⟩], by rw [if_pos ⟨h1, h⟩, if_pos rfl], by rw [if_pos ⟨h1, h⟩, if_neg (by omega), if_pos rfl]⟩
      · exact Or.inr ⟨h, by rw [if_neg (fun z => h z.2)], rfl, by rw [if_neg (fun z => h z.2)], by rw [if_neg (fun z => h z.2)]; exact (hN n h1 h2).1, by rw [if_neg (fun z => h z.2)]⟩
    · rw [pk_un (by omega), dz_lo (by omega), cw_n (by omega) h2]
      split
      · rw [if_neg (by omega), if_neg (by omega)]
      · rfl
  · intro j hj
    obtain ⟨k1, k2⟩ := hC j hj
    rw [dcl_at cl hj]
    have hz : ∀ k, k < 7 → ¬ (j < C ∧ k = 1) → upd (dz (cw zs 1) 0 C) 4 (zs 4 + 1) (6 + 7 * j + k) = zs (6 + 7 * j + k) := fun k hk hne => by rw [pk_un (by omega), dz_c hk, if_neg hne, cw_lo (by omega)]
    have hz0 : upd (dz (cw zs 1) 0 C) 4 (zs 4 + 1) (6 + 7 * j) = zs (6 + 7 * j) := hz 0 (by omega) (by omega)
    refine ⟨fun h => ?_, fun h => ?_⟩
    · obtain ⟨p1, p2, p3, p4, p5, p6⟩ := k1 h
      refine ⟨hz0.trans p1, (hz 4 (by omega) (by omega)).trans p2, (hz 5 (by omega) (by omega)).trans p3, (hz 6 (by omega) (by omega)).trans p4, ?_, p6⟩
      have w1 : upd (dz (cw zs 1) 0 C) 4 (zs 4 + 1) (6 + 7 * j + 1) = zs (6 + 7 * j + 2) + 1 := by rw [pk_un (by omega), dz_c (by omega), if_pos ⟨h, rfl⟩, cw_lo (by omega)]
      rw [w1, hz 2 (by omega) (by omega)]
      have hx : ∃ x : Nat, x ≤ 600 ∧ zs (6 + 7 * j + 2) = nI x := by
        rcases p5 with ⟨lo, hi, mk, a1, a2, a3, a4, a5, a6, a7, a8, a9, a10, a11⟩ | ⟨hi, mk, h2, a1, a2, a3, a4, a5, a6, a7, a8⟩
        · exact ⟨hi, a3, a9⟩
        · exact ⟨h2, a3, a8⟩
      obtain ⟨x, x1, x2⟩ := hx
      exact Or.inr ⟨0, 0, x, by omega, by omega, x1, rfl, rfl, rfl, by rw [x2, nI_1], x2⟩
    · obtain ⟨p1, p2, p3, p4⟩ := k2 h
      refine ⟨fun k hk => ?_, (hz 3 (by omega) (by omega)).trans p2, (hz 4 (by omega) (by omega)).trans p3, (hz 5 (by omega) (by omega)).trans p4⟩
      have := p1 k hk
      unfold drp upd
      by_cases e3 : k = 3
      · subst e3; rfl
      · rw [if_neg e3]
        by_cases e2 : k = 2
        · subst e2; rfl
        · rw [if_neg e2]
          by_cases e1 : k = 1
          · subst e1; rfl
          · rw [if_neg e1]; exact this
  · obtain ⟨s0, s1, s2, s3⟩ := hSs
    exact ⟨by rw [pk_un (by omega), dz_lo (by omega), cw_lo (by omega)]; exact s0, by rw [pk_un (by omega), dz_lo (by omega), cw_lo (by omega)]; exact s1, by rw [pk_un (by omega), dz_lo (by omega), cw_lo (by omega)]; exact s2, s3⟩
