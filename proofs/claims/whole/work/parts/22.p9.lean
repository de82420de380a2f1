/-! PURE SIDE: makeVoid, close, clerk, set keep the relation. -/
theorem void_J {K : Nat} (hK : 1000 ≤ K) {d T F C Y : Nat} {ns no nr nt nd ni : Nat → Int32} {nm nf : Int32} {cl : Nat → Nat → Int32} {cc : Int32} {cs : Nat → Int32} {ct : Int32} {zs : Nat → Int32} (hJ : JJ d T F C Y ns no nr nt nd ni nm nf cl cc cs ct zs) {m : Nat} (h1 : 1 ≤ m) (h6 : m ≤ 600) (hs : ns m = 2) :
    ∃ (ns' no' nr' : Nat → Int32) (nf' : Int32), ¬ no m < 0 ∧ zs (48 + 5 * m) = 2 ∧ f_X2_cancel K ns no nr nf (nI m) = some (no m, ns', no', nr', nf') ∧ f_X5_makeHole zs (nI m) 2 = some (hz zs m m 2) ∧ hz zs m m 2 (48 + 5 * m + 1) = no m ∧ JJ d T F C Y ns' no' nr' nt nd ni nm nf' cl cc cs ct (hz zs m m 2) := by
  obtain ⟨t5, ⟨rfl, f1, f6⟩, ⟨rfl, e3, c6⟩, t4, hN, hT, hC, hSs⟩ := id hJ
  have hmF : m < F := held_lt hN h1 h6 (by rw [hs]; decide)
  obtain ⟨q1, q2, q3, q4, q5, q6, q7, q8, q9, q10, q11⟩ := hN m h1 h6
  have hput := put_eq hK ns no nr (F := F) (a := m) (b := m) f6 h1 (by omega) h6 4 (no m) 2
  rw [Nat.max_eq_left (by omega)] at hput
  refine ⟨pz ns m m 4, pz no m m (no m), pz nr m m 2, nI F, (q9 hs).1, q1.trans hs, ?_, ?_, ?_, ⟨?_, ⟨rfl, f1, f6⟩, ⟨rfl, ?_, c6⟩, ?_, ?_, hT, ?_, ?_⟩⟩
  · unfold f_X2_cancel
    rw [isNumber_t h1 h6, if_neg (by decide), ix_nI (by omega) (by omega), cl_nI (by omega), if_pos hs, ix_nI (by omega) (by omega), hput]
    show ix (nI m) 601 (some (pz no m m (no m) m, pz ns m m 4, pz no m m (no m), pz nr m m 2, nI F)) = _
    rw [ix_nI (by omega) (by omega), pz_in (Nat.le_refl _) (Nat.le_refl _)]
  · rw [makeHole_eq 2 h6, ← hz_step zs 2 (Nat.le_refl m), hz_nil _ _ (by omega)]
  · rw [hz_n (by omega), if_pos ⟨Nat.le_refl _, Nat.le_refl _⟩, if_neg (by omega), if_neg (by omega)]
    exact q2
  · exact ⟨t5.1, by rw [hz_lo (by omega)]; exact t5.2⟩
  · rw [hz_lo (by omega)]; exact e3
  · exact ⟨t4.1, by rw [hz_lo (by omega)]; exact t4.2.1, t4.2.2⟩
  · refine JN_hole hN (fun n => m ≤ n ∧ n ≤ m) 2 (by decide) (fun n g1 g2 => ?_) (fun n k g1 g2 hk => ?_)
    · rw [show hz zs m m 2 (48 + 5 * n) = _ from hz_n (k := 0) (by omega), hz_n (by omega)]
      by_cases h : m ≤ n ∧ n ≤ m
      · have : n = m := by omega
        subst this
        exact Or.inl ⟨h, Or.inr (Or.inl hs), pz_in h.1 h.2, pz_in h.1 h.2, pz_in h.1 h.2, by rw [if_pos h, if_pos rfl], by rw [if_pos h, if_neg (by omega), if_pos rfl]⟩
      · exact Or.inr ⟨h, pz_out (by omega), pz_out (by omega), pz_out (by omega), by rw [if_neg h]; rfl, by rw [if_neg h]⟩
    · rw [hz_n (by omega)]
      split
      · rw [if_neg (by omega), if_neg (by omega)]
      · rfl
  · intro j hj
    refine JC_keep hC hj (fun k hk => by rw [hz_lo (by omega)]) (fun n g1 g2 g3 g4 => ?_)
    have : n < m ∨ m < n := by
      rcases Nat.lt_or_ge n m with z | z
      · exact Or.inl z
      · rcases Nat.lt_or_ge m n with z2 | z2
        · exact Or.inr z2
        · have e : n = m := by omega
          rw [e, hs] at g3
          exact absurd g3 (by decide)
    rw [pz_out this, pz_out this]
    exact ⟨g3, g4⟩
  · obtain ⟨s0, s1, s2, s3⟩ := hSs
    exact ⟨by rw [hz_lo (by omega)]; exact s0, by rw [hz_lo (by omega)]; exact s1, by rw [hz_lo (by omega)]; exact s2, s3⟩
/-- from n on, all that is held or free becomes a hole -/
def cz (s f : Nat → Int32) (a : Nat) (v : Int32) : Nat → Int32 := fun j => if a ≤ j ∧ j ≤ 600 ∧ (s j = 1 ∨ s j = 3) then v else f j
theorem cz_nil (s f : Nat → Int32) (v : Int32) : cz s f 601 v = f := by
  funext j
  unfold cz
  rw [if_neg (by omega)]
theorem cz_hit (s f : Nat → Int32) {a : Nat} (v x : Int32) (h6 : a ≤ 600) (h : s a = 1 ∨ s a = 3) : cz (upd s a x) (upd f a v) (a + 1) v = cz s f a v := by
  funext j
  unfold cz upd
  by_cases h2 : j = a
  · subst h2
    rw [if_neg (by omega), if_pos rfl, if_pos ⟨Nat.le_refl _, h6, h⟩]
  · rw [if_neg h2, if_neg h2]
    by_cases h3 : a ≤ j
    · by_cases h4 : j ≤ 600 ∧ (s j = 1 ∨ s j = 3)
      · rw [if_pos ⟨by omega, h4⟩, if_pos ⟨h3, h4⟩]
      · rw [if_neg (fun z => h4 z.2), if_neg (fun z => h4 z.2)]
    · rw [if_neg (fun z => h3 (by omega)), if_neg (fun z => h3 z.1)]
theorem cz_miss (s f : Nat → Int32) {a : Nat} (v : Int32) (h : ¬ (s a = 1 ∨ s a = 3)) : cz s f (a + 1) v = cz s f a v := by
  funext j
  unfold cz
  by_cases h2 : j = a
  · subst h2
    rw [if_neg (by omega), if_neg (fun z => h z.2.2)]
  · by_cases h4 : j ≤ 600 ∧ (s j = 1 ∨ s j = 3)
    · by_cases h3 : a ≤ j
      · rw [if_pos ⟨by omega, h4⟩, if_pos ⟨h3, h4⟩]
      · rw [if_neg (fun z => h3 (by omega)), if_neg (fun z => h3 z.1)]
    · rw [if_neg (fun z => h4 z.2), if_neg (fun z => h4 z.2)]
theorem pz_one (f : Nat → Int32) (a : Nat) (v : Int32) : pz f a a v = upd f a v := by
  rw [← pz_step f v (Nat.le_refl a), pz_nil _ _ (by omega)]
theorem cnt_s1 {p : Nat → Bool} {i m : Nat} (h : p i = true) : cnt p i (m + 1) = 1 + cnt p (i + 1) m := by rw [cnt, if_pos h]
theorem cnt_s0 {p : Nat → Bool} {i m : Nat} (h : p i = false) : cnt p i (m + 1) = cnt p (i + 1) m := by rw [cnt, h, if_neg (by decide), Nat.zero_add]
def cq (s : Nat → Int32) : Nat → Bool := fun k => decide (s k = 1 ∨ s k = 3)
theorem ca_loop {K : Nat} (hK : 1000 ≤ K) {F : Nat} (f6 : F ≤ 601) : ∀ (m i n : Nat) (c : Int32) (ns no nr : Nat → Int32), i + m = 601 → m < n → 1 ≤ i → (∀ k, 1 ≤ k → k ≤ 600 → ns k = 1 ∨ ns k = 3 → k < F) → f_X1_closeAll_4 K n c (nI i) ns no nr (nI F) = some (c + nI (cnt (cq ns) i m), cz ns ns i 4, no, cz ns nr i 3, nI F) := by
  intro m
  induction m with
  | zero =>
    intro i n c ns no nr hi hn h1 hF
    obtain ⟨n, rfl⟩ : ∃ z, n = z + 1 := ⟨n - 1, by omega⟩
    have : i = 601 := by omega
    subst this
    rw [f_X1_closeAll_4, if_pos (g600t (by omega) (by omega)), cz_nil, cz_nil]
    show _ = some (c + 0, _)
    rw [Int32.add_zero]
  | succ m ih =>
    intro i n c ns no nr hi hn h1 hF
    obtain ⟨n, rfl⟩ : ∃ z, n = z + 1 := ⟨n - 1, by omega⟩
    have hput : i < F → f_X1_put K ns no nr (nI F) (nI i) (nI i) 4 (no i) 3 = some (upd ns i 4, no, upd nr i 3, nI F) := by
      intro hiF
      have := put_eq hK ns no nr (F := F) (a := i) (b := i) f6 h1 (by omega) (by omega) 4 (no i) 3
      rw [Nat.max_eq_left (by omega), pz_one, pz_one, pz_one, upd_self no rfl] at this
      exact this
    have hnx : ∀ k, 1 ≤ k → k ≤ 600 → upd ns i 4 k = 1 ∨ upd ns i 4 k = 3 → k < F := by
      intro k k1 k2 k3
      by_cases e : k = i
      · subst e
        rw [pk_us] at k3
        rcases k3 with z | z <;> exact absurd z (by decide)
      · rw [pk_un e] at k3
        exact hF k k1 k2 k3
    have hcn : cnt (cq (upd ns i 4)) (i + 1) m = cnt (cq ns) (i + 1) m := cnt_congr m (i + 1) (fun j j1 j2 => by unfold cq; rw [pk_un (by omega)])
    rw [f_X1_closeAll_4, if_neg (g600f (by omega)), ix_nI (by omega) (by omega), ix_nI (by omega) (by omega), ix_nI (by omega) (by omega), cl_nI (by omega)]
    by_cases e1 : ns i = 1
    · rw [if_pos e1, hput (hF i h1 (by omega) (Or.inl e1))]
      show f_X1_closeAll_4 K n (c + 1) (nI i + 1) (upd ns i 4) no (upd nr i 3) (nI F) = _
      rw [nI_1, ih (i + 1) n _ _ _ _ (by omega) (by omega) (by omega) hnx, cz_hit _ _ _ _ (by omega) (Or.inl e1), cz_hit _ _ _ _ (by omega) (Or.inl e1), hcn, cnt_s1 (by unfold cq; exact decide_eq_true (Or.inl e1)), ← add_cnt]
      rfl
    · rw [if_neg e1]
      by_cases e3 : ns i = 3
      · rw [if_pos e3, hput (hF i h1 (by omega) (Or.inr e3))]
        show f_X1_closeAll_4 K n (c + 1) (nI i + 1) (upd ns i 4) no (upd nr i 3) (nI F) = _
        rw [nI_1, ih (i + 1) n _ _ _ _ (by omega) (by omega) (by omega) hnx, cz_hit _ _ _ _ (by omega) (Or.inr e3), cz_hit _ _ _ _ (by omega) (Or.inr e3), hcn, cnt_s1 (by unfold cq; exact decide_eq_true (Or.inr e3)), ← add_cnt]
        rfl
      · have e : ¬ (ns i = 1 ∨ ns i = 3) := fun z => z.elim e1 e3
        rw [if_neg e3, nI_1, ih (i + 1) n _ _ _ _ (by omega) (by omega) (by omega) hF, cz_miss _ _ _ e, cz_miss _ _ _ e, cnt_s0 (by unfold cq; exact decide_eq_false e)]
