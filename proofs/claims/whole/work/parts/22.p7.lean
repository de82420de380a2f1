/-! PURE SIDE: holes, forgetting, giving back. -/
theorem upd_upd (f : Nat → Int32) (k : Nat) (x y : Int32) : upd (upd f k x) k y = upd f k y := by
  funext j
  unfold upd
  split <;> rfl
theorem upd_self (f : Nat → Int32) {k : Nat} {x : Int32} (h : f k = x) : upd f k x = f := by
  funext j
  unfold upd
  by_cases e : j = k
  · rw [if_pos e, e, h]
  · rw [if_neg e]
/-- the reference's numbers a to b become holes of a reason -/
def hz (f : Nat → Int32) (a b : Nat) (r : Int32) : Nat → Int32 := wz (wz f a b 0 4) a b 4 r
/-- the reference's numbers a to b become free -/
def fz (f : Nat → Int32) (a b : Nat) : Nat → Int32 := wz (wz f a b 0 3) a b 1 (-1)
theorem hz_step (f : Nat → Int32) {a b : Nat} (r : Int32) (h : a ≤ b) : hz (upd (upd f (48 + 5 * a) 4) (48 + 5 * a + 4) r) (a + 1) b r = hz f a b r := by
  unfold hz
  rw [wz_comm _ _ _ (by omega)]
  have q := wz_step f (a := a) (b := b) (k := 0) 4 h (by omega)
  rw [show 48 + 5 * a + 0 = 48 + 5 * a by omega] at q
  rw [q]
  exact wz_step _ (a := a) (b := b) (k := 4) r h (by omega)
theorem fz_step (f : Nat → Int32) {a b : Nat} (h : a ≤ b) : fz (upd (upd f (48 + 5 * a) 3) (48 + 5 * a + 1) (-1)) (a + 1) b = fz f a b := by
  unfold fz
  rw [wz_comm _ _ _ (by omega)]
  have q := wz_step f (a := a) (b := b) (k := 0) 3 h (by omega)
  rw [show 48 + 5 * a + 0 = 48 + 5 * a by omega] at q
  rw [q]
  exact wz_step _ (a := a) (b := b) (k := 1) (-1) h (by omega)
theorem hz_low (f : Nat → Int32) {a b k : Nat} (r x : Int32) (hk : k < 48) : hz (upd f k x) a b r = upd (hz f a b r) k x := by
  unfold hz
  rw [wz_comm _ _ _ (by omega), wz_comm _ _ _ (by omega)]
theorem fz_low (f : Nat → Int32) {a b k : Nat} (x : Int32) (hk : k < 48) : fz (upd f k x) a b = upd (fz f a b) k x := by
  unfold fz
  rw [wz_comm _ _ _ (by omega), wz_comm _ _ _ (by omega)]
theorem hz_nil (f : Nat → Int32) {a b : Nat} (r : Int32) (h : b < a) : hz f a b r = f := by
  unfold hz; rw [wz_nil _ _ _ h, wz_nil _ _ _ h]
theorem fz_nil (f : Nat → Int32) {a b : Nat} (h : b < a) : fz f a b = f := by
  unfold fz; rw [wz_nil _ _ _ h, wz_nil _ _ _ h]
theorem makeHole_eq {zs : Nat → Int32} {n : Nat} (r : Int32) (h6 : n ≤ 600) : f_X5_makeHole zs (nI n) r = some (upd (upd zs (48 + 5 * n) 4) (48 + 5 * n + 4) r) := by
  unfold f_X5_makeHole
  rw [n_nI, nI_a0, nI_a4]
  simp (disch := omega) only [ix_nI, cl_nI, nb]
/-- the reference forgets -/
theorem fg_loop {i hi mk : Nat} (h6 : i < 6) (hm : mk ≤ hi) (hh : hi ≤ 600) : ∀ (m x n : Nat) (c : Int32) (zs : Nat → Int32), x + m = mk + 1 → m < n → 1 ≤ x → zs (6 + 7 * i + 1) = nI x → zs (6 + 7 * i + 2) = nI hi → zs (6 + 7 * i + 3) = nI mk → f_X5_goForget_7 (nI i) (nI (6 + 7 * i)) n c zs = some (c + nI m, upd (hz zs x mk 0) (6 + 7 * i + 1) (nI (mk + 1))) := by
  intro m
  induction m with
  | zero =>
    intro x n c zs hx hn h1 a1 a2 a3
    obtain ⟨n, rfl⟩ : ∃ z, n = z + 1 := ⟨n - 1, by omega⟩
    have : x = mk + 1 := by omega
    subst this
    have e : c + nI 0 = c := Int32.add_zero c
    rw [f_X5_goForget_7, holds_eq h6, hz_nil _ _ (by omega), upd_self zs a1, e, a1, a2, nI_1, nI_a3]
    show (if (nI hi - nI (mk + 1)) + 1 ≤ 0 then some (c, zs) else _) = _
    split
    · rfl
    · rw [ix_nI (by omega) (by omega), ix_nI (by omega) (by omega), cl_nI (by omega), cl_nI (by omega), a1, a3, if_pos (nI_lt (by omega) (by omega))]
  | succ m ih =>
    intro x n c zs hx hn h1 a1 a2 a3
    obtain ⟨n, rfl⟩ : ∃ z, n = z + 1 := ⟨n - 1, by omega⟩
    rw [f_X5_goForget_7, holds_eq h6, a1, a2, held1 (by omega) hh]
    show (if nI (hi - x + 1) ≤ 0 then _ else _) = _
    rw [if_neg (show ¬ nI (hi - x + 1) ≤ 0 from nI_nle (by omega) (by omega)), nI_1, nI_a3]
    simp (disch := omega) only [ix_nI, cl_nI, a1, a3]
    rw [if_neg (nI_nlt (by omega) (by omega)), makeHole_eq 0 (by omega)]
    show nb (upd _ (6 + 7 * i + 1) ((upd (upd zs (48 + 5 * x) 4) (48 + 5 * x + 4) 0 (6 + 7 * i + 1)) + 1)) _ = _
    rw [pk_un (by omega), pk_un (by omega), a1, nI_1]
    show f_X5_goForget_7 (nI i) (nI (6 + 7 * i)) n (c + 1) (upd (upd (upd zs (48 + 5 * x) 4) (48 + 5 * x + 4) 0) (6 + 7 * i + 1) (nI (x + 1))) = _
    rw [ih (x + 1) n (c + 1) _ (by omega) (by omega) (by omega) pk_us (by rw [pk_un (by omega), pk_un (by omega), pk_un (by omega)]; exact a2) (by rw [pk_un (by omega), pk_un (by omega), pk_un (by omega)]; exact a3), hz_low _ _ _ (by omega), upd_upd, hz_step _ _ (by omega)]
    have e : c + 1 + nI m = c + nI (m + 1) := by
      rw [show (1 : Int32) = nI 1 from rfl, Int32.add_assoc, nI_add, Nat.add_comm 1 m]
    rw [e]
/-- the reference gives back: free -/
theorem bf_loop {i hi : Nat} (h6 : i < 6) (hh : hi ≤ 600) (r : Int32) : ∀ (m x n : Nat) (zs : Nat → Int32), x + m = hi + 1 → m < n → 1 ≤ x → zs (6 + 7 * i + 1) = nI x → zs (6 + 7 * i + 2) = nI hi → zs 1 = 1 → f_X5_goBack_11 (nI (6 + 7 * i)) r n zs = some (r, upd (fz zs x hi) (6 + 7 * i + 1) (nI (hi + 1))) := by
  intro m
  induction m with
  | zero =>
    intro x n zs hx hn h1 a1 a2 a3
    obtain ⟨n, rfl⟩ : ∃ z, n = z + 1 := ⟨n - 1, by omega⟩
    have : x = hi + 1 := by omega
    subst this
    rw [f_X5_goBack_11, fz_nil _ (by omega), upd_self zs a1, nI_1, nI_a2, ix_nI (by omega) (by omega), ix_nI (by omega) (by omega), cl_nI (by omega), cl_nI (by omega), a1, a2, if_pos (nI_lt (by omega) (by omega))]
  | succ m ih =>
    intro x n zs hx hn h1 a1 a2 a3
    obtain ⟨n, rfl⟩ : ∃ z, n = z + 1 := ⟨n - 1, by omega⟩
    rw [f_X5_goBack_11, nI_1, nI_a2, ix_nI (by omega) (by omega), ix_nI (by omega) (by omega), cl_nI (by omega), cl_nI (by omega), a1, a2, if_neg (nI_nlt (by omega) (by omega)), if_pos a3]
    simp (disch := omega) only [ix_nI, cl_nI, nb, n_nI, nI_a0, nI_1, pk_un, a1]
    rw [ih (x + 1) n _ (by omega) (by omega) (by omega) pk_us (by rw [pk_un (by omega), pk_un (by omega), pk_un (by omega)]; exact a2) (by rw [pk_un (by omega), pk_un (by omega), pk_un (by omega)]; exact a3), fz_low _ _ (by omega), upd_upd, fz_step _ (by omega)]
/-- the reference gives back: holes -/
theorem bh_loop {i hi : Nat} (h6 : i < 6) (hh : hi ≤ 600) (r : Int32) : ∀ (m x n : Nat) (zs : Nat → Int32), x + m = hi + 1 → m < n → 1 ≤ x → zs (6 + 7 * i + 1) = nI x → zs (6 + 7 * i + 2) = nI hi → ¬ zs 1 = 1 → f_X5_goBack_11 (nI (6 + 7 * i)) r n zs = some (r, upd (hz zs x hi 1) (6 + 7 * i + 1) (nI (hi + 1))) := by
  intro m
  induction m with
  | zero =>
    intro x n zs hx hn h1 a1 a2 a3
    obtain ⟨n, rfl⟩ : ∃ z, n = z + 1 := ⟨n - 1, by omega⟩
    have : x = hi + 1 := by omega
    subst this
    rw [f_X5_goBack_11, hz_nil _ _ (by omega), upd_self zs a1, nI_1, nI_a2, ix_nI (by omega) (by omega), ix_nI (by omega) (by omega), cl_nI (by omega), cl_nI (by omega), a1, a2, if_pos (nI_lt (by omega) (by omega))]
  | succ m ih =>
    intro x n zs hx hn h1 a1 a2 a3
    obtain ⟨n, rfl⟩ : ∃ z, n = z + 1 := ⟨n - 1, by omega⟩
    rw [f_X5_goBack_11, nI_1, nI_a2, ix_nI (by omega) (by omega), ix_nI (by omega) (by omega), cl_nI (by omega), cl_nI (by omega), a1, a2, if_neg (nI_nlt (by omega) (by omega)), if_neg a3, ix_nI (by omega) (by omega), makeHole_eq 1 (by omega)]
    show ix (nI (6 + 7 * i + 1)) 3053 (ix (nI (6 + 7 * i + 1)) 3053 (nb (upd (upd (upd zs (48 + 5 * x) 4) (48 + 5 * x + 4) 1) (6 + 7 * i + 1) ((upd (upd zs (48 + 5 * x) 4) (48 + 5 * x + 4) 1) (6 + 7 * i + 1) + 1)) fun y17 => f_X5_goBack_11 (nI (6 + 7 * i)) r n y17)) = _
    rw [ix_nI (by omega) (by omega), ix_nI (by omega) (by omega), pk_un (by omega), pk_un (by omega), a1, nI_1]
    show f_X5_goBack_11 (nI (6 + 7 * i)) r n (upd (upd (upd zs (48 + 5 * x) 4) (48 + 5 * x + 4) 1) (6 + 7 * i + 1) (nI (x + 1))) = _
    rw [ih (x + 1) n _ (by omega) (by omega) (by omega) pk_us (by rw [pk_un (by omega), pk_un (by omega), pk_un (by omega)]; exact a2) (by rw [pk_un (by omega), pk_un (by omega), pk_un (by omega)]; exact a3), hz_low _ _ _ (by omega), upd_upd, hz_step _ _ (by omega)]
/-- numbers that become holes -/
theorem JN_hole {T F : Nat} {ns no nr nt nd ni zs ns' no' nr' zs' : Nat → Int32} (hN : JN T F ns no nr nt nd ni zs) (S : Nat → Prop) (r : Int32) (hr : ¬ r < 0) (h : ∀ n, 1 ≤ n → n ≤ 600 → (S n ∧ (ns n = 1 ∨ ns n = 2 ∨ ns n = 3) ∧ ns' n = 4 ∧ no' n = no n ∧ nr' n = r ∧ zs' (48 + 5 * n) = 4 ∧ zs' (48 + 5 * n + 4) = r) ∨ (¬ S n ∧ ns' n = ns n ∧ no' n = no n ∧ nr' n = nr n ∧ zs' (48 + 5 * n) = zs (48 + 5 * n) ∧ zs' (48 + 5 * n + 4) = zs (48 + 5 * n + 4))) (hk : ∀ n k, 1 ≤ n → n ≤ 600 → k = 1 ∨ k = 2 ∨ k = 3 → zs' (48 + 5 * n + k) = zs (48 + 5 * n + k)) : JN T F ns' no' nr' nt nd ni zs' := by
  intro n h1 h2
  obtain ⟨q1, q2, q3, q4, q5, q6, q7, q8, q9, q10, q11⟩ := hN n h1 h2
  rw [hk n 1 h1 h2 (by omega), hk n 2 h1 h2 (by omega), hk n 3 h1 h2 (by omega)]
  rcases h n h1 h2 with ⟨-, s0, s1, s2, s3, s4, s5⟩ | ⟨-, s1, s2, s3, s4, s5⟩
  · rw [s1, s2, s3, s4, s5]
    refine ⟨rfl, q2, q3, Or.inr (Or.inr (Or.inr (Or.inr rfl))), ⟨fun z => absurd z (by decide), fun z => ?_⟩, fun z => by rcases z with z | z <;> exact absurd z (by decide), fun z => absurd rfl z, fun _ => ⟨rfl, hr⟩, fun z => absurd z (by decide), fun z => by rcases z with z | z | z <;> exact absurd z (by decide), q11⟩
    have := q5.mpr z
    rw [this] at s0
    rcases s0 with z | z | z <;> exact absurd z (by decide)
  · rw [s1, s2, s3, s4, s5]
    exact ⟨q1, q2, q3, q4, q5, q6, q7, q8, q9, q10, q11⟩
/-- clerks whose fields and numbers stay -/
theorem JC_keep {T C : Nat} {ns no ns' no' zs zs' : Nat → Int32} {cl : Nat → Nat → Int32} (hC : JC T C ns no cl zs) {j : Nat} (hj : j < 6) (hz : ∀ k, k < 7 → zs' (6 + 7 * j + k) = zs (6 + 7 * j + k)) (hk : ∀ n, 1 ≤ n → n ≤ 600 → ns n = 1 → no n = nI j → ns' n = 1 ∧ no' n = nI j) : (j < C → CR T ns' no' j (cl j) zs') ∧ (C ≤ j → FR (cl j) zs' j) := by
  obtain ⟨k1, k2⟩ := hC j hj
  have z0 : zs' (6 + 7 * j) = zs (6 + 7 * j) := hz 0 (by omega)
  refine ⟨fun h => ?_, fun h => ?_⟩
  · obtain ⟨p1, p2, p3, p4, p5, p6⟩ := k1 h
    refine ⟨by rw [z0]; exact p1, by rw [hz 4 (by omega)]; exact p2, by rw [hz 5 (by omega)]; exact p3, by rw [hz 6 (by omega)]; exact p4, ?_, p6⟩
    rw [hz 1 (by omega), hz 2 (by omega), hz 3 (by omega)]
    exact HR_keep p5 hk
  · obtain ⟨p1, p2, p3, p4⟩ := k2 h
    exact ⟨p1, by rw [hz 3 (by omega)]; exact p2, by rw [hz 4 (by omega)]; exact p3, by rw [hz 5 (by omega)]; exact p4⟩
theorem hz_n {f : Nat → Int32} {a b n k : Nat} {r : Int32} (hk : k < 5) : hz f a b r (48 + 5 * n + k) = if a ≤ n ∧ n ≤ b then (if k = 0 then 4 else if k = 4 then r else f (48 + 5 * n + k)) else f (48 + 5 * n + k) := by
  unfold hz
  by_cases h : a ≤ n ∧ n ≤ b
  · rw [if_pos h]
    by_cases h4 : k = 4
    · subst h4
      rw [wz_in h.1 h.2 (by omega), if_neg (by omega), if_pos rfl]
    · rw [wz_ne h4 (by omega) hk]
      by_cases h0 : k = 0
      · subst h0; rw [wz_in h.1 h.2 (by omega), if_pos rfl]
      · rw [wz_ne h0 (by omega) hk, if_neg h0, if_neg h4]
  · rw [if_neg h, wz_out (by omega) (by omega) hk, wz_out (by omega) (by omega) hk]
theorem fz_n {f : Nat → Int32} {a b n k : Nat} (hk : k < 5) : fz f a b (48 + 5 * n + k) = if a ≤ n ∧ n ≤ b then (if k = 0 then 3 else if k = 1 then (-1) else f (48 + 5 * n + k)) else f (48 + 5 * n + k) := by
  unfold fz
  by_cases h : a ≤ n ∧ n ≤ b
  · rw [if_pos h]
    by_cases h4 : k = 1
    · subst h4
      rw [wz_in h.1 h.2 (by omega), if_neg (by omega), if_pos rfl]
    · rw [wz_ne h4 (by omega) hk]
      by_cases h0 : k = 0
      · subst h0; rw [wz_in h.1 h.2 (by omega), if_pos rfl]
      · rw [wz_ne h0 (by omega) hk, if_neg h0, if_neg h4]
  · rw [if_neg h, wz_out (by omega) (by omega) hk, wz_out (by omega) (by omega) hk]
theorem hz_lo {f : Nat → Int32} {a b j : Nat} {r : Int32} (h : j < 48) : hz f a b r j = f j := by
  unfold hz; rw [wz_low h, wz_low h]
theorem fz_lo {f : Nat → Int32} {a b j : Nat} (h : j < 48) : fz f a b j = f j := by
  unfold fz; rw [wz_low h, wz_low h]
