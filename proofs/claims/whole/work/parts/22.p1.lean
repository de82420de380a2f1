/-! PURE SIDE: the relation of one office (class) and one row (reference); ranges that are set. -/
theorem nI_inj {a b : Nat} (ha : a < 2 ^ 31) (hb : b < 2 ^ 31) (h : nI a = nI b) : a = b := (nI_eq ha hb).mp h
/-- the numbers from a to b get v -/
def pz (f : Nat → Int32) (a b : Nat) (v : Int32) : Nat → Int32 := fun j => if a ≤ j ∧ j ≤ b then v else f j
theorem pz_step (f : Nat → Int32) {a b : Nat} (v : Int32) (h : a ≤ b) : pz (upd f a v) (a + 1) b v = pz f a b v := by
  funext j
  unfold pz upd
  by_cases h1 : a + 1 ≤ j ∧ j ≤ b
  · rw [if_pos h1, if_pos (by omega)]
  · rw [if_neg h1]
    by_cases h2 : j = a
    · rw [if_pos h2, if_pos (by omega)]
    · rw [if_neg h2, if_neg (by omega)]
theorem pz_nil (f : Nat → Int32) {a b : Nat} (v : Int32) (h : b < a) : pz f a b v = f := by
  funext j
  unfold pz
  rw [if_neg (by omega)]
theorem pz_in {f : Nat → Int32} {a b j : Nat} {v : Int32} (h1 : a ≤ j) (h2 : j ≤ b) : pz f a b v j = v := if_pos ⟨h1, h2⟩
theorem pz_out {f : Nat → Int32} {a b j : Nat} {v : Int32} (h : j < a ∨ b < j) : pz f a b v j = f j := if_neg (by omega)
/-- the field k of the reference's numbers a to b gets v -/
def wz (f : Nat → Int32) (a b k : Nat) (v : Int32) : Nat → Int32 := fun j => if 48 + 5 * a ≤ j ∧ j < 48 + 5 * (b + 1) ∧ (j - 48) % 5 = k then v else f j
theorem wz_in {f : Nat → Int32} {a b n k : Nat} {v : Int32} (h1 : a ≤ n) (h2 : n ≤ b) (hk : k < 5) : wz f a b k v (48 + 5 * n + k) = v := if_pos (by omega)
theorem wz_out {f : Nat → Int32} {a b n k : Nat} {v : Int32} (h : n < a ∨ b < n) (hk : k < 5) {c : Nat} (hc : c < 5) : wz f a b k v (48 + 5 * n + c) = f (48 + 5 * n + c) := if_neg (by omega)
theorem wz_ne {f : Nat → Int32} {a b n k c : Nat} {v : Int32} (h : c ≠ k) (hk : k < 5) (hc : c < 5) : wz f a b k v (48 + 5 * n + c) = f (48 + 5 * n + c) := if_neg (by omega)
theorem wz_low {f : Nat → Int32} {a b k j : Nat} {v : Int32} (h : j < 48) : wz f a b k v j = f j := if_neg (by omega)
theorem wz_nil (f : Nat → Int32) {a b : Nat} (k : Nat) (v : Int32) (h : b < a) : wz f a b k v = f := by
  funext j
  unfold wz
  rw [if_neg (by omega)]
theorem wz_step (f : Nat → Int32) {a b k : Nat} (v : Int32) (h : a ≤ b) (hk : k < 5) : wz (upd f (48 + 5 * a + k) v) (a + 1) b k v = wz f a b k v := by
  funext j
  unfold wz upd
  by_cases h1 : 48 + 5 * (a + 1) ≤ j ∧ j < 48 + 5 * (b + 1) ∧ (j - 48) % 5 = k
  · rw [if_pos h1, if_pos (by omega)]
  · rw [if_neg h1]
    by_cases h2 : j = 48 + 5 * a + k
    · rw [if_pos h2, if_pos (by omega)]
    · rw [if_neg h2, if_neg (by omega)]
theorem wz_comm (f : Nat → Int32) {a b k j : Nat} (v x : Int32) (hj : ¬ (48 + 5 * a ≤ j ∧ j < 48 + 5 * (b + 1) ∧ (j - 48) % 5 = k)) : wz (upd f j x) a b k v = upd (wz f a b k v) j x := by
  funext i
  unfold wz upd
  by_cases h : i = j
  · subst h; rw [if_neg hj, if_pos rfl, if_pos rfl]
  · rw [if_neg h, if_neg h]
theorem put_loop (s o r : Int32) (nf : Int32) (b : Nat) (hb : b ≤ 600) : ∀ (m i n : Nat) (ns no nr : Nat → Int32), i + m = b + 1 → m < n → f_X1_put_16 s o r (nI b) nf n (nI i) ns no nr = some (pz ns i b s, pz no i b o, pz nr i b r, imax nf (nI (b + 1))) := by
  intro m
  induction m with
  | zero =>
    intro i n ns no nr hi hn
    obtain ⟨n, rfl⟩ : ∃ z, n = z + 1 := ⟨n - 1, by omega⟩
    have : i = b + 1 := by omega
    subst this
    rw [f_X1_put_16, if_pos (nI_lt (by omega) (by omega)), pz_nil _ _ (by omega), pz_nil _ _ (by omega), pz_nil _ _ (by omega), nI_1]
  | succ m ih =>
    intro i n ns no nr hi hn
    obtain ⟨n, rfl⟩ : ∃ z, n = z + 1 := ⟨n - 1, by omega⟩
    rw [f_X1_put_16, if_neg (nI_nlt (by omega) (by omega)), ix_nI (by omega) (by omega), cl_nI (by omega)]
    simp (disch := omega) only [nb, ix_nI]
    rw [nI_1, ih (i + 1) n _ _ _ (by omega) (by omega), pz_step _ _ (by omega), pz_step _ _ (by omega), pz_step _ _ (by omega)]
theorem imax_nI {a b : Nat} (ha : a < 2 ^ 31) (hb : b < 2 ^ 31) : imax (nI a) (nI b) = nI (max a b) := by
  unfold imax
  by_cases h : a < b
  · rw [if_pos (nI_lt h hb), Nat.max_eq_right (by omega)]
  · rw [if_neg (nI_nlt (by omega) ha), Nat.max_eq_left (by omega)]
theorem imin_nI {a b : Nat} (ha : a < 2 ^ 31) (hb : b < 2 ^ 31) : imin (nI a) (nI b) = nI (min a b) := by
  unfold imin
  by_cases h : b < a
  · rw [if_pos (nI_lt h ha), Nat.min_eq_right (by omega)]
  · rw [if_neg (nI_nlt (by omega) hb), Nat.min_eq_left (by omega)]
theorem put_eq {K : Nat} (hK : 1000 ≤ K) (ns no nr : Nat → Int32) {F a b : Nat} (hF : F ≤ 601) (ha : 1 ≤ a) (hab : a ≤ b + 1) (hb : b ≤ 600) (s o r : Int32) : f_X1_put K ns no nr (nI F) (nI a) (nI b) s o r = some (pz ns a b s, pz no a b o, pz nr a b r, nI (max F (b + 1))) := by
  unfold f_X1_put
  have e1 : imin (nI b) 600 = nI b := by
    have := imin_nI (a := b) (b := 600) (by omega) (by omega)
    rw [Nat.min_eq_left hb] at this
    exact this
  have e2 : imax (nI a) 1 = nI a := by
    have := imax_nI (a := a) (b := 1) (by omega) (by omega)
    rw [Nat.max_eq_left ha] at this
    exact this
  rw [e1, e2, put_loop s o r (nI F) b hb (b + 1 - a) a K ns no nr (by omega) (by omega), imax_nI (by omega) (by omega)]
/-- how many of at most m numbers from a on, one behind another, have p -/
def run (p : Nat → Bool) : Nat → Nat → Nat
  | _, 0 => 0
  | a, m + 1 => if p a then run p (a + 1) m + 1 else 0
theorem run_le (p : Nat → Bool) : ∀ (m a : Nat), run p a m ≤ m := by
  intro m
  induction m with
  | zero => intro a; exact Nat.le_refl 0
  | succ m ih =>
    intro a
    unfold run
    have := ih (a + 1)
    split <;> omega
theorem run_all {p : Nat → Bool} : ∀ (m a j : Nat), a ≤ j → j < a + run p a m → p j = true := by
  intro m
  induction m with
  | zero => intro a j h1 h2; unfold run at h2; omega
  | succ m ih =>
    intro a j h1 h2
    unfold run at h2
    by_cases hp : p a = true
    · rw [if_pos hp] at h2
      by_cases hj : j = a
      · subst hj; exact hp
      · exact ih (a + 1) j (by omega) (by omega)
    · rw [if_neg hp] at h2; omega
/-- one number: the class's fields and the reference's -/
def NR (T F : Nat) (ni : Nat → Int32) (n : Nat) (s o r t d ms mo mt md mr : Int32) : Prop :=
  ms = s ∧ mo = o ∧ mt = t ∧ (s = 0 ∨ s = 1 ∨ s = 2 ∨ s = 3 ∨ s = 4) ∧ (s = 0 ↔ F ≤ n) ∧ (s = 0 ∨ s = 3 → o = (-1)) ∧ (¬ s = 4 → r = (-1)) ∧ (s = 4 → mr = r ∧ ¬ r < 0) ∧ (s = 2 → ¬ o < 0 ∧ ¬ t = (-1)) ∧ (s = 0 ∨ s = 1 ∨ s = 3 → t = (-1)) ∧ ((t = (-1) ∧ d = (-1)) ∨ ∃ j : Nat, j < T ∧ t = nI j ∧ ni j = nI n ∧ md = d ∧ ¬ d < 0)
def JN (T F : Nat) (ns no nr nt nd ni zs : Nat → Int32) : Prop := ∀ n : Nat, 1 ≤ n → n ≤ 600 → NR T F ni n (ns n) (no n) (nr n) (nt n) (nd n) (zs (48 + 5 * n)) (zs (48 + 5 * n + 1)) (zs (48 + 5 * n + 2)) (zs (48 + 5 * n + 3)) (zs (48 + 5 * n + 4))
def JT (T : Nat) (nt ni : Nat → Int32) : Prop := (∀ j : Nat, j < T → ∃ n : Nat, 1 ≤ n ∧ n ≤ 600 ∧ ni j = nI n ∧ nt n = nI j) ∧ cnt (fun n => !decide (nt n = (-1))) 1 600 = T
/-- what a clerk holds: lowest, highest, mark; class and reference -/
def HR (ns no : Nat → Int32) (i : Nat) (k1 k2 k3 m1 m2 m3 : Int32) : Prop :=
  (∃ lo hi mk : Nat, 1 ≤ lo ∧ lo ≤ hi ∧ hi ≤ 600 ∧ mk ≤ hi ∧ k1 = nI lo ∧ k2 = nI hi ∧ k3 = nI mk ∧ m1 = nI lo ∧ m2 = nI hi ∧ m3 = nI mk ∧ ∀ n : Nat, lo ≤ n → n ≤ hi → ns n = 1 ∧ no n = nI i)
  ∨ ∃ hi mk h2 : Nat, hi ≤ 600 ∧ mk ≤ hi ∧ h2 ≤ 600 ∧ k1 = nI (hi + 1) ∧ k2 = nI hi ∧ k3 = nI mk ∧ m1 = nI (h2 + 1) ∧ m2 = nI h2
def CR (T : Nat) (ns no : Nat → Int32) (i : Nat) (ck zs : Nat → Int32) : Prop :=
  zs (6 + 7 * i) = ck 0 ∧ zs (6 + 7 * i + 4) = ck 4 ∧ zs (6 + 7 * i + 5) = ck 5 ∧ zs (6 + 7 * i + 6) = ck 6 ∧ HR ns no i (ck 1) (ck 2) (ck 3) (zs (6 + 7 * i + 1)) (zs (6 + 7 * i + 2)) (zs (6 + 7 * i + 3)) ∧ ∃ g : Nat, g ≤ T ∧ ck 4 = nI g ∧ (g = 0 → ck 6 = (-1)) ∧ (0 < g → ¬ ck 6 < 0)
def FR (ck zs : Nat → Int32) (i : Nat) : Prop := (∀ k : Nat, k < 7 → ck k = ck0 k) ∧ zs (6 + 7 * i + 3) = 0 ∧ zs (6 + 7 * i + 4) = 0 ∧ zs (6 + 7 * i + 5) = 0
def JC (T C : Nat) (ns no : Nat → Int32) (cl : Nat → Nat → Int32) (zs : Nat → Int32) : Prop := ∀ i : Nat, i < 6 → (i < C → CR T ns no i (cl i) zs) ∧ (C ≤ i → FR (cl i) zs i)
def JS (cs zs : Nat → Int32) : Prop := zs 0 = cs 0 ∧ zs 1 = cs 1 ∧ zs 2 = cs 2 ∧ (∃ B : Nat, 1 ≤ B ∧ B ≤ 50 ∧ cs 0 = nI B) ∧ (cs 1 = 0 ∨ cs 1 = 1) ∧ ∃ W : Nat, 2 ≤ W ∧ W ≤ 10 ∧ cs 2 = nI W
def JJ (d T F C Y : Nat) (ns no nr nt nd ni : Nat → Int32) (nm nf : Int32) (cl : Nat → Nat → Int32) (cc : Int32) (cs : Nat → Int32) (ct : Int32) (zs : Nat → Int32) : Prop :=
  (nm = nI T ∧ zs 5 = nI T) ∧ (nf = nI F ∧ 1 ≤ F ∧ F ≤ 601) ∧ (cc = nI C ∧ zs 3 = nI C ∧ C ≤ 6) ∧ (ct = nI Y ∧ zs 4 = nI Y ∧ Y ≤ d) ∧ JN T F ns no nr nt nd ni zs ∧ JT T nt ni ∧ JC T C ns no cl zs ∧ JS cs zs
theorem JT_le {T : Nat} {nt ni : Nat → Int32} (h : JT T nt ni) : T ≤ 600 := by
  rw [← h.2]; exact cnt_le _ _ _
