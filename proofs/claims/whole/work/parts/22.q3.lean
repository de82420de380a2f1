/-! PURE SIDE: the record of the past, both sides. -/
theorem at_row (u x : Nat) : (3053 * nI u) + nI x = nI (3053 * u + x) := by
  rw [show (3053 : Int32) = nI 3053 from rfl, pk_mul, nI_add]
theorem g3053t {i : Nat} (h : 3053 ≤ i) (hi : i < 2 ^ 31) : (3053 : Int32) ≤ nI i := nI_le (a := 3053) h hi
theorem g3053f {i : Nat} (h : i < 3053) : ¬ (3053 : Int32) ≤ nI i := nI_ge (a := i) (b := 3053) h (by omega)
theorem rec_loop (zs : Nat → Int32) {u : Nat} (hu : u < 4) : ∀ (m i n : Nat) (zb : Nat → Int32), i + m = 3053 → m < n → f_X5_record_51 zs (nI u) n (nI i) zb = some ((fun x => if 3053 * u + i ≤ x ∧ x < 3053 * (u + 1) then zs (x - 3053 * u) else zb x), nI (u + 1)) := by
  intro m
  induction m with
  | zero =>
    intro i n zb hi hn
    obtain ⟨n, rfl⟩ : ∃ z, n = z + 1 := ⟨n - 1, by omega⟩
    rw [f_X5_record_51, if_pos (g3053t (by omega) (by omega)), nI_1]
    have : (fun x => if 3053 * u + i ≤ x ∧ x < 3053 * (u + 1) then zs (x - 3053 * u) else zb x) = zb := by
      funext x
      rw [if_neg (by omega)]
    rw [this]
  | succ m ih =>
    intro i n zb hi hn
    obtain ⟨n, rfl⟩ : ∃ z, n = z + 1 := ⟨n - 1, by omega⟩
    rw [f_X5_record_51, if_neg (g3053f (by omega)), at_row, ix_nI (by omega) (by omega), ix_nI (by omega) (by omega), cl_nI (by omega), cl_nI (by omega)]
    show f_X5_record_51 zs (nI u) n (nI i + 1) (upd zb (3053 * u + i) (zs i)) = _
    rw [nI_1, ih (i + 1) n _ (by omega) (by omega)]
    have : (fun x => if 3053 * u + (i + 1) ≤ x ∧ x < 3053 * (u + 1) then zs (x - 3053 * u) else upd zb (3053 * u + i) (zs i) x) = (fun x => if 3053 * u + i ≤ x ∧ x < 3053 * (u + 1) then zs (x - 3053 * u) else zb x) := by
      funext x
      by_cases e : x = 3053 * u + i
      · subst e
        rw [if_neg (by omega), if_pos (by omega), pk_us, show 3053 * u + i - 3053 * u = i by omega]
      · rw [pk_un e]
        by_cases e2 : 3053 * u + (i + 1) ≤ x ∧ x < 3053 * (u + 1)
        · rw [if_pos e2, if_pos (by omega)]
        · rw [if_neg e2, if_neg (by omega)]
    rw [this]
theorem shift_loop (K : Nat) (zs : Nat → Int32) (zu : Int32) : ∀ (m i n : Nat) (zb : Nat → Int32), i + m = 9159 → m < n → f_X5_record_10 K zs zu n (nI i) zb = f_X5_record_51 zs (zu - 1) K 0 (fun x => if i ≤ x ∧ x < 9159 then zb (x + 3053) else zb x) := by
  intro m
  induction m with
  | zero =>
    intro i n zb hi hn
    obtain ⟨n, rfl⟩ : ∃ z, n = z + 1 := ⟨n - 1, by omega⟩
    rw [f_X5_record_10, if_pos (show (9159 : Int32) ≤ nI i from nI_le (a := 9159) (by omega) (by omega))]
    have : (fun x => if i ≤ x ∧ x < 9159 then zb (x + 3053) else zb x) = zb := by
      funext x
      rw [if_neg (by omega)]
    rw [this]
  | succ m ih =>
    intro i n zb hi hn
    obtain ⟨n, rfl⟩ : ∃ z, n = z + 1 := ⟨n - 1, by omega⟩
    rw [f_X5_record_10, if_neg (show ¬ (9159 : Int32) ≤ nI i from nI_ge (a := i) (b := 9159) (by omega) (by omega)), show (3053 : Int32) + nI i = nI (3053 + i) from nI_add 3053 i, ix_nI (by omega) (by omega), ix_nI (by omega) (by omega), cl_nI (by omega), cl_nI (by omega)]
    show f_X5_record_10 K zs zu n (nI i + 1) (upd zb i (zb (3053 + i))) = _
    rw [nI_1, ih (i + 1) n _ (by omega) (by omega)]
    have : (fun x => if i + 1 ≤ x ∧ x < 9159 then upd zb i (zb (3053 + i)) (x + 3053) else upd zb i (zb (3053 + i)) x) = (fun x => if i ≤ x ∧ x < 9159 then zb (x + 3053) else zb x) := by
      funext x
      by_cases e : x = i
      · subst e
        rw [if_neg (by omega), if_pos (by omega), pk_us, Nat.add_comm]
      · rw [pk_un e]
        by_cases e2 : i + 1 ≤ x ∧ x < 9159
        · rw [if_pos e2, if_pos (by omega), pk_un (by omega)]
        · rw [if_neg e2, if_neg (by omega)]
    rw [this]
theorem record_lt {K : Nat} (hK : 20000 ≤ K) (zs zb : Nat → Int32) {u : Nat} (hu : u < 4) : f_X5_record K zs zb (nI u) = some ((fun x => if 3053 * u + 0 ≤ x ∧ x < 3053 * (u + 1) then zs (x - 3053 * u) else zb x), nI (u + 1)) := by
  unfold f_X5_record
  rw [if_neg]
  · exact rec_loop zs hu 3053 0 K zb (by omega) (by omega)
  · exact fun z => absurd (nI_inj (b := 4) (by omega) (by omega) z) (by omega)
theorem record_4 {K : Nat} (hK : 20000 ≤ K) (zs zb : Nat → Int32) : f_X5_record K zs zb (nI 4) = some ((fun x => if 3053 * 3 + 0 ≤ x ∧ x < 3053 * (3 + 1) then zs (x - 3053 * 3) else (if 0 ≤ x ∧ x < 9159 then zb (x + 3053) else zb x)), nI 4) := by
  unfold f_X5_record
  rw [if_pos (show nI 4 = (4 : Int32) from rfl), show f_X5_record_10 K zs (nI 4) K 0 zb = _ from shift_loop K zs (nI 4) 9159 0 K zb (by omega) (by omega), show nI 4 - 1 = nI 3 from rfl]
  exact rec_loop zs (u := 3) (by omega) 3053 0 K _ (by omega) (by omega)
def HI (d : Nat) (hs : Nat → OW) (hp : Nat → Nat) (kp : Int32) (zb : Nat → Int32) (zu : Int32) : Prop := ∃ u : Nat, u ≤ 4 ∧ kp = nI u ∧ zu = nI u ∧ (∀ j, j < 4 → hp j < 4) ∧ (∀ i j, i < 4 → j < 4 → hp i = hp j → i = j) ∧ ∀ j, j < u → JO d (hs (hp j)) (fun x => zb (3053 * j + x))
theorem HI_up {d d' : Nat} {hs : Nat → OW} {hp : Nat → Nat} {kp : Int32} {zb : Nat → Int32} {zu : Int32} (h : d ≤ d') (hH : HI d hs hp kp zb zu) : HI d' hs hp kp zb zu := by
  obtain ⟨u, u1, u2, u3, u4, u5, u6⟩ := hH
  exact ⟨u, u1, u2, u3, u4, u5, fun j hj => JO_up h (u6 j hj)⟩
theorem rem_lt {wo : OW} {hs : Nat → OW} {hp : Nat → Nat} {u : Nat} (hu : u < 4) (hp4 : hp u < 4) : f_X4_remember wo hs hp (nI u) = some (va_up hs (hp u) (bec (hs (hp u)) wo), hp, nI (u + 1)) := by
  unfold f_X4_remember
  rw [if_pos (show nI u < (4 : Int32) from nI_lt (b := 4) hu (by omega)), if_neg (nI_pos (by omega)), if_neg (show ¬ (4 : Int32) ≤ nI u from nI_ge (b := 4) hu (by omega)), ix_nI (by omega) (by omega), cl_nI (by omega), nI_1, bec_eq, bec_eq, bec_eq, bec_eq]
  generalize hc : hp u = c at hp4 ⊢
  match c, hp4 with
  | 0, _ => rfl
  | 1, _ => rfl
  | 2, _ => rfl
  | 3, _ => rfl
  | n + 4, h => exact absurd h (by omega)
theorem sb_eq {α β : Type} (a : α) (f : α → Option β) : (some a).bind f = f a := rfl
def rot (hp : Nat → Nat) : Nat → Nat := va_up (va_up (va_up (va_up hp 0 (hp 1)) 1 (hp 2)) 2 (hp 3)) 3 (hp 0)
theorem rem_4 {wo : OW} {hs : Nat → OW} {hp : Nat → Nat} (h4 : ∀ j, j < 4 → hp j < 4) : f_X4_remember wo hs hp (nI 4) = some (va_up hs (hp 0) (bec (hs (hp 0)) wo), rot hp, nI 4) := by
  have e : f_X4_dropOldest hp = some (rot hp, 3) := by
    have g1 : ((va_up hp 0 (hp 1)) 2) < 4 := h4 2 (by omega)
    have g2 : ((va_up (va_up hp 0 (hp 1)) 1 ((va_up hp 0 (hp 1)) 2)) 3) < 4 := h4 3 (by omega)
    unfold f_X4_dropOldest gd
    rw [if_pos (h4 1 (by omega)), if_pos g1, if_pos g2, if_pos (h4 0 (by omega))]
    rfl
  unfold f_X4_remember
  rw [if_neg (show ¬ nI 4 < (4 : Int32) by decide), e]
  rw [sb_eq]
  dsimp only
  rw [if_neg (show ¬ (3 : Int32) < 0 by decide), if_neg (show ¬ (4 : Int32) ≤ 3 by decide), show (3 : Int32) = nI 3 from rfl, ix_nI (by omega) (by omega), cl_nI (by omega), nI_1, bec_eq, bec_eq, bec_eq, bec_eq]
  have hp0 := h4 0 (by omega)
  rw [show rot hp 3 = hp 0 from rfl]
  generalize hp 0 = c at hp0 ⊢
  match c, hp0 with
  | 0, _ => rfl
  | 1, _ => rfl
  | 2, _ => rfl
  | 3, _ => rfl
  | n + 4, h => exact absurd h (by omega)
theorem adopt_eq (wo wt : OW) (hs : Nat → OW) (hp : Nat → Nat) (kp : Int32) (r : Int32) : f_X4_adopt wo wt hs hp kp r = if r < 0 then some (r, wo, hs, hp, kp) else (f_X4_remember wo hs hp kp).bind fun ⟨y3, y4, y5⟩ => some (r, bec wo wt, y3, y4, y5) := rfl
theorem remember_ok {K : Nat} (hK : 20000 ≤ K) {d : Nat} {wo : OW} {zs : Nat → Int32} {hs : Nat → OW} {hp : Nat → Nat} {kp : Int32} {zb : Nat → Int32} {zu : Int32} (hJ : JO d wo zs) (hH : HI d hs hp kp zb zu) :
    ∃ (hs' : Nat → OW) (hp' : Nat → Nat) (kp' : Int32) (zb' : Nat → Int32) (zu' : Int32), f_X4_remember wo hs hp kp = some (hs', hp', kp') ∧ f_X5_record K zs zb zu = some (zb', zu') ∧ HI d hs' hp' kp' zb' zu' := by
  obtain ⟨u, u1, rfl, rfl, u4, u5, u6⟩ := hH
  by_cases hu : u = 4
  · subst hu
    refine ⟨_, _, _, _, _, rem_4 u4, record_4 hK zs zb, 4, Nat.le_refl _, rfl, rfl, ?_, ?_, ?_⟩
    · intro j hj
      match j, hj with
      | 0, _ => exact u4 1 (by omega)
      | 1, _ => exact u4 2 (by omega)
      | 2, _ => exact u4 3 (by omega)
      | 3, _ => exact u4 0 (by omega)
      | n + 4, h => exact absurd h (by omega)
    · have e : ∀ j, j < 4 → ∃ q, q < 4 ∧ rot hp j = hp q ∧ (j < 3 → q = j + 1) ∧ (j = 3 → q = 0) := by
        intro j hj
        match j, hj with
        | 0, _ => exact ⟨1, by omega, rfl, fun _ => rfl, fun z => absurd z (by omega)⟩
        | 1, _ => exact ⟨2, by omega, rfl, fun _ => rfl, fun z => absurd z (by omega)⟩
        | 2, _ => exact ⟨3, by omega, rfl, fun _ => rfl, fun z => absurd z (by omega)⟩
        | 3, _ => exact ⟨0, by omega, rfl, fun z => absurd z (by omega), fun _ => rfl⟩
        | n + 4, h => exact absurd h (by omega)
      intro i j hi hj hij
      obtain ⟨a, a1, a2, a3, a4⟩ := e i hi
      obtain ⟨b, b1, b2, b3, b4⟩ := e j hj
      rw [a2, b2] at hij
      have := u5 a b a1 b1 hij
      omega
    · intro j hj
      by_cases h3 : j = 3
      · subst h3
        rw [show rot hp 3 = hp 0 from rfl, va_up_self]
        refine JO_z (JO_bec hJ) (fun x hx => ?_)
        show (if 3053 * 3 + 0 ≤ 3053 * 3 + x ∧ 3053 * 3 + x < 3053 * (3 + 1) then zs (3053 * 3 + x - 3053 * 3) else _) = _
        rw [if_pos (by omega), show 3053 * 3 + x - 3053 * 3 = x by omega]
      · have e : rot hp j = hp (j + 1) := by
          match j, hj, h3 with
          | 0, _, _ => rfl
          | 1, _, _ => rfl
          | 2, _, _ => rfl
          | n + 3, h, g => exact absurd h (by omega)
        have hne : ¬ hp (j + 1) = hp 0 := fun z => absurd (u5 (j + 1) 0 (by omega) (by omega) z) (by omega)
        rw [e, va_up_ne _ _ hne]
        refine JO_z (u6 (j + 1) (by omega)) (fun x hx => ?_)
        show (if 3053 * 3 + 0 ≤ 3053 * j + x ∧ 3053 * j + x < 3053 * (3 + 1) then zs (3053 * j + x - 3053 * 3) else (if 0 ≤ 3053 * j + x ∧ 3053 * j + x < 9159 then zb (3053 * j + x + 3053) else zb (3053 * j + x))) = zb (3053 * (j + 1) + x)
        rw [if_neg (by omega), if_pos (by omega), show 3053 * j + x + 3053 = 3053 * (j + 1) + x by omega]
  · refine ⟨_, _, _, _, _, rem_lt (by omega) (u4 u (by omega)), record_lt hK zs zb (by omega), u + 1, by omega, rfl, rfl, u4, u5, ?_⟩
    intro j hj
    by_cases h3 : j = u
    · subst h3
      rw [va_up_self]
      refine JO_z (JO_bec hJ) (fun x hx => ?_)
      show (if 3053 * j + 0 ≤ 3053 * j + x ∧ 3053 * j + x < 3053 * (j + 1) then zs (3053 * j + x - 3053 * j) else _) = _
      rw [if_pos (by omega), show 3053 * j + x - 3053 * j = x by omega]
    · have hne : ¬ hp j = hp u := fun z => absurd (u5 j u (by omega) (by omega) z) (by omega)
      rw [va_up_ne _ _ hne]
      refine JO_z (u6 j (by omega)) (fun x hx => ?_)
      show (if 3053 * u + 0 ≤ 3053 * j + x ∧ 3053 * j + x < 3053 * (u + 1) then zs (3053 * j + x - 3053 * u) else zb (3053 * j + x)) = zb (3053 * j + x)
      rw [if_neg (by omega)]
theorem undo_loop {zb : Nat → Int32} {u : Nat} (hu : u < 4) : ∀ (m i n : Nat) (zs : Nat → Int32), i + m = 3053 → m < n → f_X5_undo_22 zb (nI u) n (nI i) zs = some (nI u, (fun x => if i ≤ x ∧ x < 3053 then zb (3053 * u + x) else zs x), nI u) := by
  intro m
  induction m with
  | zero =>
    intro i n zs hi hn
    obtain ⟨n, rfl⟩ : ∃ z, n = z + 1 := ⟨n - 1, by omega⟩
    rw [f_X5_undo_22, if_pos (g3053t (by omega) (by omega))]
    have : (fun x => if i ≤ x ∧ x < 3053 then zb (3053 * u + x) else zs x) = zs := by
      funext x
      rw [if_neg (by omega)]
    rw [this]
  | succ m ih =>
    intro i n zs hi hn
    obtain ⟨n, rfl⟩ : ∃ z, n = z + 1 := ⟨n - 1, by omega⟩
    rw [f_X5_undo_22, if_neg (g3053f (by omega)), at_row, ix_nI (by omega) (by omega), ix_nI (by omega) (by omega), cl_nI (by omega), cl_nI (by omega)]
    show f_X5_undo_22 zb (nI u) n (nI i + 1) (upd zs i (zb (3053 * u + i))) = _
    rw [nI_1, ih (i + 1) n _ (by omega) (by omega)]
    have : (fun x => if i + 1 ≤ x ∧ x < 3053 then zb (3053 * u + x) else upd zs i (zb (3053 * u + i)) x) = (fun x => if i ≤ x ∧ x < 3053 then zb (3053 * u + x) else zs x) := by
      funext x
      by_cases e : x = i
      · subst e
        rw [if_neg (by omega), if_pos (by omega), pk_us]
      · rw [pk_un e]
        by_cases e2 : i + 1 ≤ x ∧ x < 3053
        · rw [if_pos e2, if_pos (by omega)]
        · rw [if_neg e2, if_neg (by omega)]
    rw [this]
theorem undo_ok {K : Nat} (hK : 20000 ≤ K) {d : Nat} {wo : OW} {zs : Nat → Int32} {hs : Nat → OW} {hp : Nat → Nat} {kp : Int32} {zb : Nat → Int32} {zu : Int32} (hJ : JO d wo zs) (hH : HI d hs hp kp zb zu) :
    ∃ (r : Int32) (wo' : OW) (kp' : Int32) (zs' : Nat → Int32) (zu' : Int32), f_X4_undo wo hs hp kp = some (r, wo', kp') ∧ f_X5_undo K zs zb zu = some (r, zs', zu') ∧ JO d wo' zs' ∧ HI d hs hp kp' zb zu' := by
  obtain ⟨u, u1, rfl, rfl, u4, u5, u6⟩ := id hH
  by_cases h0 : u = 0
  · subst h0
    exact ⟨-2, wo, nI 0, zs, nI 0, rfl, rfl, hJ, hH⟩
  · obtain ⟨v, rfl⟩ : ∃ v, u = v + 1 := ⟨u - 1, by omega⟩
    have e1 : nI (v + 1) - 1 = nI v := nI_s1 (a := v + 1) (by omega)
    refine ⟨nI v, bec wo (hs (hp v)), nI v, (fun x => if 0 ≤ x ∧ x < 3053 then zb (3053 * v + x) else zs x), nI v, ?_, ?_, ?_, v, by omega, rfl, rfl, u4, u5, fun j hj => u6 j (by omega)⟩
    · unfold f_X4_undo
      rw [if_neg (show ¬ nI (v + 1) ≤ (0 : Int32) from nI_ge (a := 0) (b := v + 1) (by omega) (by omega)), if_pos (show nI (v + 1) ≤ (4 : Int32) from nI_le (b := 4) (by omega) (by omega)), e1, ix_nI (by omega) (by omega), cl_nI (by omega), bec_eq, bec_eq, bec_eq, bec_eq]
      have hv := u4 v (by omega)
      generalize hp v = c at hv ⊢
      match c, hv with
      | 0, _ => rfl
      | 1, _ => rfl
      | 2, _ => rfl
      | 3, _ => rfl
      | n + 4, h => exact absurd h (by omega)
    · unfold f_X5_undo
      rw [if_neg (show ¬ nI (v + 1) = (0 : Int32) from fun z => absurd (nI_inj (b := 0) (by omega) (by omega) z) (by omega)), e1]
      exact undo_loop (by omega) 3053 0 K zs (by omega) (by omega)
    · refine JO_bec (JO_z (u6 v (by omega)) (fun x hx => ?_))
      rw [if_pos (by omega)]
