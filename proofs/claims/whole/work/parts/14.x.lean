/-! The class's own world: its cells, the office, the trial, the four rooms of the history (rooms stay where they are; hp tells which is at which place). -/
abbrev OW : Type := (Nat → Int32) × (Nat → Int32) × (Nat → Int32) × (Nat → Int32) × (Nat → Int32) × (Nat → Int32) × Int32 × Int32 × (Nat → Nat → Int32) × Int32 × (Nat → Int32) × Int32
abbrev wP (cI cK : ClassId) (o : Nat → Nat) (w : OW) : va_W := wO cI cK o w.1 w.2.1 w.2.2.1 w.2.2.2.1 w.2.2.2.2.1 w.2.2.2.2.2.1 w.2.2.2.2.2.2.1 w.2.2.2.2.2.2.2.1 w.2.2.2.2.2.2.2.2.1 w.2.2.2.2.2.2.2.2.2.1 w.2.2.2.2.2.2.2.2.2.2.1 w.2.2.2.2.2.2.2.2.2.2.2
abbrev wB (cI cC cK cO : ClassId) (q oO oT : Nat → Nat) (hh : Nat → Nat → Nat) (wo wt : OW) (hs : Nat → OW) (hp : Nat → Nat) (kp fp fr : Int32) (sc : Nat → Int32) (sl sp sv sf ss : Int32) : va_W := [(q 0, .inr (4, [.ref (oO 0), .ref (oT 0), .ref (q 1), .int kp, .ref (q 2), .int fp, .int fr])), (q 1, .inl (cO, 4, .inr (.inr (.inr (.inr (fun i => some (hh (hp i) 0))))))), (q 2, .inr (3, [.ref (q 3), .int sl, .int sp, .int sv, .int sf, .int ss])), (q 3, .inl (cC, 80, .inl sc))] ++ (wP cI cK oO wo ++ (wP cI cK oT wt ++ (wP cI cK (hh 0) (hs 0) ++ (wP cI cK (hh 1) (hs 1) ++ (wP cI cK (hh 2) (hs 2) ++ wP cI cK (hh 3) (hs 3))))))
def gd {α : Type} (c : Prop) [Decidable c] (k : Option α) : Option α := if c then k else none
theorem op_g {α : Type} {c : Prop} [Decidable c] {k : Option α} {R : α} (hf : gd c k = some R) : c ∧ k = some R := by
  unfold gd at hf
  by_cases h : c
  · rw [if_pos h] at hf; exact ⟨h, hf⟩
  · rw [if_neg h] at hf; cases hf
theorem in_nI {i : Int32} {n : Nat} (h : vp_in i n) : nI i.toNatClampNeg = i := by
  have h0 : ¬ i < 0 := fun z => h (Or.inl z)
  obtain ⟨j, hj, rfl⟩ := nI_of h0
  rw [nI_clamp hj]
theorem c_J0_charAtI (l : Launch) (D : va_G) (cI cC cK cO : ClassId) (tL tM : Nat) (adK adV : Nat → Nat) (i : Nat) (hi : i < 11) (x : Int32) (hk : vp_in x (lenS.getD i 0)) : KI l D (TY cI cC cK cO) (gE tL tM adK adV) yJ0_charAt_5068e wsJ0_charAt_5068e 3 [.ref (adK i), .int x] [] (fun (r : Int32) (u : Unit) => r = sch i x.toNatClampNeg) (fun u => []) := by
  have h := c_J0_charAt l D cI cC cK cO tL tM adK adV i x.toNatClampNeg hi (in_lt hk)
  rw [in_nI hk] at h
  exact h
theorem self_map (ws : va_W) : (List.range ws.length).map (fun i => ws[i]?) = ws.map some := by
  apply List.ext_getElem?
  intro j
  by_cases h : j < ws.length
  · simp [h]
  · simp [h]
theorem range_nd : ∀ n k : Nat, va_nd (List.range' k n) = true := by
  intro n
  induction n with
  | zero => intro k; rfl
  | succ n ih =>
    intro k
    rw [List.range'_succ]
    simp only [va_nd, Bool.and_eq_true, decide_eq_true_eq]
    refine ⟨?_, ih (k + 1)⟩
    intro z
    have := (List.mem_range'_1.mp z).1
    omega
theorem self_nd (n : Nat) : va_nd (List.range n) = true := by
  rw [List.range_eq_range']
  exact range_nd n 0
