/-! My base: steps of answers that may be none, the environment, contracts in one shape, calls that leave the world's order as it is. -/
/-- a named value -/
def nb {α β : Type} (v : α) (k : α → β) : β := k v
theorem nb_o {α β : Type} {v : α} {k : α → β} {R : β} (h : nb v k = R) : ∃ y, y = v ∧ k y = R := ⟨v, rfl, h⟩
theorem op_t {α : Type} {c : Prop} [Decidable c] {a b R : α} (h : c) (hf : (if c then a else b) = R) : a = R := by rwa [if_pos h] at hf
theorem op_f {α : Type} {c : Prop} [Decidable c] {a b R : α} (h : ¬ c) (hf : (if c then a else b) = R) : b = R := by rwa [if_neg h] at hf
theorem op_b {α β : Type} {a : Option α} {k : α → Option β} {R : β} (hf : a.bind k = some R) : ∃ y, a = some y ∧ k y = some R := by
  cases a with
  | none => cases hf
  | some y => exact ⟨y, rfl, hf⟩
/-- an index that must be in its row -/
def ix {α : Type} (i : Int32) (n : Nat) (k : Option α) : Option α := if i < 0 ∨ n ≤ i.toNatClampNeg then none else k
theorem op_x {α : Type} {i : Int32} {n : Nat} {k : Option α} {R : α} (hf : ix i n k = some R) : vp_in i n ∧ k = some R := by
  unfold ix at hf
  by_cases h : i < 0 ∨ n ≤ i.toNatClampNeg
  · rw [if_pos h] at hf; cases hf
  · rw [if_neg h] at hf; exact ⟨h, hf⟩
theorem op_k {α : Type} {a : α} {R : α} (hf : some a = some R) : a = R := Option.some.inj hf
theorem in_lt {i : Int32} {n : Nat} (h : vp_in i n) : i.toNatClampNeg < n := by
  rcases Nat.lt_or_ge i.toNatClampNeg n with q | q
  · exact q
  · exact absurd (Or.inr q) h
/-- cells put at places -/
def fr_set : va_W → List Nat → va_W → va_W
  | ws, i :: is, q :: w1 => fr_set (ws.set i q) is w1
  | ws, _, _ => ws
theorem fr_get : ∀ (is : List Nat) (w1 ws : va_W), is.length = w1.length → ∀ (j : Nat) (q : Nat × va_E), (fr_set ws is w1)[j]? = some q → (∃ k : Nat, is[k]? = some j ∧ w1[k]? = some q) ∨ (j ∉ is ∧ ws[j]? = some q) := by
  intro is
  induction is with
  | nil =>
    intro w1 ws _ j q h
    refine Or.inr ⟨List.not_mem_nil, ?_⟩
    cases w1 <;> exact h
  | cons i is ih =>
    intro w1 ws hl j q h
    cases w1 with
    | nil => cases hl
    | cons p w1 =>
      rcases ih w1 (ws.set i p) (by simpa using hl) j q h with ⟨k, h1, h2⟩ | ⟨h1, h2⟩
      · exact Or.inl ⟨k + 1, by simpa using h1, by simpa using h2⟩
      · rw [List.getElem?_set] at h2
        by_cases e : i = j
        · rw [if_pos e] at h2
          split at h2
          · exact Or.inl ⟨0, by simp [e], by simpa using h2⟩
          · cases h2
        · rw [if_neg e] at h2
          exact Or.inr ⟨by simp only [List.mem_cons, not_or]; exact ⟨fun z => e z.symm, h1⟩, h2⟩
theorem fr_map : ∀ (is : List Nat) (w1 ws : va_W), is.map (fun i => (ws[i]?).map Prod.fst) = w1.map (fun q => some q.1) → va_nd is = true → (fr_set ws is w1).map Prod.fst = ws.map Prod.fst := by
  intro is
  induction is with
  | nil =>
    intro w1 ws _ _
    cases w1 <;> rfl
  | cons i is ih =>
    intro w1 ws h hn
    cases w1 with
    | nil => rfl
    | cons p w1 =>
      simp only [List.map_cons, List.cons.injEq] at h
      simp only [va_nd, Bool.and_eq_true, decide_eq_true_eq] at hn
      have e : (ws.set i p).map Prod.fst = ws.map Prod.fst := by
        apply List.ext_getElem?
        intro j
        rw [List.getElem?_map, List.getElem?_map, List.getElem?_set]
        by_cases e : i = j
        · subst e
          rw [if_pos rfl, h.1]
          cases hw : ws[i]? with
          | none => rw [hw] at h; cases h.1
          | some q =>
            have hi := (List.getElem?_eq_some_iff.mp hw).1
            rw [if_pos hi]; rfl
        · rw [if_neg e]
      show (fr_set (ws.set i p) is w1).map Prod.fst = _
      rw [ih w1 (ws.set i p) ?_ hn.2, e]
      rw [← h.2]
      apply List.map_congr_left
      intro j hj
      have hne : ¬ i = j := by
        intro z
        subst z
        exact hn.1 hj
      rw [List.getElem?_set, if_neg hne]
theorem va_D.same {A : Nat → Prop} {ws ws' : va_W} (h : va_D A ws) (e : ws'.map Prod.fst = ws.map Prod.fst) : va_D A ws' := by
  have key : ∀ (k : Nat) (q : Nat × va_E), ws'[k]? = some q → ∃ p, ws[k]? = some p ∧ p.1 = q.1 := by
    intro k q hq
    have h1 : (ws'.map Prod.fst)[k]? = some q.1 := by rw [List.getElem?_map, hq]; rfl
    rw [e, List.getElem?_map] at h1
    cases hk : ws[k]? with
    | none => rw [hk] at h1; cases h1
    | some p => rw [hk] at h1; exact ⟨p, rfl, Option.some.inj h1⟩
  refine ⟨fun i j p q hi hj hpq => ?_, fun k q hk => ?_⟩
  · obtain ⟨p', h1, h2⟩ := key i p hi
    obtain ⟨q', h3, h4⟩ := key j q hj
    exact h.1 i j p' q' h1 h3 (by rw [h2, h4]; exact hpq)
  · obtain ⟨p, h1, h2⟩ := key k q hk
    rw [← h2]; exact h.2 k p h1
/-- behind a call: the callee's cells at their places again -/
theorem fr_join {A0 : Nat → Prop} {D : va_G} {cl : List vw_C} {ws wc w1 : va_W} {H H1 : Heap} (hP : va_P D cl ws H) (hD : va_D A0 ws) (isC : List Nat) (hC : isC.map (fun i => ws[i]?) = wc.map some) (hn : va_nd isC = true) (he : w1.map Prod.fst = wc.map Prod.fst)
    (hk : ∀ q : Nat, q < H.size → ¬ va_A wc H.size q → H1[q]? = H[q]?) (hP1 : va_P D cl w1 H1) : va_P D cl (fr_set ws isC w1) H1 ∧ va_D A0 (fr_set ws isC w1) := by
  have hlen : isC.length = wc.length := by simpa using congrArg List.length hC
  have hl1 : w1.length = wc.length := by simpa using congrArg List.length he
  have hC' : isC.map (fun i => (ws[i]?).map Prod.fst) = w1.map (fun q => some q.1) := by
    have h1 := congrArg (List.map (Option.map Prod.fst)) hC
    rw [List.map_map, List.map_map] at h1
    have h2 : w1.map (fun q => some q.1) = wc.map (fun q => some q.1) := by
      have h3 := congrArg (List.map some) he
      rw [List.map_map, List.map_map] at h3
      exact h3
    rw [h2]
    exact h1
  refine ⟨fun j q hq => ?_, hD.same (fr_map isC w1 ws hC' hn)⟩
  rcases fr_get isC w1 ws (by rw [hlen, hl1]) j q hq with ⟨k, h1, h2⟩ | ⟨h1, h2⟩
  · exact hP1 k q h2
  · have hlt := (hP j q h2).lt
    refine (hP j q h2).kept (hk q.1 hlt ?_)
    rintro (⟨k, e, h3⟩ | h3)
    · have h4 : (isC.map (fun i => ws[i]?))[k]? = some (some (q.1, e)) := by rw [hC, List.getElem?_map, h3]; rfl
      rw [List.getElem?_map] at h4
      cases hi : isC[k]? with
      | none => rw [hi] at h4; cases h4
      | some i =>
        rw [hi] at h4
        have h5 := Option.some.inj h4
        have h6 := hD.1 i j (q.1, e) q h5 h2 rfl
        subst h6
        exact h1 (List.mem_of_getElem? hi)
    · omega
/-- what holds of the machine's own cells and tables all the time -/
abbrev EV : Type := (Nat → Prop) → State → Heap → Prop
def EOK (E : EV) : Prop := (∀ (A : Nat → Prop) (u U : State) (H : Heap), U.vm = u.vm → E A u H → E A U H) ∧ (∀ (A : Nat → Prop) (s U : State) (H : Heap), s.WarmedH U.vm → E A s H → E A U H) ∧ (∀ (A : Nat → Prop) (U : State) (H H1 : Heap), (∀ a : Nat, a < H.size → ¬ A a → H1[a]? = H[a]?) → E A U H → E A U H1) ∧ ∀ (A B : Nat → Prop) (U : State) (H : Heap), (∀ q, B q → A q) → E A U H → E B U H
def E0 : EV := fun _ _ _ => True
theorem E0_ok : EOK E0 := ⟨fun _ _ _ _ _ _ => trivial, fun _ _ _ _ _ _ => trivial, fun _ _ _ _ _ _ => trivial, fun _ _ _ _ _ _ => trivial⟩
/-- a method's room by its depth -/
def rm (d : Nat) : Room := { frames := d, cells := 0, slots := 0, locals := 30 * d }
/-- a contract: from the world wc, with the answer r and the world w1 u -/
def KI (l : Launch) (D : va_G) (tys : List (ClassId × FieldType)) (E : EV) (y : MethodName) (wy : List Cond) (d : Nat) (av : List Value) (wc : va_W) {S : Type} (post : Int32 → S → Prop) (w1 : S → va_W) : Prop :=
  ∀ sz : Nat, Met l y wy (rm d) (va_Pc av (fun U => U.heap.size = sz ∧ va_P D vwCl wc U.heap ∧ va_K D vwCl tys U ∧ va_D (fun _ => True) wc ∧ E (va_A wc sz) U U.heap)) (va_Qi post (fun u t => va_P D vwCl (w1 u) t.heap) (va_A wc sz)) 0 0 (va_A wc sz)
def KV (l : Launch) (D : va_G) (tys : List (ClassId × FieldType)) (E : EV) (y : MethodName) (wy : List Cond) (d : Nat) (av : List Value) (wc : va_W) {S : Type} (post : S → Prop) (w1 : S → va_W) : Prop :=
  ∀ sz : Nat, Met l y wy (rm d) (va_Pc av (fun U => U.heap.size = sz ∧ va_P D vwCl wc U.heap ∧ va_K D vwCl tys U ∧ va_D (fun _ => True) wc ∧ E (va_A wc sz) U U.heap)) (va_Qv post (fun u t => va_P D vwCl (w1 u) t.heap) (va_A wc sz)) 0 0 (va_A wc sz)
section CK
variable {p : Program} {l : Launch} {e : Env} {R : Room} {s : State} {m : MethodId} {args : Array Value} {below : List Frame} {meth : Method} {c : Code} {H : Heap} {locs : List Loc} {cells slots : Nat} {Q : State → Prop}
variable {pc : Nat} {ls : Array Slot} {rest st As : List Value} {A0 : Nat → Prop} {D : va_G} {tys : List (ClassId × FieldType)} {E : EV} {ws wc : va_W}
variable {cc bytes : ByteArray} {nL maxL index n d : Nat} {ret : Option FieldType} {Ts wy : List Cond} {own C : String} {y : MethodName} {b : Nat}
theorem ck_pre {av : List Value} (hE : EOK E) (hK : va_K D vwCl tys s) (hP : va_P D vwCl ws H) (hD : va_D A0 ws) (hS : va_S A0 s.heap H locs) (hA : ∀ q : Nat, s.heap.size ≤ q → A0 q) (hEs : E A0 s s.heap) (isC : List Nat) (hC : isC.map (fun i => ws[i]?) = wc.map some) (hn : va_nd isC = true) :
    FrameBlind (va_Pc av (fun U => U.heap.size = H.size ∧ va_P D vwCl wc U.heap ∧ va_K D vwCl tys U ∧ va_D (fun _ => True) wc ∧ E (va_A wc H.size) U U.heap)) ∧ (∀ U : State, U.heap = H → s.WarmedH U.vm → va_Pc av (fun U => U.heap.size = H.size ∧ va_P D vwCl wc U.heap ∧ va_K D vwCl tys U ∧ va_D (fun _ => True) wc ∧ E (va_A wc H.size) U U.heap) av.toArray U) ∧ va_P D vwCl wc H := by
  have hFc := va_free hD hS hA isC hC
  have hPc : va_P D vwCl wc H := by
    intro k q hk
    have h1 : (isC.map (fun i => ws[i]?))[k]? = some (some q) := by rw [hC, List.getElem?_map, hk]; rfl
    rw [List.getElem?_map] at h1
    cases hi : isC[k]? with
    | none => rw [hi] at h1; cases h1
    | some i => rw [hi] at h1; exact hP i q (Option.some.inj h1)
  have hDc := hD.sub isC hn hC
  refine ⟨fun a U g mk q => ?_, fun U hU hW => ⟨rfl, by rw [hU], by rw [hU]; exact hPc, va_K.moved hW.alike hK, hDc.weaken (fun _ _ _ _ => trivial), ?_⟩, hPc⟩
  · obtain ⟨q0, q1, qP, qK, qD, qE⟩ := q
    exact ⟨q0, q1, qP, va_K.moved (u := U) (U := U.calling g mk a) (Vm.Alike.refl U.vm) qK, qD, hE.1 _ U _ _ rfl qE⟩
  · rw [hU]
    exact hE.2.2.2 A0 _ U H hFc (hE.2.2.1 A0 U s.heap H hS.2.1 (hE.2.1 A0 s U s.heap hW hEs))
/-- a call of a method of an object, with an int as answer -/
theorem ck_VI {S : Type} {post : Int32 → S → Prop} {w1 : S → va_W} (X : CallFix p m c cc nL s args Ts own) (hE : EOK E) (hM : KI l D tys E y wy d (.ref b :: As) wc post w1) (cw : CallW R s args own C index y bytes maxL ret wy (rm d) 0 0 n)
    (hK : va_K D vwCl tys s) (hP : va_P D vwCl ws H) (hD : va_D A0 ws) (hS : va_S A0 s.heap H locs) (hA : ∀ q : Nat, s.heap.size ≤ q → A0 q) (hEs : E A0 s s.heap) (isC : List Nat) (hC : isC.map (fun i => ws[i]?) = wc.map some) (hn : va_nd isC = true)
    {ci : Nat} {fs : List Value} {qc : vw_C} (hrc : vwCl[ci]? = some qc) (hrC : qc.1 = C) (hr0 : wc[0]? = some (b, .inr (ci, fs))) (hsh : ∀ u, (w1 u).map Prod.fst = wc.map Prod.fst)
    (hAn : As.length = n) (hsize : ls.size = nL) (hst : st = As.reverse ++ .ref b :: rest) (hW : (rest.map fun v => v.category).sum ≤ 8) (hdg : decode cc pc = .ok (.invokevirtual index, 3)) (hf : cells ≤ R.cells ∧ slots ≤ R.slots)
    (kk : ∀ (r : Int32) (u : S) (H1 : Heap) (locs1 : List Loc), post r u → va_P D vwCl (fr_set ws isC (w1 u)) H1 → va_D A0 (fr_set ws isC (w1 u)) → va_S A0 s.heap H1 locs1 → W p l e R s m args below meth c H1 locs1 cells slots Q (F0 m (pc + 3) ls (.int r :: rest))) : W p l e R s m args below meth c H locs cells slots Q (F0 m pc ls st) := by
  have hFc := va_free hD hS hA isC hC
  obtain ⟨g1, g2, hPc⟩ := ck_pre (av := .ref b :: As) hE hK hP hD hS hA hEs isC hC hn
  refine va_calli (va_runV (As := As) (rest := rest) X (hM H.size) cw ⟨g1, hrC ▸ va_recv hK hPc hrc hr0, g2⟩ rfl hAn hsize hst (lv_room hW) hdg hf) hS (fun q _ h => hFc q h) hFc (fun r u t H1 locs1 ht hvm hw hB hz1 hk1 hS1 => ?_)
  obtain ⟨hP', hD'⟩ := fr_join hP hD isC hC hn (hsh u) hk1 (ht ▸ hB)
  exact kk r u H1 locs1 hw hP' hD' hS1
theorem ck_VV {S : Type} {post : S → Prop} {w1 : S → va_W} (X : CallFix p m c cc nL s args Ts own) (hE : EOK E) (hM : KV l D tys E y wy d (.ref b :: As) wc post w1) (cw : CallW R s args own C index y bytes maxL ret wy (rm d) 0 0 n)
    (hK : va_K D vwCl tys s) (hP : va_P D vwCl ws H) (hD : va_D A0 ws) (hS : va_S A0 s.heap H locs) (hA : ∀ q : Nat, s.heap.size ≤ q → A0 q) (hEs : E A0 s s.heap) (isC : List Nat) (hC : isC.map (fun i => ws[i]?) = wc.map some) (hn : va_nd isC = true)
    {ci : Nat} {fs : List Value} {qc : vw_C} (hrc : vwCl[ci]? = some qc) (hrC : qc.1 = C) (hr0 : wc[0]? = some (b, .inr (ci, fs))) (hsh : ∀ u, (w1 u).map Prod.fst = wc.map Prod.fst)
    (hAn : As.length = n) (hsize : ls.size = nL) (hst : st = As.reverse ++ .ref b :: rest) (hW : (rest.map fun v => v.category).sum ≤ 8) (hdg : decode cc pc = .ok (.invokevirtual index, 3)) (hf : cells ≤ R.cells ∧ slots ≤ R.slots)
    (kk : ∀ (u : S) (H1 : Heap) (locs1 : List Loc), post u → va_P D vwCl (fr_set ws isC (w1 u)) H1 → va_D A0 (fr_set ws isC (w1 u)) → va_S A0 s.heap H1 locs1 → W p l e R s m args below meth c H1 locs1 cells slots Q (F0 m (pc + 3) ls rest)) : W p l e R s m args below meth c H locs cells slots Q (F0 m pc ls st) := by
  have hFc := va_free hD hS hA isC hC
  obtain ⟨g1, g2, hPc⟩ := ck_pre (av := .ref b :: As) hE hK hP hD hS hA hEs isC hC hn
  refine va_callv (va_runV (As := As) (rest := rest) X (hM H.size) cw ⟨g1, hrC ▸ va_recv hK hPc hrc hr0, g2⟩ rfl hAn hsize hst (lv_room hW) hdg hf) hS (fun q _ h => hFc q h) hFc (fun u t H1 locs1 ht hvm hw hB hz1 hk1 hS1 => ?_)
  obtain ⟨hP', hD'⟩ := fr_join hP hD isC hC hn (hsh u) hk1 (ht ▸ hB)
  exact kk u H1 locs1 hw hP' hD' hS1
/-- a call of a static method with an int as answer: no cells -/
theorem ck_SI {post : Int32 → Unit → Prop} (X : CallFix p m c cc nL s args Ts own) (hE : EOK E) (hM : KI l D tys E y wy d As [] post (fun _ => [])) (cw : CallB R s args own index y bytes maxL ret wy (rm d) 0 0 n ∧ (Cond.static y).before args s = true)
    (hK : va_K D vwCl tys s) (hP : va_P D vwCl ws H) (hD : va_D A0 ws) (hS : va_S A0 s.heap H locs) (hA : ∀ q : Nat, s.heap.size ≤ q → A0 q) (hEs : E A0 s s.heap)
    (hAn : As.length = n) (hsize : ls.size = nL) (hst : st = As.reverse ++ rest) (hW : (rest.map fun v => v.category).sum ≤ 8) (hdg : decode cc pc = .ok (.invokestatic index, 3)) (hf : cells ≤ R.cells ∧ slots ≤ R.slots)
    (kk : ∀ (r : Int32) (H1 : Heap) (locs1 : List Loc), post r () → va_P D vwCl ws H1 → va_S A0 s.heap H1 locs1 → W p l e R s m args below meth c H1 locs1 cells slots Q (F0 m (pc + 3) ls (.int r :: rest))) : W p l e R s m args below meth c H locs cells slots Q (F0 m pc ls st) := by
  have hFc := va_free (wc := []) hD hS hA [] rfl
  obtain ⟨g1, g2, -⟩ := ck_pre (av := As) (wc := []) hE hK hP hD hS hA hEs [] rfl rfl
  refine va_calli (va_runS (As := As) (rest := rest) X (hM H.size) cw ⟨g1, g2⟩ rfl hAn hsize hst (lv_room hW) hdg hf) hS (fun q _ h => hFc q h) hFc (fun r u t H1 locs1 ht hvm hw hB hz1 hk1 hS1 => ?_)
  obtain ⟨hP', hD'⟩ := fr_join (wc := []) (w1 := []) hP hD [] rfl rfl rfl hk1 (ht ▸ hB)
  exact kk r H1 locs1 hw hP' hS1
/-- the same, of a private one of a nest mate -/
theorem ck_NI {host : String} {post : Int32 → Unit → Prop} (X : CallFix p m c cc nL s args Ts own) (hE : EOK E) (hM : KI l D tys E y wy d As [] post (fun _ => [])) (cw : va_CN R s args own index y host bytes maxL ret wy (rm d) 0 0 n ∧ (Cond.static y).before args s = true ∧ True)
    (hK : va_K D vwCl tys s) (hP : va_P D vwCl ws H) (hD : va_D A0 ws) (hS : va_S A0 s.heap H locs) (hA : ∀ q : Nat, s.heap.size ≤ q → A0 q) (hEs : E A0 s s.heap)
    (hAn : As.length = n) (hsize : ls.size = nL) (hst : st = As.reverse ++ rest) (hW : (rest.map fun v => v.category).sum ≤ 8) (hdg : decode cc pc = .ok (.invokestatic index, 3)) (hf : cells ≤ R.cells ∧ slots ≤ R.slots)
    (kk : ∀ (r : Int32) (H1 : Heap) (locs1 : List Loc), post r () → va_P D vwCl ws H1 → va_S A0 s.heap H1 locs1 → W p l e R s m args below meth c H1 locs1 cells slots Q (F0 m (pc + 3) ls (.int r :: rest))) : W p l e R s m args below meth c H locs cells slots Q (F0 m pc ls st) := by
  have hFc := va_free (wc := []) hD hS hA [] rfl
  obtain ⟨g1, g2, -⟩ := ck_pre (av := As) (wc := []) hE hK hP hD hS hA hEs [] rfl rfl
  refine va_calli (va_runSN (As := As) (rest := rest) X (hM H.size) cw ⟨g1, g2⟩ rfl hAn hsize hst (lv_room hW) hdg hf) hS (fun q _ h => hFc q h) hFc (fun r u t H1 locs1 ht hvm hw hB hz1 hk1 hS1 => ?_)
  obtain ⟨hP', hD'⟩ := fr_join (wc := []) (w1 := []) hP hD [] rfl rfl rfl hk1 (ht ▸ hB)
  exact kk r H1 locs1 hw hP' hS1
/-- ends of a method -/
theorem rt_I {S : Type} {post : Int32 → S → Prop} {w1 : S → va_W} {r : Int32} (hexec : p.tables.exec = Jvm.exec) (hb : c.code = cc) (hr : meth.sig.returnType = some .int) (hlocks : meth.locks = false) (hS : va_S A0 s.heap H locs) (hdg : decode cc pc = .ok (.ireturn, 1)) (u : S) (hp : post r u) (hP : va_P D vwCl (w1 u) H) : W p l e R s m args below meth c H locs cells slots (MQ below (va_Qi post (fun u t => va_P D vwCl (w1 u) t.heap) A0) args s cells slots A0) (F0 m pc ls [.int r]) :=
  W.iret hexec hb hr (fun t ht hW => ⟨⟨r, u, rfl, hp, by show va_P _ _ _ t.heap; rw [ht]; exact hP⟩, hS.F ht⟩) hS.2.2 hdg hlocks
theorem rt_Z {S : Type} {post : Int32 → S → Prop} {w1 : S → va_W} {r : Int32} (hexec : p.tables.exec = Jvm.exec) (hb : c.code = cc) (hr : meth.sig.returnType = some .boolean) (hlocks : meth.locks = false) (hS : va_S A0 s.heap H locs) (hdg : decode cc pc = .ok (.ireturn, 1)) (u : S) (hz : r = 0 ∨ r = 1) (hp : post r u) (hP : va_P D vwCl (w1 u) H) : W p l e R s m args below meth c H locs cells slots (MQ below (va_Qi post (fun u t => va_P D vwCl (w1 u) t.heap) A0) args s cells slots A0) (F0 m pc ls [.int r]) :=
  W.zret hexec hb hr (by rcases hz with rfl | rfl <;> rfl) (fun t ht hW => ⟨⟨r, u, rfl, hp, by show va_P _ _ _ t.heap; rw [ht]; exact hP⟩, hS.F ht⟩) hS.2.2 hdg hlocks
theorem rt_V {S : Type} {post : S → Prop} {w1 : S → va_W} (hexec : p.tables.exec = Jvm.exec) (hb : c.code = cc) (hr : meth.sig.returnType = none) (hlocks : meth.locks = false) (hS : va_S A0 s.heap H locs) (hdg : decode cc pc = .ok (.return_, 1)) (u : S) (hp : post u) (hP : va_P D vwCl (w1 u) H) : W p l e R s m args below meth c H locs cells slots (MQ below (va_Qv post (fun u t => va_P D vwCl (w1 u) t.heap) A0) args s cells slots A0) (F0 m pc ls []) :=
  W.vret hexec hb hr (fun t ht hW => ⟨⟨u, rfl, hp, by show va_P _ _ _ t.heap; rw [ht]; exact hP⟩, hS.F ht⟩) hS.2.2 hdg hlocks
/-- a store into an int array, with a name for what the array holds then -/
theorem ck_iast {H0 : Heap} {cl : List vw_C} {a : Nat} (hexec : p.tables.exec = Jvm.exec) (hb : c.code = cc) (hK : va_K D cl tys s) (hP : va_P D cl ws H) (hD : va_D A0 ws) (hS : va_S A0 H0 H locs) (q0 t0 : Nat) {cA : ClassId} {n : Nat} {f f' : Nat → Int32} (ha : ws[q0]? = some (a, .inl (cA, n, .inl f))) (ht : tys[t0]? = some (cA, .int)) {i : Int32} {x : Int32} (hin : vp_in i n) (hdg : decode cc pc = .ok (.iastore, 1)) (hf : f' = upd f i.toNatClampNeg x)
    (kk : ∀ (H1 : Heap) (locs1 : List Loc), va_P D cl (ws.set q0 (a, .inl (cA, n, .inl f'))) H1 → va_D A0 (ws.set q0 (a, .inl (cA, n, .inl f'))) → va_S A0 H0 H1 locs1 → W p l e R s m args below meth c H1 locs1 cells slots Q (F0 m (pc + 1) ls rest)) : W p l e R s m args below meth c H locs cells slots Q (F0 m pc ls (.int x :: .int i :: .ref a :: rest)) := by
  subst hf
  exact va_iast hexec hb hK hP hD hS q0 t0 ha ht hin hdg kk
/-- switches -/
theorem sw_in {dflt lo hi : Int} {offs : Array Int} {len : Nat} {x v : Int32} {off : Int} {tgt : Nat} (hexec : p.tables.exec = Jvm.exec) (hb : c.code = cc) (hdg : decode cc pc = .ok (.tableswitch dflt lo hi offs, len)) (hx : x = v) (h1 : ¬ v.toInt < lo) (h2 : ¬ hi < v.toInt) (ho : offs[(v.toInt - lo).toNat]? = some off) (ht : (pc : Int) + off = (tgt : Int))
    (k : W p l e R s m args below meth c H locs cells slots Q (F0 m tgt ls rest)) : W p l e R s m args below meth c H locs cells slots Q (F0 m pc ls (.int x :: rest)) := by
  subst hx
  exact lv_tableIn hexec hb hdg h1 h2 ho ht k
/-- a read of an int array, with its place as a number -/
theorem ck_iald {cl : List vw_C} {a : Nat} (hexec : p.tables.exec = Jvm.exec) (hb : c.code = cc) (hK : va_K D cl tys s) (hP : va_P D cl ws H) (q0 t0 : Nat) {cA : ClassId} {n j : Nat} {f : Nat → Int32} (ha : ws[q0]? = some (a, .inl (cA, n, .inl f))) (ht : tys[t0]? = some (cA, .int)) {i : Int32} (hin : vp_in i n) (hj : i.toNatClampNeg = j) (hdg : decode cc pc = .ok (.iaload, 1))
    (kk : W p l e R s m args below meth c H locs cells slots Q (F0 m (pc + 1) ls (.int (f j) :: rest))) : W p l e R s m args below meth c H locs cells slots Q (F0 m pc ls (.int i :: .ref a :: rest)) := by
  subst hj
  exact va_iald hexec hb hK hP q0 t0 ha ht hin hdg kk
theorem ck_cald {cl : List vw_C} {a : Nat} (hexec : p.tables.exec = Jvm.exec) (hb : c.code = cc) (hK : va_K D cl tys s) (hP : va_P D cl ws H) (q0 t0 : Nat) {cA : ClassId} {n j : Nat} {f : Nat → Int32} (ha : ws[q0]? = some (a, .inl (cA, n, .inl f))) (ht : tys[t0]? = some (cA, .char)) {i : Int32} (hin : vp_in i n) (hj : i.toNatClampNeg = j) (hdg : decode cc pc = .ok (.caload, 1))
    (kk : W p l e R s m args below meth c H locs cells slots Q (F0 m (pc + 1) ls (.int (f j) :: rest))) : W p l e R s m args below meth c H locs cells slots Q (F0 m pc ls (.int i :: .ref a :: rest)) := by
  subst hj
  exact va_cald hexec hb hK hP q0 t0 ha ht hin hdg kk
/-- a store into a char array -/
theorem ck_cast {H0 : Heap} {cl : List vw_C} {a : Nat} (hexec : p.tables.exec = Jvm.exec) (hb : c.code = cc) (hK : va_K D cl tys s) (hP : va_P D cl ws H) (hD : va_D A0 ws) (hS : va_S A0 H0 H locs) (q0 t0 : Nat) {cA : ClassId} {n : Nat} {f f' : Nat → Int32} (ha : ws[q0]? = some (a, .inl (cA, n, .inl f))) (ht : tys[t0]? = some (cA, .char)) {i : Int32} {x : Int32} (hin : vp_in i n) (hdg : decode cc pc = .ok (.castore, 1)) (hf : f' = upd f i.toNatClampNeg (vp_nar .char x))
    (kk : ∀ (H1 : Heap) (locs1 : List Loc), va_P D cl (ws.set q0 (a, .inl (cA, n, .inl f'))) H1 → va_D A0 (ws.set q0 (a, .inl (cA, n, .inl f'))) → va_S A0 H0 H1 locs1 → W p l e R s m args below meth c H1 locs1 cells slots Q (F0 m (pc + 1) ls rest)) : W p l e R s m args below meth c H locs cells slots Q (F0 m pc ls (.int x :: .int i :: .ref a :: rest)) := by
  subst hf
  exact va_cast hexec hb hK hP hD hS q0 t0 ha ht hin hdg kk
theorem ck_iadd {x y v : Int32} (hexec : p.tables.exec = Jvm.exec) (hb : c.code = cc) (hdg : decode cc pc = .ok (.iadd, 1)) (hv : x + y = v) (k : W p l e R s m args below meth c H locs cells slots Q (F0 m (pc + 1) ls (.int v :: rest))) : W p l e R s m args below meth c H locs cells slots Q (F0 m pc ls (.int y :: .int x :: rest)) := by
  subst hv
  exact lv_iadd hexec hb hdg k
theorem ck_isub {x y v : Int32} (hexec : p.tables.exec = Jvm.exec) (hb : c.code = cc) (hdg : decode cc pc = .ok (.isub, 1)) (hv : x - y = v) (k : W p l e R s m args below meth c H locs cells slots Q (F0 m (pc + 1) ls (.int v :: rest))) : W p l e R s m args below meth c H locs cells slots Q (F0 m pc ls (.int y :: .int x :: rest)) := by
  subst hv
  exact lv_isub hexec hb hdg k
theorem ck_imul {x y v : Int32} (hexec : p.tables.exec = Jvm.exec) (hb : c.code = cc) (hdg : decode cc pc = .ok (.imul, 1)) (hv : x * y = v) (k : W p l e R s m args below meth c H locs cells slots Q (F0 m (pc + 1) ls (.int v :: rest))) : W p l e R s m args below meth c H locs cells slots Q (F0 m pc ls (.int y :: .int x :: rest)) := by
  subst hv
  exact lv_imul hexec hb hdg k
theorem ck_ior {x y v : Int32} (hexec : p.tables.exec = Jvm.exec) (hb : c.code = cc) (hdg : decode cc pc = .ok (.ior, 1)) (hv : x ||| y = v) (k : W p l e R s m args below meth c H locs cells slots Q (F0 m (pc + 1) ls (.int v :: rest))) : W p l e R s m args below meth c H locs cells slots Q (F0 m pc ls (.int y :: .int x :: rest)) := by
  subst hv
  exact lv_ior hexec hb hdg k
end CK
theorem KI.ofI {l : Launch} {D : va_G} {tys : List (ClassId × FieldType)} {E : EV} {y : MethodName} {wy ws' : List Cond} {d : Nat} {av : List Value} {wc : va_W} {S : Type} {post : Int32 → S → Prop} {w1 : S → va_W} {cc : ByteArray} {maxL : Nat} {C : String} (hy : plainName y.cls = true) (hw : wy = Cond.code y cc maxL (some .int) :: ws') (hC : y.cls = C) (hal : (lg_sl av).length ≤ maxL)
    (body : ∀ (p : Program) (e : Env) (s : State) (m : MethodId) (args : Array Value) (below : List Frame) (meth : Method) (c : Code) (A : Nat → Prop) (Q : State → Prop), p.tables.exec = Jvm.exec → c.code = cc → c.maxLocals = maxL → (∀ w ∈ wy, w.before args s = true) → s.vm.findClass C = some m.cls → va_P D vwCl wc s.heap → va_K D vwCl tys s → va_D A wc → (∀ q : Nat, s.heap.size ≤ q → A q) → E A s s.heap → va_S A s.heap s.heap [] → (∀ (pc : Nat) (H : Heap) (locs : List Loc) (ls : Array Slot) (r : Int32) (u : S), decode cc pc = .ok (.ireturn, 1) → post r u → va_P D vwCl (w1 u) H → va_S A s.heap H locs → W p l e (rm d) s m args below meth c H locs 0 0 Q (F0 m pc ls [.int r])) → ∀ ls : Array Slot, lv_has ls maxL (lv_args 0 av) →
      W p l e (rm d) s m args below meth c s.heap [] 0 0 Q (F0 m 0 ls [])) : KI l D tys E y wy d av wc post w1 := by
  intro sz
  refine Met.ofW (cc := cc) (maxL := maxL) (ret := (some .int)) hy hw ?_
  intro p e s m args below meth c s₁ B hml hv
  obtain ⟨rfl, hsz, hP, hK, hD0, hE⟩ := hv
  subst hsz
  have hl := lv_entry av (n := maxL) hal
  rw [lg_entry_eq]
  exact body p e s m av.toArray below meth c (va_A wc s.heap.size) (MQ below (va_Qi post (fun u t => va_P D vwCl (w1 u) t.heap) (va_A wc s.heap.size)) av.toArray s 0 0 (va_A wc s.heap.size)) B.exec B.bytes hml (atoms_spec (ws := wy) B.pre) (hC ▸ findClass_of_methodNamed B.named) hP hK hD0.self (fun q h => Or.inr h) hE va_S.rf (fun pc H locs ls r u hdg hp hP hS => rt_I B.exec B.bytes B.returns B.notSynchronized hS hdg u hp hP) _ hl
theorem KI.ofZ {l : Launch} {D : va_G} {tys : List (ClassId × FieldType)} {E : EV} {y : MethodName} {wy ws' : List Cond} {d : Nat} {av : List Value} {wc : va_W} {S : Type} {post : Int32 → S → Prop} {w1 : S → va_W} {cc : ByteArray} {maxL : Nat} {C : String} (hy : plainName y.cls = true) (hw : wy = Cond.code y cc maxL (some .boolean) :: ws') (hC : y.cls = C) (hal : (lg_sl av).length ≤ maxL) (hpz : ∀ r u, post r u → r = 0 ∨ r = 1)
    (body : ∀ (p : Program) (e : Env) (s : State) (m : MethodId) (args : Array Value) (below : List Frame) (meth : Method) (c : Code) (A : Nat → Prop) (Q : State → Prop), p.tables.exec = Jvm.exec → c.code = cc → c.maxLocals = maxL → (∀ w ∈ wy, w.before args s = true) → s.vm.findClass C = some m.cls → va_P D vwCl wc s.heap → va_K D vwCl tys s → va_D A wc → (∀ q : Nat, s.heap.size ≤ q → A q) → E A s s.heap → va_S A s.heap s.heap [] → (∀ (pc : Nat) (H : Heap) (locs : List Loc) (ls : Array Slot) (r : Int32) (u : S), decode cc pc = .ok (.ireturn, 1) → post r u → va_P D vwCl (w1 u) H → va_S A s.heap H locs → W p l e (rm d) s m args below meth c H locs 0 0 Q (F0 m pc ls [.int r])) → ∀ ls : Array Slot, lv_has ls maxL (lv_args 0 av) →
      W p l e (rm d) s m args below meth c s.heap [] 0 0 Q (F0 m 0 ls [])) : KI l D tys E y wy d av wc post w1 := by
  intro sz
  refine Met.ofW (cc := cc) (maxL := maxL) (ret := (some .boolean)) hy hw ?_
  intro p e s m args below meth c s₁ B hml hv
  obtain ⟨rfl, hsz, hP, hK, hD0, hE⟩ := hv
  subst hsz
  have hl := lv_entry av (n := maxL) hal
  rw [lg_entry_eq]
  exact body p e s m av.toArray below meth c (va_A wc s.heap.size) (MQ below (va_Qi post (fun u t => va_P D vwCl (w1 u) t.heap) (va_A wc s.heap.size)) av.toArray s 0 0 (va_A wc s.heap.size)) B.exec B.bytes hml (atoms_spec (ws := wy) B.pre) (hC ▸ findClass_of_methodNamed B.named) hP hK hD0.self (fun q h => Or.inr h) hE va_S.rf (fun pc H locs ls r u hdg hp hP hS => rt_Z B.exec B.bytes B.returns B.notSynchronized hS hdg u (hpz r u hp) hp hP) _ hl
theorem KV.of {l : Launch} {D : va_G} {tys : List (ClassId × FieldType)} {E : EV} {y : MethodName} {wy ws' : List Cond} {d : Nat} {av : List Value} {wc : va_W} {S : Type} {post : S → Prop} {w1 : S → va_W} {cc : ByteArray} {maxL : Nat} {C : String} (hy : plainName y.cls = true) (hw : wy = Cond.code y cc maxL none :: ws') (hC : y.cls = C) (hal : (lg_sl av).length ≤ maxL)
    (body : ∀ (p : Program) (e : Env) (s : State) (m : MethodId) (args : Array Value) (below : List Frame) (meth : Method) (c : Code) (A : Nat → Prop) (Q : State → Prop), p.tables.exec = Jvm.exec → c.code = cc → c.maxLocals = maxL → (∀ w ∈ wy, w.before args s = true) → s.vm.findClass C = some m.cls → va_P D vwCl wc s.heap → va_K D vwCl tys s → va_D A wc → (∀ q : Nat, s.heap.size ≤ q → A q) → E A s s.heap → va_S A s.heap s.heap [] → (∀ (pc : Nat) (H : Heap) (locs : List Loc) (ls : Array Slot) (u : S), decode cc pc = .ok (.return_, 1) → post u → va_P D vwCl (w1 u) H → va_S A s.heap H locs → W p l e (rm d) s m args below meth c H locs 0 0 Q (F0 m pc ls [])) → ∀ ls : Array Slot, lv_has ls maxL (lv_args 0 av) →
      W p l e (rm d) s m args below meth c s.heap [] 0 0 Q (F0 m 0 ls [])) : KV l D tys E y wy d av wc post w1 := by
  intro sz
  refine Met.ofW (cc := cc) (maxL := maxL) (ret := none) hy hw ?_
  intro p e s m args below meth c s₁ B hml hv
  obtain ⟨rfl, hsz, hP, hK, hD0, hE⟩ := hv
  subst hsz
  have hl := lv_entry av (n := maxL) hal
  rw [lg_entry_eq]
  exact body p e s m av.toArray below meth c (va_A wc s.heap.size) (MQ below (va_Qv post (fun u t => va_P D vwCl (w1 u) t.heap) (va_A wc s.heap.size)) av.toArray s 0 0 (va_A wc s.heap.size)) B.exec B.bytes hml (atoms_spec (ws := wy) B.pre) (hC ▸ findClass_of_methodNamed B.named) hP hK hD0.self (fun q h => Or.inr h) hE va_S.rf (fun pc H locs ls u hdg hp hP hS => rt_V B.exec B.bytes B.returns B.notSynchronized hS hdg u hp hP) _ hl
theorem sw_ne {x v : Int32} (h : ¬ x = v) : x.toInt ≠ v.toInt := fun z => h (Int32.toInt_inj.mp z)
theorem in_lit {i : Int32} {n : Nat} (h : decide (i < 0 ∨ n ≤ i.toNatClampNeg) = false) : vp_in i n := of_decide_eq_false h
theorem or_b0 {x : Int32} (h : x = 0 ∨ x = 1) : (x ||| 0) = 0 ∨ (x ||| 0) = 1 := by rcases h with rfl | rfl <;> decide
theorem or_b1 {x : Int32} (h : x = 0 ∨ x = 1) : (x ||| 1) = 0 ∨ (x ||| 1) = 1 := by rcases h with rfl | rfl <;> decide
def imax (x y : Int32) : Int32 := if x < y then y else x
def imin (x y : Int32) : Int32 := if y < x then y else x
abbrev TY (cI cC cK cO : ClassId) : List (ClassId × FieldType) := [(cI, .int), (cC, .char), (cK, .object "BlockClerks$Clerk"), (cO, .object "BlockClerks$Office")]
/-- the reference: its object and its four rows -/
abbrev wM (cI : ClassId) (h a1 a2 a3 a4 : Nat) (zs zb za zt : Nat → Int32) (zl zu zp zw zf zg zc : Int32) : va_W := [(h, .inr (5, [.ref a1, .ref a2, .ref a3, .ref a4, .int zl, .int zu, .int zp, .int zw, .int zf, .int zg, .int zc])), (a1, .inl (cI, 3053, .inl zs)), (a2, .inl (cI, 12212, .inl zb)), (a3, .inl (cI, 3053, .inl za)), (a4, .inl (cI, 80, .inl zt))]
