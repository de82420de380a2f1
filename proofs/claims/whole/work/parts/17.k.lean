/-! Constructors: contracts that make cells. -/
def gF (tL tM : Nat) (adK adV : Nat → Nat) : EV := fun A U H => gE tL tM adK adV A U H ∧ va_AO "BlockClerks$Clerk" U ∧ va_AO "BlockClerks$Office" U
theorem gF_ok (tL tM : Nat) (adK adV : Nat → Nat) : EOK (gF tL tM adK adV) := by
  obtain ⟨k1, k2, k3, k4⟩ := gE_ok tL tM adK adV
  refine ⟨fun A u U H hv h => ?_, fun A s U H hW h => ?_, fun A U H H1 hq h => ⟨k3 A U H H1 hq h.1, h.2⟩, fun A B U H hAB h => ⟨k4 A B U H hAB h.1, h.2⟩⟩
  · have hal : u.vm.Alike U.vm := by rw [hv]; exact Vm.Alike.refl _
    exact ⟨k1 A u U H hv h.1, h.2.1.moved hal, h.2.2.moved hal⟩
  · exact ⟨k2 A s U H hW h.1, h.2.1.moved hW.alike, h.2.2.moved hW.alike⟩
def rmC (d mc ms : Nat) : Room := { frames := d, cells := mc, slots := ms, locals := 30 * d }
def KC (l : Launch) (D : va_G) (tys : List (ClassId × FieldType)) (E : EV) (y : MethodName) (wy : List Cond) (d mc ms h : Nat) (wc : va_W) {S : Type} (post : S → Prop) (w1 : S → va_W) : Prop :=
  ∀ sz : Nat, Met l y wy (rmC d mc ms) (va_Pc [.ref h] (fun U => U.heap.size = sz ∧ va_P D vwCl wc U.heap ∧ va_K D vwCl tys U ∧ va_D (fun _ => True) wc ∧ E (va_A wc sz) U U.heap)) (va_Qv post (fun u t => va_P D vwCl (w1 u) t.heap ∧ va_D (va_A wc sz) (w1 u)) (va_A wc sz)) mc ms (va_A wc sz)
theorem KC.of {l : Launch} {D : va_G} {tys : List (ClassId × FieldType)} {E : EV} {y : MethodName} {wy ws' : List Cond} {d mc ms h : Nat} {wc : va_W} {S : Type} {post : S → Prop} {w1 : S → va_W} {cc : ByteArray} {maxL : Nat} {C : String} (hy : plainName y.cls = true) (hw : wy = Cond.code y cc maxL none :: ws') (hC : y.cls = C) (hal : 1 ≤ maxL) (hyn : y.name = "<init>")
    (body : ∀ (p : Program) (e : Env) (s : State) (m : MethodId) (args : Array Value) (below : List Frame) (meth : Method) (c : Code) (A : Nat → Prop) (Q : State → Prop), p.tables.exec = Jvm.exec → c.code = cc → c.maxLocals = maxL → (∀ w ∈ wy, w.before args s = true) → s.vm.findClass C = some m.cls → meth.name = "<init>" → va_P D vwCl wc s.heap → va_K D vwCl tys s → va_D A wc → (∀ q : Nat, s.heap.size ≤ q → A q) → E A s s.heap → va_S A s.heap s.heap [] → (∀ (pc : Nat) (H : Heap) (locs : List Loc) (ls : Array Slot) (u : S), decode cc pc = .ok (.return_, 1) → post u → va_P D vwCl (w1 u) H → va_D A (w1 u) → va_S A s.heap H locs → W p l e (rmC d mc ms) s m args below meth c H locs mc ms Q (F0 m pc ls [])) → ∀ ls : Array Slot, lv_has ls maxL [(0, .ref h)] →
      W p l e (rmC d mc ms) s m args below meth c s.heap [] 0 0 Q (F0 m 0 ls [])) : KC l D tys E y wy d mc ms h wc post w1 := by
  intro sz
  refine Met.ofW (cc := cc) (maxL := maxL) (ret := none) hy hw ?_
  intro p e s m args below meth c s₁ B hml hv
  obtain ⟨rfl, hsz, hP, hK, hD0, hE⟩ := hv
  subst hsz
  have hl := lv_entry [.ref h] (n := maxL) hal
  rw [lg_entry_eq]
  have hin : meth.name = "<init>" := (name_of_methodNamed B.named B.method).1.trans hyn
  exact body p e s m ([.ref h] : List Value).toArray below meth c (va_A wc s.heap.size) (MQ below (va_Qv post (fun u t => va_P D vwCl (w1 u) t.heap ∧ va_D (va_A wc s.heap.size) (w1 u)) (va_A wc s.heap.size)) ([.ref h] : List Value).toArray s mc ms (va_A wc s.heap.size)) B.exec B.bytes hml (atoms_spec (ws := wy) B.pre) (hC ▸ findClass_of_methodNamed B.named) hin hP hK hD0.self (fun q h => Or.inr h) hE va_S.rf (fun pc H locs ls u hdg hp hP hD hS => W.vret B.exec B.bytes B.returns (fun t ht hW => ⟨⟨u, rfl, hp, by show va_P _ _ _ t.heap; rw [ht]; exact hP, hD⟩, hS.F ht⟩) hS.2.2 hdg B.notSynchronized) _ hl
theorem P_cong {D : va_G} {cl : List vw_C} {ws : va_W} {H : Heap} (hP : va_P D cl ws H) (k a : Nat) {cA : ClassId} {x y : vp_A} (hk : ws[k]? = some (a, .inl (cA, x))) (e : vp_cell cA x = vp_cell cA y) : va_P D cl (ws.set k (a, .inl (cA, y))) H := by
  intro j q hq
  rw [List.getElem?_set] at hq
  by_cases h : k = j
  · subst h
    rw [if_pos rfl] at hq
    split at hq
    · cases hq
      have h2 := hP k _ hk
      show H[a]? = some (vp_cell cA y)
      rw [← e]
      exact h2
    · cases hq
  · rw [if_neg h] at hq
    exact hP j q hq
theorem D_cong {A : Nat → Prop} {ws : va_W} (hD : va_D A ws) (k a : Nat) {e e1 : va_E} (hk : ws[k]? = some (a, e)) : va_D A (ws.set k (a, e1)) := by
  refine hD.same ?_
  apply List.ext_getElem?
  intro j
  rw [List.getElem?_map, List.getElem?_map, List.getElem?_set]
  by_cases h : k = j
  · subst h
    rw [if_pos rfl, hk]
    rw [if_pos (List.getElem?_eq_some_iff.mp hk).1]
    rfl
  · rw [if_neg h]
theorem cell_i {cA : ClassId} {n : Nat} {f g : Nat → Int32} (h : ∀ j, j < n → f j = g j) : vp_cell cA (n, .inl f) = vp_cell cA (n, .inl g) := by
  rw [vp_cell_i, vp_cell_i]
  unfold arrV
  congr 1
  apply Array.ext
  · simp
  · intro i h1 h2
    simp only [Array.size_ofFn] at h1
    simp only [Array.getElem_ofFn]
    rw [h i h1]
theorem cell_q {cA : ClassId} {n : Nat} {f g : Nat → Option Nat} (h : ∀ j, j < n → f j = g j) : vp_cell cA (n, .inr (.inr (.inr (.inr f)))) = vp_cell cA (n, .inr (.inr (.inr (.inr g)))) := by
  rw [vp_cell_q, vp_cell_q]
  unfold arrV
  congr 1
  apply Array.ext
  · simp
  · intro i h1 h2
    simp only [Array.size_ofFn] at h1
    simp only [Array.getElem_ofFn]
    rw [h i h1]
/-- the class of a new row is the one that the tables name -/
theorem ty_oneI {D : va_G} {cl : List vw_C} {cI cC cK cO cA : ClassId} {s : State} (h : va_K D cl (TY cI cC cK cO ++ [(cA, .int)]) s) : cI = cA := by
  have h1 := (h.2 0 (cI, .int) rfl).2
  have h2 := (h.2 4 (cA, .int) rfl).2
  exact Option.some.inj (Eq.trans (Eq.symm h1) h2)
theorem ty_oneC {D : va_G} {cl : List vw_C} {cI cC cK cO cA : ClassId} {s : State} (h : va_K D cl (TY cI cC cK cO ++ [(cA, .char)]) s) : cC = cA := by
  have h1 := (h.2 1 (cC, .char) rfl).2
  have h2 := (h.2 4 (cA, .char) rfl).2
  exact Option.some.inj (Eq.trans (Eq.symm h1) h2)
theorem ty_oneK {D : va_G} {cl : List vw_C} {cI cC cK cO cA : ClassId} {s : State} (h : va_K D cl (TY cI cC cK cO ++ [(cA, .object "BlockClerks$Clerk")]) s) : cK = cA := by
  obtain ⟨_, _, _, _, _, h1⟩ := (h.2 2 (cK, .object "BlockClerks$Clerk") rfl).2
  obtain ⟨_, _, _, _, _, h2⟩ := (h.2 4 (cA, .object "BlockClerks$Clerk") rfl).2
  exact Option.some.inj (Eq.trans (Eq.symm h1) h2)
theorem ty_oneO {D : va_G} {cl : List vw_C} {cI cC cK cO cA : ClassId} {s : State} (h : va_K D cl (TY cI cC cK cO ++ [(cA, .object "BlockClerks$Office")]) s) : cO = cA := by
  obtain ⟨_, _, _, _, _, h1⟩ := (h.2 3 (cO, .object "BlockClerks$Office") rfl).2
  obtain ⟨_, _, _, _, _, h2⟩ := (h.2 4 (cA, .object "BlockClerks$Office") rfl).2
  exact Option.some.inj (Eq.trans (Eq.symm h1) h2)
section CKC
variable {p : Program} {l : Launch} {e : Env} {R : Room} {s : State} {m : MethodId} {args : Array Value} {below : List Frame} {meth : Method} {c : Code} {H : Heap} {locs : List Loc} {cells slots : Nat} {Q : State → Prop}
variable {pc : Nat} {ls : Array Slot} {rest st As : List Value} {A0 : Nat → Prop} {D : va_G} {tys : List (ClassId × FieldType)} {E : EV} {ws wc : va_W}
variable {cc bytes : ByteArray} {nL maxL index n d mc ms : Nat} {ret : Option FieldType} {Ts wy : List Cond} {own C host : String} {y : MethodName} {b : Nat}
theorem ck_C {S : Type} {post : S → Prop} {w1 : S → va_W} (X : CallFix p m c cc nL s args Ts own) (hE : EOK E) (hM : KC l D tys E y wy d mc ms b wc post w1) (cw : CallB R s args own index y bytes maxL none wy (rmC d mc ms) mc ms 0 ∧ y.name = "<init>" ∧ (Cond.instanceMethod y).before args s = true)
    (hK : va_K D vwCl tys s) (hP : va_P D vwCl ws H) (hD : va_D A0 ws) (hS : va_S A0 s.heap H locs) (hA : ∀ q : Nat, s.heap.size ≤ q → A0 q) (hEs : E A0 s s.heap) (isC isR : List Nat) {wr : va_W} (hC : isC.map (fun i => ws[i]?) = wc.map some) (hn : va_nd isC = true) (hR : isR.map (fun i => ws[i]?) = wr.map some) (hnR : va_nd isR = true) (hdis : ∀ i ∈ isR, i ∉ isC)
    (hsize : ls.size = nL) (hW : (rest.map fun v => v.category).sum ≤ 8) (hdg : decode cc pc = .ok (.invokespecial index, 3)) (hf : cells + mc ≤ R.cells ∧ slots + ms ≤ R.slots)
    (kk : ∀ (u : S) (H1 : Heap) (locs1 : List Loc), post u → va_P D vwCl (wr ++ w1 u) H1 → va_D A0 (wr ++ w1 u) → va_S A0 s.heap H1 locs1 → W p l e R s m args below meth c H1 locs1 (cells + mc) (slots + ms) Q (F0 m (pc + 3) ls rest)) : W p l e R s m args below meth c H locs cells slots Q (F0 m pc ls (.ref b :: rest)) := by
  have hFc := va_free hD hS hA isC hC
  obtain ⟨g1, g2, hPc⟩ := ck_pre (av := [.ref b]) hE hK hP hD hS hA hEs isC hC hn
  refine va_callv (va_runI (As := []) (rest := rest) X (hM H.size) cw ⟨g1, g2⟩ rfl rfl hsize rfl (lv_room hW) hdg hf) hS (fun q _ h => hFc q h) hFc (fun u t H1 locs1 ht hvm hw hB hz1 hk1 hS1 => ?_)
  obtain ⟨hP', hD'⟩ := va_join (w1 := w1 u) hP hD isC isR hC hR hnR hdis hk1 hFc (ht ▸ hB.1) hB.2
  exact kk u H1 locs1 hw hP' hD' hS1
theorem ck_CN {S : Type} {post : S → Prop} {w1 : S → va_W} (X : CallFix p m c cc nL s args Ts own) (hE : EOK E) (hM : KC l D tys E y wy d mc ms b wc post w1) (cw : va_CN R s args own index y host bytes maxL none wy (rmC d mc ms) mc ms 0 ∧ y.name = "<init>" ∧ (Cond.instanceMethod y).before args s = true)
    (hK : va_K D vwCl tys s) (hP : va_P D vwCl ws H) (hD : va_D A0 ws) (hS : va_S A0 s.heap H locs) (hA : ∀ q : Nat, s.heap.size ≤ q → A0 q) (hEs : E A0 s s.heap) (isC isR : List Nat) {wr : va_W} (hC : isC.map (fun i => ws[i]?) = wc.map some) (hn : va_nd isC = true) (hR : isR.map (fun i => ws[i]?) = wr.map some) (hnR : va_nd isR = true) (hdis : ∀ i ∈ isR, i ∉ isC)
    (hsize : ls.size = nL) (hW : (rest.map fun v => v.category).sum ≤ 8) (hdg : decode cc pc = .ok (.invokespecial index, 3)) (hf : cells + mc ≤ R.cells ∧ slots + ms ≤ R.slots)
    (kk : ∀ (u : S) (H1 : Heap) (locs1 : List Loc), post u → va_P D vwCl (wr ++ w1 u) H1 → va_D A0 (wr ++ w1 u) → va_S A0 s.heap H1 locs1 → W p l e R s m args below meth c H1 locs1 (cells + mc) (slots + ms) Q (F0 m (pc + 3) ls rest)) : W p l e R s m args below meth c H locs cells slots Q (F0 m pc ls (.ref b :: rest)) := by
  have hFc := va_free hD hS hA isC hC
  obtain ⟨g1, g2, hPc⟩ := ck_pre (av := [.ref b]) hE hK hP hD hS hA hEs isC hC hn
  refine va_callv (va_runIN (As := []) (rest := rest) X (hM H.size) cw ⟨g1, g2⟩ rfl rfl hsize rfl (lv_room hW) hdg hf) hS (fun q _ h => hFc q h) hFc (fun u t H1 locs1 ht hvm hw hB hz1 hk1 hS1 => ?_)
  obtain ⟨hP', hD'⟩ := va_join (w1 := w1 u) hP hD isC isR hC hR hnR hdis hk1 hFc (ht ▸ hB.1) hB.2
  exact kk u H1 locs1 hw hP' hD' hS1
end CKC
def ck0 : Nat → Int32 := fun k => if k = 1 then 1 else if k = 6 then (-1) else 0
/-- the reference's row at the start -/
def zsI (k j : Nat) : Int32 := if j = 0 then 10 else if j = 1 then 1 else if j = 2 then 4 else if 53 ≤ j ∧ j < 48 + 5 * k ∧ ((j - 48) % 5 = 1 ∨ (j - 48) % 5 = 2) then (-1) else 0
def ow0 : OW := (fun _ => 0, fun _ => (-1), fun _ => (-1), fun _ => (-1), fun _ => (-1), fun _ => 0, 0, 1, fun _ => ck0, 0, fun j => if j = 0 then 10 else if j = 1 then 1 else 4, 0)
