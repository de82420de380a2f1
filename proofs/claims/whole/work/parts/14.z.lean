theorem lt4 {j : Nat} (h : j < 4) : j = 0 ∨ j = 1 ∨ j = 2 ∨ j = 3 := by omega
theorem hist_up (hh : Nat → Nat → Nat) (hp : Nat → Nat) (j k : Nat) : va_up (fun i => some (hh (hp i) 0)) j (some (hh k 0)) = fun i => some (hh (va_up hp j k i) 0) := by
  funext i
  by_cases h : i = j
  · subst h; rw [va_up_self, va_up_self]
  · rw [va_up_ne _ _ h, va_up_ne _ _ h]
section CK4
variable {p : Program} {l : Launch} {e : Env} {R : Room} {s : State} {m : MethodId} {args : Array Value} {below : List Frame} {meth : Method} {c : Code} {H : Heap} {locs : List Loc} {cells slots : Nat} {Q : State → Prop}
variable {pc : Nat} {ls : Array Slot} {rest st As : List Value} {A0 : Nat → Prop} {D : va_G} {tys : List (ClassId × FieldType)} {E : EV} {ws wc : va_W}
variable {cc bytes : ByteArray} {nL maxL index n d : Nat} {ret : Option FieldType} {Ts wy : List Cond} {own C : String} {y : MethodName} {b : Nat}
/-- a call of a method of an object, with an int as answer -/
theorem ck_VIw {S : Type} {post : Int32 → S → Prop} {w1 : S → va_W} (X : CallFix p m c cc nL s args Ts own) (hE : EOK E) (hM : KI l D tys E y wy d (.ref b :: As) wc post w1) (cw : CallW R s args own C index y bytes maxL ret wy (rm d) 0 0 n)
    (hK : va_K D vwCl tys s) (hP : va_P D vwCl wc H) (hD : va_D A0 wc) (hS : va_S A0 s.heap H locs) (hA : ∀ q : Nat, s.heap.size ≤ q → A0 q) (hEs : E A0 s s.heap)
    {ci : Nat} {fs : List Value} {qc : vw_C} (hrc : vwCl[ci]? = some qc) (hrC : qc.1 = C) (hr0 : wc[0]? = some (b, .inr (ci, fs))) (hsh : ∀ u, (w1 u).map Prod.fst = wc.map Prod.fst)
    (hAn : As.length = n) (hsize : ls.size = nL) (hst : st = As.reverse ++ .ref b :: rest) (hW : (rest.map fun v => v.category).sum ≤ 8) (hdg : decode cc pc = .ok (.invokevirtual index, 3)) (hf : cells ≤ R.cells ∧ slots ≤ R.slots)
    (kk : ∀ (r : Int32) (u : S) (H1 : Heap) (locs1 : List Loc), post r u → va_P D vwCl (w1 u) H1 → va_D A0 (w1 u) → va_S A0 s.heap H1 locs1 → W p l e R s m args below meth c H1 locs1 cells slots Q (F0 m (pc + 3) ls (.int r :: rest))) : W p l e R s m args below meth c H locs cells slots Q (F0 m pc ls st) := by
  have hC := self_map wc
  have hn := self_nd wc.length
  have hFc := va_free hD hS hA (List.range wc.length) hC
  obtain ⟨g1, g2, hPc⟩ := ck_pre (av := .ref b :: As) hE hK hP hD hS hA hEs (List.range wc.length) hC hn
  refine va_calli (va_runV (As := As) (rest := rest) X (hM H.size) cw ⟨g1, hrC ▸ va_recv hK hPc hrc hr0, g2⟩ rfl hAn hsize hst (lv_room hW) hdg hf) hS (fun q _ h => hFc q h) hFc (fun r u t H1 locs1 ht hvm hw hB hz1 hk1 hS1 => ?_)
  have hP' : va_P D vwCl (w1 u) H1 := ht ▸ hB
  have hD' := hD.same (hsh u)
  exact kk r u H1 locs1 hw hP' hD' hS1
theorem ck_VVw {S : Type} {post : S → Prop} {w1 : S → va_W} (X : CallFix p m c cc nL s args Ts own) (hE : EOK E) (hM : KV l D tys E y wy d (.ref b :: As) wc post w1) (cw : CallW R s args own C index y bytes maxL ret wy (rm d) 0 0 n)
    (hK : va_K D vwCl tys s) (hP : va_P D vwCl wc H) (hD : va_D A0 wc) (hS : va_S A0 s.heap H locs) (hA : ∀ q : Nat, s.heap.size ≤ q → A0 q) (hEs : E A0 s s.heap)
    {ci : Nat} {fs : List Value} {qc : vw_C} (hrc : vwCl[ci]? = some qc) (hrC : qc.1 = C) (hr0 : wc[0]? = some (b, .inr (ci, fs))) (hsh : ∀ u, (w1 u).map Prod.fst = wc.map Prod.fst)
    (hAn : As.length = n) (hsize : ls.size = nL) (hst : st = As.reverse ++ .ref b :: rest) (hW : (rest.map fun v => v.category).sum ≤ 8) (hdg : decode cc pc = .ok (.invokevirtual index, 3)) (hf : cells ≤ R.cells ∧ slots ≤ R.slots)
    (kk : ∀ (u : S) (H1 : Heap) (locs1 : List Loc), post u → va_P D vwCl (w1 u) H1 → va_D A0 (w1 u) → va_S A0 s.heap H1 locs1 → W p l e R s m args below meth c H1 locs1 cells slots Q (F0 m (pc + 3) ls rest)) : W p l e R s m args below meth c H locs cells slots Q (F0 m pc ls st) := by
  have hC := self_map wc
  have hn := self_nd wc.length
  have hFc := va_free hD hS hA (List.range wc.length) hC
  obtain ⟨g1, g2, hPc⟩ := ck_pre (av := .ref b :: As) hE hK hP hD hS hA hEs (List.range wc.length) hC hn
  refine va_callv (va_runV (As := As) (rest := rest) X (hM H.size) cw ⟨g1, hrC ▸ va_recv hK hPc hrc hr0, g2⟩ rfl hAn hsize hst (lv_room hW) hdg hf) hS (fun q _ h => hFc q h) hFc (fun u t H1 locs1 ht hvm hw hB hz1 hk1 hS1 => ?_)
  have hP' : va_P D vwCl (w1 u) H1 := ht ▸ hB
  have hD' := hD.same (hsh u)
  exact kk u H1 locs1 hw hP' hD' hS1
/-- a call of a method of an object, with an int as answer -/
theorem ck_VIp {S : Type} {post : Int32 → S → Prop} {w1 : S → va_W} (X : CallFix p m c cc nL s args Ts own) (hE : EOK E) (hM : KI l D tys E y wy d (.ref b :: As) wc post w1) (cw : CallW R s args own C index y bytes maxL ret wy (rm d) 0 0 n)
    (hK : va_K D vwCl tys s) (hP : va_P D vwCl ws H) (hD : va_D A0 ws) (hS : va_S A0 s.heap H locs) (hA : ∀ q : Nat, s.heap.size ≤ q → A0 q) (hEs : E A0 s s.heap) {wr : va_W} {ws1 : S → va_W} (hp : ws.Perm (wc ++ wr)) (hp1 : ∀ u, (ws1 u).Perm (w1 u ++ wr))
    {ci : Nat} {fs : List Value} {qc : vw_C} (hrc : vwCl[ci]? = some qc) (hrC : qc.1 = C) (hr0 : wc[0]? = some (b, .inr (ci, fs))) (hsh : ∀ u, (w1 u).map Prod.fst = wc.map Prod.fst)
    (hAn : As.length = n) (hsize : ls.size = nL) (hst : st = As.reverse ++ .ref b :: rest) (hW : (rest.map fun v => v.category).sum ≤ 8) (hdg : decode cc pc = .ok (.invokevirtual index, 3)) (hf : cells ≤ R.cells ∧ slots ≤ R.slots)
    (kk : ∀ (r : Int32) (u : S) (H1 : Heap) (locs1 : List Loc), post r u → va_P D vwCl (ws1 u) H1 → va_D A0 (ws1 u) → va_S A0 s.heap H1 locs1 → W p l e R s m args below meth c H1 locs1 cells slots Q (F0 m (pc + 3) ls (.int r :: rest))) : W p l e R s m args below meth c H locs cells slots Q (F0 m pc ls st) := by
  replace hP := P_perm hp hP
  replace hD := D_perm hp hD
  have hC := fst_map wc wr
  have hn := self_nd wc.length
  have hFc := va_free hD hS hA (List.range wc.length) hC
  obtain ⟨g1, g2, hPc⟩ := ck_pre (av := .ref b :: As) hE hK hP hD hS hA hEs (List.range wc.length) hC hn
  refine va_calli (va_runV (As := As) (rest := rest) X (hM H.size) cw ⟨g1, hrC ▸ va_recv hK hPc hrc hr0, g2⟩ rfl hAn hsize hst (lv_room hW) hdg hf) hS (fun q _ h => hFc q h) hFc (fun r u t H1 locs1 ht hvm hw hB hz1 hk1 hS1 => ?_)
  obtain ⟨hP', hD'⟩ := fr_join hP hD (List.range wc.length) hC hn (hsh u) hk1 (ht ▸ hB)
  have hll : (w1 u).length = wc.length := by simpa using congrArg List.length (hsh u)
  rw [← hll, fr_fst wc (w1 u) wr hll] at hP' hD'
  replace hP' := P_perm (hp1 u).symm hP'
  replace hD' := D_perm (hp1 u).symm hD'
  exact kk r u H1 locs1 hw hP' hD' hS1
theorem ck_VVp {S : Type} {post : S → Prop} {w1 : S → va_W} (X : CallFix p m c cc nL s args Ts own) (hE : EOK E) (hM : KV l D tys E y wy d (.ref b :: As) wc post w1) (cw : CallW R s args own C index y bytes maxL ret wy (rm d) 0 0 n)
    (hK : va_K D vwCl tys s) (hP : va_P D vwCl ws H) (hD : va_D A0 ws) (hS : va_S A0 s.heap H locs) (hA : ∀ q : Nat, s.heap.size ≤ q → A0 q) (hEs : E A0 s s.heap) {wr : va_W} {ws1 : S → va_W} (hp : ws.Perm (wc ++ wr)) (hp1 : ∀ u, (ws1 u).Perm (w1 u ++ wr))
    {ci : Nat} {fs : List Value} {qc : vw_C} (hrc : vwCl[ci]? = some qc) (hrC : qc.1 = C) (hr0 : wc[0]? = some (b, .inr (ci, fs))) (hsh : ∀ u, (w1 u).map Prod.fst = wc.map Prod.fst)
    (hAn : As.length = n) (hsize : ls.size = nL) (hst : st = As.reverse ++ .ref b :: rest) (hW : (rest.map fun v => v.category).sum ≤ 8) (hdg : decode cc pc = .ok (.invokevirtual index, 3)) (hf : cells ≤ R.cells ∧ slots ≤ R.slots)
    (kk : ∀ (u : S) (H1 : Heap) (locs1 : List Loc), post u → va_P D vwCl (ws1 u) H1 → va_D A0 (ws1 u) → va_S A0 s.heap H1 locs1 → W p l e R s m args below meth c H1 locs1 cells slots Q (F0 m (pc + 3) ls rest)) : W p l e R s m args below meth c H locs cells slots Q (F0 m pc ls st) := by
  replace hP := P_perm hp hP
  replace hD := D_perm hp hD
  have hC := fst_map wc wr
  have hn := self_nd wc.length
  have hFc := va_free hD hS hA (List.range wc.length) hC
  obtain ⟨g1, g2, hPc⟩ := ck_pre (av := .ref b :: As) hE hK hP hD hS hA hEs (List.range wc.length) hC hn
  refine va_callv (va_runV (As := As) (rest := rest) X (hM H.size) cw ⟨g1, hrC ▸ va_recv hK hPc hrc hr0, g2⟩ rfl hAn hsize hst (lv_room hW) hdg hf) hS (fun q _ h => hFc q h) hFc (fun u t H1 locs1 ht hvm hw hB hz1 hk1 hS1 => ?_)
  obtain ⟨hP', hD'⟩ := fr_join hP hD (List.range wc.length) hC hn (hsh u) hk1 (ht ▸ hB)
  have hll : (w1 u).length = wc.length := by simpa using congrArg List.length (hsh u)
  rw [← hll, fr_fst wc (w1 u) wr hll] at hP' hD'
  replace hP' := P_perm (hp1 u).symm hP'
  replace hD' := D_perm (hp1 u).symm hD'
  exact kk u H1 locs1 hw hP' hD' hS1
/-- a room of the history is put at another place of it -/
theorem ck_hast {cI cC cK cO : ClassId} {q oO oT : Nat → Nat} {hh : Nat → Nat → Nat} {wo wt : OW} {hs : Nat → OW} {hp : Nat → Nat} {kp fp fr : Int32} {sc : Nat → Int32} {sl sp sv sf ss : Int32} {H0 : Heap} (hexec : p.tables.exec = Jvm.exec) (hb : c.code = cc) (hK : va_K D vwCl (TY cI cC cK cO) s) (hP : va_P D vwCl (wB cI cC cK cO q oO oT hh wo wt hs hp kp fp fr sc sl sp sv sf ss) H) (hD : va_D A0 (wB cI cC cK cO q oO oT hh wo wt hs hp kp fp fr sc sl sp sv sf ss)) (hS : va_S A0 H0 H locs) {i : Int32} {j k : Nat} (hin : vp_in i 4) (hj : i.toNatClampNeg = j) (hk : k < 4) (hdg : decode cc pc = .ok (.aastore, 1))
    (kk : ∀ (H1 : Heap) (locs1 : List Loc), va_P D vwCl (wB cI cC cK cO q oO oT hh wo wt hs (va_up hp j k) kp fp fr sc sl sp sv sf ss) H1 → va_D A0 (wB cI cC cK cO q oO oT hh wo wt hs (va_up hp j k) kp fp fr sc sl sp sv sf ss) → va_S A0 H0 H1 locs1 → W p l e R s m args below meth c H1 locs1 cells slots Q (F0 m (pc + 1) ls rest)) : W p l e R s m args below meth c H locs cells slots Q (F0 m pc ls (.ref (hh k 0) :: .int i :: .ref (q 1) :: rest)) := by
  subst hj
  have key : ∀ (qk : Nat) (vs : List Value), (wB cI cC cK cO q oO oT hh wo wt hs hp kp fp fr sc sl sp sv sf ss)[qk]? = some (hh k 0, .inr (2, vs)) → W p l e R s m args below meth c H locs cells slots Q (F0 m pc ls (.ref (hh k 0) :: .int i :: .ref (q 1) :: rest)) := by
    intro qk vs hv
    refine va_astq (r := (RX2, TX2, 5)) hexec hb hK hP hD hS 1 3 qk 2 rfl rfl hv rfl hin hdg (fun H1 locs1 hP1 hD1 hS1 => ?_)
    rw [hist_up] at hP1 hD1
    exact kk H1 locs1 hP1 hD1 hS1
  rcases lt4 hk with rfl | rfl | rfl | rfl
  · exact key 36 _ rfl
  · exact key 52 _ rfl
  · exact key 68 _ rfl
  · exact key 84 _ rfl
end CK4
