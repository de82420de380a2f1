section CK3
variable {p : Program} {l : Launch} {e : Env} {R : Room} {s : State} {m : MethodId} {args : Array Value} {below : List Frame} {meth : Method} {c : Code} {H : Heap} {locs : List Loc} {cells slots : Nat} {Q : State → Prop}
variable {pc : Nat} {ls : Array Slot} {rest st As : List Value} {A0 : Nat → Prop} {D : va_G} {tys : List (ClassId × FieldType)} {E : EV} {ws wc : va_W}
variable {cc bytes : ByteArray} {nL maxL index n d : Nat} {ret : Option FieldType} {Ts wy : List Cond} {own C : String} {y : MethodName} {b : Nat}
/-- a call of a method of a text: no cells of ours -/
theorem ck_TI {post : Int32 → Unit → Prop} (X : CallFix p m c cc nL s args Ts own) (hE : EOK E) (hM : KI l D tys E y wy d (.ref b :: As) [] post (fun _ => [])) (cw : CallW R s args own C index y bytes maxL ret wy (rm d) 0 0 n)
    (hK : va_K D vwCl tys s) (hP : va_P D vwCl ws H) (hD : va_D A0 ws) (hS : va_S A0 s.heap H locs) (hA : ∀ q : Nat, s.heap.size ≤ q → A0 q) (hEs : E A0 s s.heap) (hrv : ∃ cell : Cell, H[b]? = some cell ∧ cell.vm.isStatics = false ∧ s.vm.findClass C = some cell.cls)
    (hAn : As.length = n) (hsize : ls.size = nL) (hst : st = As.reverse ++ .ref b :: rest) (hW : (rest.map fun v => v.category).sum ≤ 8) (hdg : decode cc pc = .ok (.invokevirtual index, 3)) (hf : cells ≤ R.cells ∧ slots ≤ R.slots)
    (kk : ∀ (r : Int32) (H1 : Heap) (locs1 : List Loc), post r () → va_P D vwCl ws H1 → va_S A0 s.heap H1 locs1 → W p l e R s m args below meth c H1 locs1 cells slots Q (F0 m (pc + 3) ls (.int r :: rest))) : W p l e R s m args below meth c H locs cells slots Q (F0 m pc ls st) := by
  have hFc := va_free (wc := []) hD hS hA [] rfl
  obtain ⟨g1, g2, -⟩ := ck_pre (av := .ref b :: As) (wc := []) hE hK hP hD hS hA hEs [] rfl rfl
  refine va_calli (va_runV (As := As) (rest := rest) X (hM H.size) cw ⟨g1, hrv, g2⟩ rfl hAn hsize hst (lv_room hW) hdg hf) hS (fun q _ h => hFc q h) hFc (fun r u t H1 locs1 ht hvm hw hB hz1 hk1 hS1 => ?_)
  obtain ⟨hP', hD'⟩ := fr_join (wc := []) (w1 := []) hP hD [] rfl rfl rfl hk1 (ht ▸ hB)
  exact kk r H1 locs1 hw hP' hS1
theorem ck_SV {post : Unit → Prop} (X : CallFix p m c cc nL s args Ts own) (hE : EOK E) (hM : KV l D tys E y wy d As [] post (fun _ => [])) (cw : CallB R s args own index y bytes maxL ret wy (rm d) 0 0 n ∧ (Cond.static y).before args s = true)
    (hK : va_K D vwCl tys s) (hP : va_P D vwCl ws H) (hD : va_D A0 ws) (hS : va_S A0 s.heap H locs) (hA : ∀ q : Nat, s.heap.size ≤ q → A0 q) (hEs : E A0 s s.heap)
    (hAn : As.length = n) (hsize : ls.size = nL) (hst : st = As.reverse ++ rest) (hW : (rest.map fun v => v.category).sum ≤ 8) (hdg : decode cc pc = .ok (.invokestatic index, 3)) (hf : cells ≤ R.cells ∧ slots ≤ R.slots)
    (kk : ∀ (H1 : Heap) (locs1 : List Loc), post () → va_P D vwCl ws H1 → va_S A0 s.heap H1 locs1 → W p l e R s m args below meth c H1 locs1 cells slots Q (F0 m (pc + 3) ls rest)) : W p l e R s m args below meth c H locs cells slots Q (F0 m pc ls st) := by
  have hFc := va_free (wc := []) hD hS hA [] rfl
  obtain ⟨g1, g2, -⟩ := ck_pre (av := As) (wc := []) hE hK hP hD hS hA hEs [] rfl rfl
  refine va_callv (va_runS (As := As) (rest := rest) X (hM H.size) cw ⟨g1, g2⟩ rfl hAn hsize hst (lv_room hW) hdg hf) hS (fun q _ h => hFc q h) hFc (fun u t H1 locs1 ht hvm hw hB hz1 hk1 hS1 => ?_)
  obtain ⟨hP', hD'⟩ := fr_join (wc := []) (w1 := []) hP hD [] rfl rfl rfl hk1 (ht ▸ hB)
  exact kk H1 locs1 hw hP' hS1
theorem rt_T {S : Type} {post : Int32 → S → Prop} {w1 : S → va_W} {r : Int32} {ty : FieldType} (hexec : p.tables.exec = Jvm.exec) (hb : c.code = cc) (hr : meth.sig.returnType = some ty) (hlocks : meth.locks = false) (hS : va_S A0 s.heap H locs) (hdg : decode cc pc = .ok (.ireturn, 1)) (u : S) (hz : narrow ty (.int r) = .int r) (hp : post r u) (hP : va_P D vwCl (w1 u) H) : W p l e R s m args below meth c H locs cells slots (MQ below (va_Qi post (fun u t => va_P D vwCl (w1 u) t.heap) A0) args s cells slots A0) (F0 m pc ls [.int r]) :=
  W.zret hexec hb hr hz (fun t ht hW => ⟨⟨r, u, rfl, hp, by show va_P _ _ _ t.heap; rw [ht]; exact hP⟩, hS.F ht⟩) hS.2.2 hdg hlocks
end CK3
theorem KI.ofT {l : Launch} {D : va_G} {tys : List (ClassId × FieldType)} {E : EV} {y : MethodName} {wy ws' : List Cond} {d : Nat} {av : List Value} {wc : va_W} {S : Type} {post : Int32 → S → Prop} {w1 : S → va_W} {cc : ByteArray} {maxL : Nat} {C : String} {ty : FieldType} (hy : plainName y.cls = true) (hw : wy = Cond.code y cc maxL (some ty) :: ws') (hC : y.cls = C) (hal : (lg_sl av).length ≤ maxL) (hpz : ∀ r u, post r u → narrow ty (.int r) = .int r)
    (body : ∀ (p : Program) (e : Env) (s : State) (m : MethodId) (args : Array Value) (below : List Frame) (meth : Method) (c : Code) (A : Nat → Prop) (Q : State → Prop), p.tables.exec = Jvm.exec → c.code = cc → c.maxLocals = maxL → (∀ w ∈ wy, w.before args s = true) → s.vm.findClass C = some m.cls → va_P D vwCl wc s.heap → va_K D vwCl tys s → va_D A wc → (∀ q : Nat, s.heap.size ≤ q → A q) → E A s s.heap → va_S A s.heap s.heap [] → (∀ (pc : Nat) (H : Heap) (locs : List Loc) (ls : Array Slot) (r : Int32) (u : S), decode cc pc = .ok (.ireturn, 1) → post r u → va_P D vwCl (w1 u) H → va_S A s.heap H locs → W p l e (rm d) s m args below meth c H locs 0 0 Q (F0 m pc ls [.int r])) → ∀ ls : Array Slot, lv_has ls maxL (lv_args 0 av) →
      W p l e (rm d) s m args below meth c s.heap [] 0 0 Q (F0 m 0 ls [])) : KI l D tys E y wy d av wc post w1 := by
  intro sz
  refine Met.ofW (cc := cc) (maxL := maxL) (ret := (some ty)) hy hw ?_
  intro p e s m args below meth c s₁ B hml hv
  obtain ⟨rfl, hsz, hP, hK, hD0, hE⟩ := hv
  subst hsz
  have hl := lv_entry av (n := maxL) hal
  rw [lg_entry_eq]
  exact body p e s m av.toArray below meth c (va_A wc s.heap.size) (MQ below (va_Qi post (fun u t => va_P D vwCl (w1 u) t.heap) (va_A wc s.heap.size)) av.toArray s 0 0 (va_A wc s.heap.size)) B.exec B.bytes hml (atoms_spec (ws := wy) B.pre) (hC ▸ findClass_of_methodNamed B.named) hP hK hD0.self (fun q h => Or.inr h) hE va_S.rf (fun pc H locs ls r u hdg hp hP hS => rt_T B.exec B.bytes B.returns B.notSynchronized hS hdg u (hpz r u hp) hp hP) _ hl
/-! the JDK's texts: length() and charAt() of the constants, by their places -/
def slen (i : Nat) : Int32 := nI (lenS.getD i 0)
def sch (i j : Nat) : Int32 := (bytS.getD i []).getD j 0
theorem s_all : ∀ i, i < 11 → lenS.getD i 0 < 8 ∧ ∀ j, j < lenS.getD i 0 → sch i j &&& 255 = sch i j ∧ i2c (sch i j) = sch i j ∧ narrow .char (.int (sch i j)) = .int (sch i j) := by decide +kernel
set_option maxHeartbeats 4000000 in
set_option maxRecDepth 100000 in
theorem c_J3_checkIndex (l : Launch) (D : va_G) (cI cC cK cO : ClassId) (tL tM : Nat) (adK adV : Nat → Nat) (x0 x1 : Int32) (f : Value) (hfv : f = .null ∨ ∃ t, f = .ref t) (h0 : ¬ x0 < 0) (h1 : x0 < x1) : KI l D (TY cI cC cK cO) (gE tL tM adK adV) yJ3_checkIndex_8e157 wsJ3_checkIndex_8e157 0 [.int x0, .int x1, f] [] (fun (r : Int32) (u : Unit) => r = x0) (fun u => []) := by
  refine KI.ofI (cc := cJ3_checkIndex_8e157) (maxL := 3) (C := RJ3) (by decide) rfl rfl (by rcases hfv with rfl | ⟨t, rfl⟩ <;> exact Nat.le_of_ble_eq_true rfl) ?_
  intro p e s m args below meth c A Q hx hb hml hts hown hP hK hD hA hE hS hret ls hl
  replace hl : lv_has ls 3 [(0, .int x0), (1, .int x1), (2, f)] := hl
  refine lv_iload_n hx hb dJ3_checkIndex_8e157_0 rfl (lv_at hl 0 rfl) ?_
  refine lv_if_lt (tgt := 9) hx hb dJ3_checkIndex_8e157_1 (by decide) (fun c1 => absurd c1 h0) (fun c1 => ?_)
  refine lv_iload_n hx hb dJ3_checkIndex_8e157_4 rfl (lv_at hl 0 rfl) ?_
  refine lv_iload_n hx hb dJ3_checkIndex_8e157_5 rfl (lv_at hl 1 rfl) ?_
  refine lv_icmp_lt (tgt := 16) hx hb dJ3_checkIndex_8e157_6 (by decide) (fun c2 => ?_) (fun c2 => absurd h1 c2)
  refine lv_iload_n hx hb dJ3_checkIndex_8e157_16 rfl (lv_at hl 0 rfl) ?_
  exact hret _ _ _ _ _ () dJ3_checkIndex_8e157_17 rfl hP hS
set_option maxHeartbeats 4000000 in
set_option maxRecDepth 100000 in
theorem c_J0_checkIndex (l : Launch) (D : va_G) (cI cC cK cO : ClassId) (tL tM : Nat) (adK adV : Nat → Nat) (x0 x1 : Int32) (h0 : ¬ x0 < 0) (h1 : x0 < x1) : KV l D (TY cI cC cK cO) (gE tL tM adK adV) yJ0_checkIndex_df160 wsJ0_checkIndex_df160 1 [.int x0, .int x1] [] (fun (u : Unit) => True) (fun u => []) := by
  refine KV.of (cc := cJ0_checkIndex_df160) (maxL := 2) (C := RJ0) (by decide) rfl rfl (Nat.le_of_ble_eq_true rfl) ?_
  intro p e s m args below meth c A Q hx hb hml hts hown hP hK hD hA hE hS hret ls hl
  replace hl : lv_has ls 2 [(0, .int x0), (1, .int x1)] := hl
  have w1 := hts (.fieldLink RJ0 1053 "jdk/internal/util/Preconditions" "SIOOBE_FORMATTER" "Ljava/util/function/BiFunction;") (by decide +kernel)
  have go : ∀ (f : Value), (f = .null ∨ ∃ t, f = .ref t) → va_Z "jdk/internal/util/Preconditions" "SIOOBE_FORMATTER" "Ljava/util/function/BiFunction;" f A s s.heap → W p l e (rm 1) s m args below meth c s.heap [] 0 0 Q (F0 m 0 ls []) := by
    intro f hfv hz
    refine lv_iload_n hx hb dJ0_checkIndex_df160_0 rfl (lv_at hl 0 rfl) ?_
    refine lv_iload_n hx hb dJ0_checkIndex_df160_1 rfl (lv_at hl 1 rfl) ?_
    refine va_gets hx hb hz hS hown w1 (fun _ h9 => h9) dJ0_checkIndex_df160_2 ?_
    refine ck_SI (st := [f, .int x1, .int x0]) (rest := []) (As := [.int x0, .int x1, f]) ⟨hx, hb, hml, hown, hts⟩ (gE_ok tL tM adK adV) (c_J3_checkIndex l D cI cC cK cO tL tM adK adV x0 x1 f hfv h0 h1) (va_cwS 3 hts gJ0_checkIndex_df160_J3_checkIndex_8e157 rfl rfl rfl (by decide +kernel) ⟨Nat.le_of_ble_eq_true rfl, Nat.le_of_ble_eq_true rfl⟩) hK hP hD hS hA hE rfl hl.1 rfl (Nat.le_of_ble_eq_true rfl) dJ0_checkIndex_df160_5 ⟨Nat.zero_le _, Nat.zero_le _⟩ (fun r H locs hw hP hS => ?_)
    refine lv_pop hx hb dJ0_checkIndex_df160_8 rfl ?_
    exact hret _ _ _ _ () dJ0_checkIndex_df160_9 trivial hP hS
  rcases hE.2.1.2.2.2.2.2 with hz | ⟨t, hz⟩
  · exact go _ (Or.inl rfl) hz
  · exact go _ (Or.inr ⟨t, rfl⟩) hz
set_option maxHeartbeats 4000000 in
set_option maxRecDepth 100000 in
theorem c_J1_charAt (l : Launch) (D : va_G) (cI cC cK cO : ClassId) (tL tM : Nat) (adK adV : Nat → Nat) (i k : Nat) (hi : i < 11) (hk : k < lenS.getD i 0) : KI l D (TY cI cC cK cO) (gE tL tM adK adV) yJ1_charAt_3b067 wsJ1_charAt_3b067 2 [.ref (adV i), .int (nI k)] [] (fun (r : Int32) (u : Unit) => r = sch i k) (fun u => []) := by
  obtain ⟨hL, hall⟩ := s_all i hi
  obtain ⟨e1, e2, e3⟩ := hall k hk
  refine KI.ofT (cc := cJ1_charAt_3b067) (maxL := 2) (C := RJ1) (ty := .char) (by decide) rfl rfl (Nat.le_of_ble_eq_true rfl) (fun r u h => by rw [h]; exact e3) ?_
  intro p e s m args below meth c A Q hx hb hml hts hown hP hK hD hA hE hS hret ls hl
  replace hl : lv_has ls 2 [(0, .ref (adV i)), (1, .int (nI k))] := hl
  obtain ⟨-, -, -, hT⟩ := hE.2.2.1.1 i hi
  refine lv_iload_n hx hb dJ1_charAt_3b067_0 rfl (lv_at hl 1 rfl) ?_
  refine lv_aload_n hx hb dJ1_charAt_3b067_1 rfl (lv_at hl 0 rfl) ?_
  refine va_tlen hx hb hT hS rfl dJ1_charAt_3b067_2 ?_
  refine ck_SV (st := [.int (nI (lenS.getD i 0)), .int (nI k)]) (rest := []) (As := [.int (nI k), .int (nI (lenS.getD i 0))]) ⟨hx, hb, hml, hown, hts⟩ (gE_ok tL tM adK adV) (c_J0_checkIndex l D cI cC cK cO tL tM adK adV (nI k) (nI (lenS.getD i 0)) (nI_pos (by omega)) (nI_lt hk (by omega))) (va_cwS 2 hts gJ1_charAt_3b067_J0_checkIndex_df160 rfl rfl rfl (by decide +kernel) ⟨Nat.le_of_ble_eq_true rfl, Nat.le_of_ble_eq_true rfl⟩) hK hP hD hS hA hE rfl hl.1 rfl (Nat.le_of_ble_eq_true rfl) dJ1_charAt_3b067_3 ⟨Nat.zero_le _, Nat.zero_le _⟩ (fun H locs hw hP hS => ?_)
  refine lv_aload_n hx hb dJ1_charAt_3b067_6 rfl (lv_at hl 0 rfl) ?_
  refine lv_iload_n hx hb dJ1_charAt_3b067_7 rfl (lv_at hl 1 rfl) ?_
  refine va_tb (v := .int (sch i k)) hx hb hT hS (vp_in_nI hk (by omega)) (by rw [nI_clamp (by omega)]; rfl) dJ1_charAt_3b067_8 ?_
  refine lv_sipush (v := 255) hx hb dJ1_charAt_3b067_9 (by decide) ?_
  refine lv_iand hx hb dJ1_charAt_3b067_12 ?_
  refine lv_i2c hx hb dJ1_charAt_3b067_13 (v := sch i k) (by rw [e1]; exact e2) ?_
  exact hret _ _ _ _ _ () dJ1_charAt_3b067_14 rfl hP hS
set_option maxHeartbeats 4000000 in
set_option maxRecDepth 100000 in
theorem c_J0_coder (l : Launch) (D : va_G) (cI cC cK cO : ClassId) (tL tM : Nat) (adK adV : Nat → Nat) (i : Nat) (hi : i < 11) : KI l D (TY cI cC cK cO) (gE tL tM adK adV) yJ0_coder_7d493 wsJ0_coder_7d493 0 [.ref (adK i)] [] (fun (r : Int32) (u : Unit) => r = 0) (fun u => []) := by
  refine KI.ofT (cc := cJ0_coder_7d493) (maxL := 1) (C := RJ0) (ty := .byte) (by decide) rfl rfl (Nat.le_of_ble_eq_true rfl) (fun r u h => by rw [h]; rfl) ?_
  intro p e s m args below meth c A Q hx hb hml hts hown hP hK hD hA hE hS hret ls hl
  replace hl : lv_has ls 1 [(0, .ref (adK i))] := hl
  have w1 := hts (.fieldLink RJ0 38 "java/lang/String" "COMPACT_STRINGS" "Z") (by decide +kernel)
  have w2 := hts (.fieldLink RJ0 15 "java/lang/String" "coder" "B") (by decide +kernel)
  obtain ⟨-, hC, -, -⟩ := hE.2.2.1.1 i hi
  refine va_gets hx hb hE.2.1.2.2.2.2.1 hS hown w1 (fun _ h9 => h9) dJ0_coder_7d493_0 ?_
  refine lv_if_eq (tgt := 13) hx hb dJ0_coder_7d493_3 (by decide) (fun c9 => absurd c9 (by decide)) (fun _ => ?_)
  refine lv_aload_n hx hb dJ0_coder_7d493_6 rfl (lv_at hl 0 rfl) ?_
  refine vk_getf hx hb hC hS hown w2 (fun _ h9 => h9) dJ0_coder_7d493_7 ?_
  refine lv_goto (tgt := 14) hx hb dJ0_coder_7d493_10 (by decide) ?_
  exact hret _ _ _ _ _ () dJ0_coder_7d493_14 rfl hP hS
set_option maxHeartbeats 4000000 in
set_option maxRecDepth 100000 in
theorem c_J0_isLatin1 (l : Launch) (D : va_G) (cI cC cK cO : ClassId) (tL tM : Nat) (adK adV : Nat → Nat) (i : Nat) (hi : i < 11) : KI l D (TY cI cC cK cO) (gE tL tM adK adV) yJ0_isLatin1_aae02 wsJ0_isLatin1_aae02 0 [.ref (adK i)] [] (fun (r : Int32) (u : Unit) => r = 1) (fun u => []) := by
  refine KI.ofZ (cc := cJ0_isLatin1_aae02) (maxL := 1) (C := RJ0) (by decide) rfl rfl (Nat.le_of_ble_eq_true rfl) (fun r u h => Or.inr h) ?_
  intro p e s m args below meth c A Q hx hb hml hts hown hP hK hD hA hE hS hret ls hl
  replace hl : lv_has ls 1 [(0, .ref (adK i))] := hl
  have w1 := hts (.fieldLink RJ0 38 "java/lang/String" "COMPACT_STRINGS" "Z") (by decide +kernel)
  have w2 := hts (.fieldLink RJ0 15 "java/lang/String" "coder" "B") (by decide +kernel)
  obtain ⟨-, hC, -, -⟩ := hE.2.2.1.1 i hi
  refine va_gets hx hb hE.2.1.2.2.2.2.1 hS hown w1 (fun _ h9 => h9) dJ0_isLatin1_aae02_0 ?_
  refine lv_if_eq (tgt := 17) hx hb dJ0_isLatin1_aae02_3 (by decide) (fun c9 => absurd c9 (by decide)) (fun _ => ?_)
  refine lv_aload_n hx hb dJ0_isLatin1_aae02_6 rfl (lv_at hl 0 rfl) ?_
  refine vk_getf hx hb hC hS hown w2 (fun _ h9 => h9) dJ0_isLatin1_aae02_7 ?_
  refine lv_if_ne (tgt := 17) hx hb dJ0_isLatin1_aae02_10 (by decide) (fun c9 => absurd rfl c9) (fun _ => ?_)
  refine lv_iconst (v := 1) hx hb dJ0_isLatin1_aae02_13 (by decide) ?_
  refine lv_goto (tgt := 18) hx hb dJ0_isLatin1_aae02_14 (by decide) ?_
  exact hret _ _ _ _ _ () dJ0_isLatin1_aae02_18 rfl hP hS
set_option maxHeartbeats 4000000 in
set_option maxRecDepth 100000 in
theorem c_J0_length (l : Launch) (D : va_G) (cI cC cK cO : ClassId) (tL tM : Nat) (adK adV : Nat → Nat) (i : Nat) (hi : i < 11) : KI l D (TY cI cC cK cO) (gE tL tM adK adV) yJ0_length_8abf5 wsJ0_length_8abf5 1 [.ref (adK i)] [] (fun (r : Int32) (u : Unit) => r = slen i) (fun u => []) := by
  obtain ⟨hL, -⟩ := s_all i hi
  refine KI.ofI (cc := cJ0_length_8abf5) (maxL := 1) (C := RJ0) (by decide) rfl rfl (Nat.le_of_ble_eq_true rfl) ?_
  intro p e s m args below meth c A Q hx hb hml hts hown hP hK hD hA hE hS hret ls hl
  replace hl : lv_has ls 1 [(0, .ref (adK i))] := hl
  have w1 := hts (.fieldLink RJ0 9 "java/lang/String" "value" "[B") (by decide +kernel)
  obtain ⟨-, -, hV, hT⟩ := hE.2.2.1.1 i hi
  refine lv_aload_n hx hb dJ0_length_8abf5_0 rfl (lv_at hl 0 rfl) ?_
  refine vk_getf hx hb hV hS hown w1 (fun _ h9 => h9) dJ0_length_8abf5_1 ?_
  refine va_tlen hx hb hT hS rfl dJ0_length_8abf5_4 ?_
  refine lv_aload_n hx hb dJ0_length_8abf5_5 rfl (lv_at hl 0 rfl) ?_
  refine ck_TI (st := [.ref (adK i), .int (nI (lenS.getD i 0))]) (rest := [.int (nI (lenS.getD i 0))]) (As := []) (C := RJ0) ⟨hx, hb, hml, hown, hts⟩ (gE_ok tL tM adK adV) (c_J0_coder l D cI cC cK cO tL tM adK adV i hi) (cwV 0 hts gJ0_length_8abf5_J0_coder_7d493 rfl rfl rfl (by decide +kernel) ⟨Nat.le_of_ble_eq_true rfl, Nat.le_of_ble_eq_true rfl⟩) hK hP hD hS hA hE (vk_recv hE.2.2.1 hi hS) rfl hl.1 rfl (Nat.le_of_ble_eq_true rfl) dJ0_length_8abf5_6 ⟨Nat.zero_le _, Nat.zero_le _⟩ (fun r H locs hw hP hS => ?_)
  cases hw
  refine lv_ishr hx hb dJ0_length_8abf5_9 ?_
  exact hret _ _ _ _ _ () dJ0_length_8abf5_10 (sc_shr0 (by omega)) hP hS
set_option maxHeartbeats 4000000 in
set_option maxRecDepth 100000 in
theorem c_J0_charAt (l : Launch) (D : va_G) (cI cC cK cO : ClassId) (tL tM : Nat) (adK adV : Nat → Nat) (i k : Nat) (hi : i < 11) (hk : k < lenS.getD i 0) : KI l D (TY cI cC cK cO) (gE tL tM adK adV) yJ0_charAt_5068e wsJ0_charAt_5068e 3 [.ref (adK i), .int (nI k)] [] (fun (r : Int32) (u : Unit) => r = sch i k) (fun u => []) := by
  obtain ⟨hL, hall⟩ := s_all i hi
  obtain ⟨e1, e2, e3⟩ := hall k hk
  refine KI.ofT (cc := cJ0_charAt_5068e) (maxL := 2) (C := RJ0) (ty := .char) (by decide) rfl rfl (Nat.le_of_ble_eq_true rfl) (fun r u h => by rw [h]; exact e3) ?_
  intro p e s m args below meth c A Q hx hb hml hts hown hP hK hD hA hE hS hret ls hl
  replace hl : lv_has ls 2 [(0, .ref (adK i)), (1, .int (nI k))] := hl
  have w1 := hts (.fieldLink RJ0 9 "java/lang/String" "value" "[B") (by decide +kernel)
  obtain ⟨-, -, hV, hT⟩ := hE.2.2.1.1 i hi
  refine lv_aload_n hx hb dJ0_charAt_5068e_0 rfl (lv_at hl 0 rfl) ?_
  refine ck_TI (st := [.ref (adK i)]) (rest := []) (As := []) (C := RJ0) ⟨hx, hb, hml, hown, hts⟩ (gE_ok tL tM adK adV) (c_J0_isLatin1 l D cI cC cK cO tL tM adK adV i hi) (cwV 0 hts gJ0_charAt_5068e_J0_isLatin1_aae02 rfl rfl rfl (by decide +kernel) ⟨Nat.le_of_ble_eq_true rfl, Nat.le_of_ble_eq_true rfl⟩) hK hP hD hS hA hE (vk_recv hE.2.2.1 hi hS) rfl hl.1 rfl (Nat.le_of_ble_eq_true rfl) dJ0_charAt_5068e_1 ⟨Nat.zero_le _, Nat.zero_le _⟩ (fun r H locs hw hP hS => ?_)
  cases hw
  refine lv_if_eq (tgt := 16) hx hb dJ0_charAt_5068e_4 (by decide) (fun c9 => absurd c9 (by decide)) (fun _ => ?_)
  refine lv_aload_n hx hb dJ0_charAt_5068e_7 rfl (lv_at hl 0 rfl) ?_
  refine vk_getf hx hb hV hS hown w1 (fun _ h9 => h9) dJ0_charAt_5068e_8 ?_
  refine lv_iload_n hx hb dJ0_charAt_5068e_11 rfl (lv_at hl 1 rfl) ?_
  refine ck_SI (st := [.int (nI k), .ref (adV i)]) (rest := []) (As := [.ref (adV i), .int (nI k)]) ⟨hx, hb, hml, hown, hts⟩ (gE_ok tL tM adK adV) (c_J1_charAt l D cI cC cK cO tL tM adK adV i k hi hk) (va_cwS 2 hts gJ0_charAt_5068e_J1_charAt_3b067 rfl rfl rfl (by decide +kernel) ⟨Nat.le_of_ble_eq_true rfl, Nat.le_of_ble_eq_true rfl⟩) hK hP hD hS hA hE rfl hl.1 rfl (Nat.le_of_ble_eq_true rfl) dJ0_charAt_5068e_12 ⟨Nat.zero_le _, Nat.zero_le _⟩ (fun r H locs hw hP hS => ?_)
  exact hret _ _ _ _ _ () dJ0_charAt_5068e_15 hw hP hS
