/-! The class's worlds: its cells in order; what stands of the machine's own: links of nest mates, static rows, texts. -/
abbrev eC (c : Nat → Int32) : va_E := .inr (0, [.int (c 0), .int (c 1), .int (c 2), .int (c 3), .int (c 4), .int (c 5), .int (c 6)])
abbrev wN (cI : ClassId) (h b1 b2 b3 b4 b5 b6 : Nat) (ns no nr nt nd ni : Nat → Int32) (nm nf : Int32) : va_W := [(h, .inr (1, [.ref b1, .ref b2, .ref b3, .ref b4, .ref b5, .ref b6, .int nm, .int nf])), (b1, .inl (cI, 601, .inl ns)), (b2, .inl (cI, 601, .inl no)), (b3, .inl (cI, 601, .inl nr)), (b4, .inl (cI, 601, .inl nt)), (b5, .inl (cI, 601, .inl nd)), (b6, .inl (cI, 600, .inl ni))]
abbrev wO (cI cK : ClassId) (o : Nat → Nat) (ns no nr nt nd ni : Nat → Int32) (nm nf : Int32) (cl : Nat → Nat → Int32) (cc : Int32) (se : Nat → Int32) (td : Int32) : va_W := [(o 0, .inr (2, [.ref (o 1), .ref (o 9), .int cc, .ref (o 8), .int td])), (o 1, .inr (1, [.ref (o 2), .ref (o 3), .ref (o 4), .ref (o 5), .ref (o 6), .ref (o 7), .int nm, .int nf])), (o 2, .inl (cI, 601, .inl ns)), (o 3, .inl (cI, 601, .inl no)), (o 4, .inl (cI, 601, .inl nr)), (o 5, .inl (cI, 601, .inl nt)), (o 6, .inl (cI, 601, .inl nd)), (o 7, .inl (cI, 600, .inl ni)), (o 8, .inl (cI, 3, .inl se)), (o 9, .inl (cK, 6, .inr (.inr (.inr (.inr (fun i => some (o (10 + i)))))))), (o 10, eC (cl 0)), (o 11, eC (cl 1)), (o 12, eC (cl 2)), (o 13, eC (cl 3)), (o 14, eC (cl 4)), (o 15, eC (cl 5))]
abbrev wS (cC : ClassId) (h sg : Nat) (sc : Nat → Int32) (sl sp sv sf ss : Int32) : va_W := [(h, .inr (3, [.ref sg, .int sl, .int sp, .int sv, .int sf, .int ss])), (sg, .inl (cC, 80, .inl sc))]
theorem lt6 {j : Nat} (h : j < 6) : j = 0 ∨ j = 1 ∨ j = 2 ∨ j = 3 ∨ j = 4 ∨ j = 5 := by omega
section WO
variable {cI cK : ClassId} {o : Nat → Nat} {ns no nr nt nd ni : Nat → Int32} {nm nf : Int32} {cl cl1 : Nat → Nat → Int32} {cc : Int32} {se : Nat → Int32} {td : Int32} {j : Nat}
theorem lk_O (h : j < 6) : (wO cI cK o ns no nr nt nd ni nm nf cl cc se td)[10 + j]? = some (o (10 + j), eC (cl j)) := by
  rcases lt6 h with rfl | rfl | rfl | rfl | rfl | rfl <;> rfl
theorem pl_O (h : j < 6) : [10 + j].map (fun i => (wO cI cK o ns no nr nt nd ni nm nf cl cc se td)[i]?) = ([(o (10 + j), eC (cl j))] : va_W).map some := by
  rcases lt6 h with rfl | rfl | rfl | rfl | rfl | rfl <;> rfl
theorem st_O (h : j < 6) {y : Nat → Int32} : (wO cI cK o ns no nr nt nd ni nm nf cl cc se td).set (10 + j) (o (10 + j), eC y) = wO cI cK o ns no nr nt nd ni nm nf (va_up cl j y) cc se td := by
  rcases lt6 h with rfl | rfl | rfl | rfl | rfl | rfl <;> rfl
theorem st_OP {D : va_G} {C : List vw_C} {H : Heap} (h : j < 6) {y : Nat → Int32} (e : cl1 = va_up cl j y) (hP : va_P D C ((wO cI cK o ns no nr nt nd ni nm nf cl cc se td).set (10 + j) (o (10 + j), eC y)) H) : va_P D C (wO cI cK o ns no nr nt nd ni nm nf cl1 cc se td) H := by
  rw [st_O h] at hP
  rw [e]; exact hP
theorem st_OD {A : Nat → Prop} (h : j < 6) {y : Nat → Int32} (e : cl1 = va_up cl j y) (hD : va_D A ((wO cI cK o ns no nr nt nd ni nm nf cl cc se td).set (10 + j) (o (10 + j), eC y))) : va_D A (wO cI cK o ns no nr nt nd ni nm nf cl1 cc se td) := by
  rw [st_O h] at hD
  rw [e]; exact hD
theorem va_up_same {α : Type} (f : Nat → α) (j : Nat) : va_up f j (f j) = f := by
  funext i
  by_cases h : i = j
  · subst h; exact va_up_self f i (f i)
  · exact va_up_ne f (f j) h
theorem st_OP0 {D : va_G} {C : List vw_C} {H : Heap} (h : j < 6) (hP : va_P D C ((wO cI cK o ns no nr nt nd ni nm nf cl cc se td).set (10 + j) (o (10 + j), eC (cl j))) H) : va_P D C (wO cI cK o ns no nr nt nd ni nm nf cl cc se td) H := st_OP h (va_up_same cl j).symm hP
theorem st_OD0 {A : Nat → Prop} (h : j < 6) (hD : va_D A ((wO cI cK o ns no nr nt nd ni nm nf cl cc se td).set (10 + j) (o (10 + j), eC (cl j)))) : va_D A (wO cI cK o ns no nr nt nd ni nm nf cl cc se td) := st_OD h (va_up_same cl j).symm hD
end WO
def tabL (j : Nat) : Int32 := ([1, 0, 2] : List Int32).getD j 0
def tabM (j : Nat) : Int32 := ([50, 1, 10] : List Int32).getD j 0
/-- the texts, in the order of their entries -/
def lenS : List Nat := [6, 4, 1, 7, 5, 5, 5, 1, 7, 4, 6]
def bytS : List (List Int32) := [[99, 108, 101, 114, 107, 32], [97, 115, 107, 32], [32], [102, 111, 114, 103, 101, 116, 32], [98, 97, 99, 107, 32], [118, 111, 105, 100, 32], [99, 108, 111, 115, 101], [59], [99, 97, 114, 101, 102, 117, 108], [108, 97, 122, 121], [100, 114, 101, 97, 109, 121]]
def entS : List (Nat × String) := [(31, "clerk "), (41, "ask "), (46, " "), (48, "forget "), (50, "back "), (52, "void "), (54, "close"), (56, ";"), (70, "careful"), (72, "lazy"), (74, "dreamy")]
/-- nest mates -/
def gN (U : State) : Prop := va_Nw (.methodLinkNest RX1 73 yX4_orNotFound "BlockClerks") U ∧ va_Nw (.methodLinkNest RX2 151 yX4_orNotFound "BlockClerks") U ∧ va_Nw (.methodLinkNest RX2 35 yX0_init "BlockClerks") U ∧ va_Nw (.methodLinkNest RX4 29 yX3_init "BlockClerks") U
def gT (tL tM : Nat) : EV := fun A U H => va_Z "BlockClerks$Office" "LEAST" "[I" (.ref tL) A U H ∧ va_T .int tL 3 (fun j => .int (tabL j)) A U H ∧ va_Z "BlockClerks$Office" "MOST" "[I" (.ref tM) A U H ∧ va_T .int tM 3 (fun j => .int (tabM j)) A U H ∧ va_Z "java/lang/String" "COMPACT_STRINGS" "Z" (.int 1) A U H ∧ va_Zq "jdk/internal/util/Preconditions" "SIOOBE_FORMATTER" "Ljava/util/function/BiFunction;" A U H
def gS (adK adV : Nat → Nat) : EV := fun A U H => vk_S 11 lenS bytS adK adV A U H ∧ ∀ (i : Nat) (q : Nat × String), entS[i]? = some q → vk_R RX3 q.1 q.2 (adK i) U
def gE (tL tM : Nat) (adK adV : Nat → Nat) : EV := fun A U H => gN U ∧ gT tL tM A U H ∧ gS adK adV A U H
theorem gE_ok (tL tM : Nat) (adK adV : Nat → Nat) : EOK (gE tL tM adK adV) := by
  refine ⟨fun A u U H hv h => ?_, fun A s U H hW h => ?_, fun A U H H1 hq h => ?_, fun A B U H hAB h => ?_⟩
  · obtain ⟨⟨n1, n2, n3, n4⟩, ⟨z1, t1, z2, t2, z3, z4⟩, k1, k2⟩ := h
    have hal : u.vm.Alike U.vm := by rw [hv]; exact Vm.Alike.refl _
    exact ⟨⟨n1.same rfl hv.symm, n2.same rfl hv.symm, n3.same rfl hv.symm, n4.same rfl hv.symm⟩, ⟨z1.moved hal, t1.moved hal, z2.moved hal, t2.moved hal, z3.moved hal, z4.moved hal⟩, k1.moved hal, fun i q hq => (k2 i q hq).same hv⟩
  · obtain ⟨⟨n1, n2, n3, n4⟩, ⟨z1, t1, z2, t2, z3, z4⟩, k1, k2⟩ := h
    have hal := hW.alike
    exact ⟨⟨n1.warmM hW, n2.warmM hW, n3.warmM hW, n4.warmM hW⟩, ⟨z1.moved hal, t1.moved hal, z2.moved hal, t2.moved hal, z3.moved hal, z4.moved hal⟩, k1.moved hal, fun i q hq => (k2 i q hq).warm hW⟩
  · obtain ⟨n, ⟨z1, t1, z2, t2, z3, z4⟩, k1, k2⟩ := h
    exact ⟨n, ⟨z1.kept hq, t1.kept hq, z2.kept hq, t2.kept hq, z3.kept hq, z4.kept hq⟩, k1.kept hq, k2⟩
  · obtain ⟨n, ⟨z1, t1, z2, t2, z3, z4⟩, k1, k2⟩ := h
    exact ⟨n, ⟨z1.narrow hAB, t1.narrow hAB, z2.narrow hAB, t2.narrow hAB, z3.narrow hAB, z4.narrow hAB⟩, k1.narrow hAB, k2⟩
section CK2
variable {p : Program} {l : Launch} {e : Env} {R : Room} {s : State} {m : MethodId} {args : Array Value} {below : List Frame} {meth : Method} {c : Code} {H : Heap} {locs : List Loc} {cells slots : Nat} {Q : State → Prop}
variable {pc : Nat} {ls : Array Slot} {rest st As : List Value} {A0 : Nat → Prop} {D : va_G} {tys : List (ClassId × FieldType)} {E : EV} {ws wc : va_W}
variable {cc bytes : ByteArray} {nL maxL index n d : Nat} {ret : Option FieldType} {Ts wy : List Cond} {own C : String} {y : MethodName} {b : Nat}
/-- a read of a row of objects -/
theorem ck_aald {cl : List vw_C} {a : Nat} (hexec : p.tables.exec = Jvm.exec) (hb : c.code = cc) (hK : va_K D cl tys s) (hP : va_P D cl ws H) (q0 t0 : Nat) {cA : ClassId} {CN : String} {n j v : Nat} {f : Nat → Option Nat} (ha : ws[q0]? = some (a, .inl (cA, n, .inr (.inr (.inr (.inr f)))))) (ht : tys[t0]? = some (cA, .object CN)) {i : Int32} (hin : vp_in i n) (hj : i.toNatClampNeg = j) (hv : f j = some v) (hdg : decode cc pc = .ok (.aaload, 1))
    (kk : W p l e R s m args below meth c H locs cells slots Q (F0 m (pc + 1) ls (.ref v :: rest))) : W p l e R s m args below meth c H locs cells slots Q (F0 m pc ls (.int i :: .ref a :: rest)) := by
  subst hj
  refine va_aldq hexec hb hK hP q0 t0 ha ht hin hdg ?_
  rw [hv]
  exact kk
theorem ck_max (hexec : p.tables.exec = Jvm.exec) (hb : c.code = cc) (hml : c.maxLocals = ls.size) {own : String} {index : Nat} (hown : s.vm.findClass own = some m.cls) (hlink : (Cond.methodLink own index Lib.Math.max.name).before args s = true) (hstat : (Cond.static Lib.Math.max.name).before args s = true) (hini : (Cond.initialized "java/lang/Math").before args s = true) (hcode : (Cond.code Lib.Math.max.name Lib.Math.max.code 2 (some .int)).before args s = true)
    (hframes : 1 ≤ R.frames) (hlocals : (rest.map fun v => v.category).sum + 13 ≤ R.locals) (hc : cells ≤ R.cells) (hs : slots ≤ R.slots) {x y : Int32} (hdg : decode cc pc = .ok (.invokestatic index, 3))
    (kk : W p l e R s m args below meth c H locs cells slots Q (F0 m (pc + 3) ls (.int (imax x y) :: rest))) : W p l e R s m args below meth c H locs cells slots Q (F0 m pc ls (.int y :: .int x :: rest)) :=
  va_mmax hexec hb hml hown hlink hstat hini hcode hframes hlocals hc hs hdg kk
theorem ck_min (hexec : p.tables.exec = Jvm.exec) (hb : c.code = cc) (hml : c.maxLocals = ls.size) {own : String} {index : Nat} (hown : s.vm.findClass own = some m.cls) (hlink : (Cond.methodLink own index Lib.Math.min.name).before args s = true) (hstat : (Cond.static Lib.Math.min.name).before args s = true) (hini : (Cond.initialized "java/lang/Math").before args s = true) (hcode : (Cond.code Lib.Math.min.name Lib.Math.min.code 2 (some .int)).before args s = true)
    (hframes : 1 ≤ R.frames) (hlocals : (rest.map fun v => v.category).sum + 13 ≤ R.locals) (hc : cells ≤ R.cells) (hs : slots ≤ R.slots) {x y : Int32} (hdg : decode cc pc = .ok (.invokestatic index, 3))
    (kk : W p l e R s m args below meth c H locs cells slots Q (F0 m (pc + 3) ls (.int (imin x y) :: rest))) : W p l e R s m args below meth c H locs cells slots Q (F0 m pc ls (.int y :: .int x :: rest)) :=
  va_mmin hexec hb hml hown hlink hstat hini hcode hframes hlocals hc hs hdg kk
/-- System.arraycopy of all of an int row -/
theorem ck_copy {H0 : Heap} {cl : List vw_C} {a : Nat} (hexec : p.tables.exec = Jvm.exec) (hb : c.code = cc) (hml : c.maxLocals = ls.size) {own : String} {index : Nat} (hown : s.vm.findClass own = some m.cls) (hlink : (Cond.methodLink own index arraycopyName).before args s = true) (hnat : (Cond.native arraycopyName).before args s = true) (hstat : (Cond.static arraycopyName).before args s = true) (hini : (Cond.initialized "java/lang/System").before args s = true)
    (hK : va_K D cl tys s) (hP : va_P D cl ws H) (hD : va_D A0 ws) (hS : va_S A0 H0 H locs) (q0 q1 t0 : Nat) {a0 : Nat} {cA : ClassId} {n0 : Nat} {f g : Nat → Int32} (ha0 : ws[q0]? = some (a0, .inl (cA, n0, .inl f))) (ha1 : ws[q1]? = some (a, .inl (cA, n0, .inl g))) (ht0 : tys[t0]? = some (cA, .int)) {nn : Int32} (hn : nn.toNatClampNeg = n0) (h3 : ¬ nn < 0)
    (hframes : 1 ≤ R.frames) (hlocals : (rest.map fun v => v.category).sum + (nativeFrameWords "java/lang/System" "arraycopy" 5 + 11) ≤ R.locals) (hdg : decode cc pc = .ok (.invokestatic index, 3))
    (kk : ∀ (H1 : Heap) (locs1 : List Loc), va_P D cl (ws.set q1 (a, .inl (cA, n0, .inl (va_cpy f g 0 0 n0)))) H1 → va_D A0 (ws.set q1 (a, .inl (cA, n0, .inl (va_cpy f g 0 0 n0)))) → va_S A0 H0 H1 locs1 → W p l e R s m args below meth c H1 locs1 cells slots Q (F0 m (pc + 3) ls rest)) : W p l e R s m args below meth c H locs cells slots Q (F0 m pc ls (.int nn :: .int 0 :: .ref a :: .int 0 :: .ref a0 :: rest)) := by
  have z : (0 : Int32).toNatClampNeg = 0 := by decide
  refine va_copyi hexec hb hml hown hlink hnat hstat hini hK hP hD hS q0 q1 t0 t0 ha0 ha1 ht0 ht0 rfl (by decide) (by decide) h3 (by rw [z, hn]; omega) (by rw [z, hn]; omega) (fun _ _ => rfl) hframes hlocals hdg (fun H1 locs1 hP1 hD1 hS1 => ?_)
  rw [z, hn] at hP1 hD1
  exact kk H1 locs1 hP1 hD1 hS1
/-- a read of a static row of ints -/
theorem ck_tald {t N : Nat} {f : Nat → Int32} {j : Nat} (hexec : p.tables.exec = Jvm.exec) (hb : c.code = cc) (hT : va_T .int t N (fun j => .int (f j)) A0 s s.heap) (hS : va_S A0 s.heap H locs) {i : Int32} (hin : vp_in i N) (hj : i.toNatClampNeg = j) (hdg : decode cc pc = .ok (.iaload, 1))
    (kk : W p l e R s m args below meth c H locs cells slots Q (F0 m (pc + 1) ls (.int (f j) :: rest))) : W p l e R s m args below meth c H locs cells slots Q (F0 m pc ls (.int i :: .ref t :: rest)) := by
  subst hj
  exact va_ti hexec hb hT hS hin rfl hdg kk
end CK2
def i2c (x : Int32) : Int32 := (x.toUInt32 % 65536).toInt32
