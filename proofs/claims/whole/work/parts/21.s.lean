/-! laid by wip/whole/start.py: from the law's entry to its loop -/
def flatN : List Cond := flatC (Jvm.Cond.and given_1 narrow_1)
def tmS (i : Nat) : Term := .string "BlockClerks$Script" (entS.getD i (0, "")).1
theorem fS1 : (List.range 11).all (fun i => decide (Cond.exactly (tmS i) "java/lang/String" ∈ flatN) && decide (Cond.eq (.field (tmS i) "java/lang/String" "coder" "B") (.int 0) ∈ flatN) && decide (Cond.arrayOf (.field (tmS i) "java/lang/String" "value" "[B") .byte ∈ flatN) && decide (Cond.eq (.length (.field (tmS i) "java/lang/String" "value" "[B")) (.int (Int32.ofNat (lenS.getD i 0))) ∈ flatN)) = true := by decide +kernel
theorem fS2 : (List.range 11).all (fun i => (List.range (lenS.getD i 0)).all (fun j => decide (Cond.eq (.elem (.field (tmS i) "java/lang/String" "value" "[B") (.int (Int32.ofNat j))) (.int ((bytS.getD i []).getD j 0)) ∈ flatN))) = true := by decide +kernel
theorem fS3 : (List.range 11).all (fun i => (List.range 11).all (fun j => decide (i = j) || decide (Cond.not (Cond.eq (tmS i) (tmS j)) ∈ flatN) || decide (Cond.not (Cond.eq (tmS j) (tmS i)) ∈ flatN))) = true := by decide +kernel
theorem lenS_lt : ∀ i, i < 11 → lenS.getD i 0 < 2 ^ 31 := by decide +kernel
theorem lt11 {j : Nat} (h : j < 11) : j = 0 ∨ j = 1 ∨ j = 2 ∨ j = 3 ∨ j = 4 ∨ j = 5 ∨ j = 6 ∨ j = 7 ∨ j = 8 ∨ j = 9 ∨ j = 10 := by omega
theorem lt3 {j : Nat} (h : j < 3) : j = 0 ∨ j = 1 ∨ j = 2 := by omega
set_option maxHeartbeats 4000000 in
set_option maxRecDepth 100000 in
theorem gF_start {b : Addr} {s : State} (hgv : (Jvm.Cond.and given_1 narrow_1).before #[Value.ref b] s = true) (hts : ∀ w ∈ lw_tbl, w.before #[Value.ref b] s = true) : ∃ (tL tM : Nat) (adK adV : Nat → Nat), gF tL tM adK adV (fun q => s.heap.size ≤ q) s s.heap := by
  have hs : ∀ c ∈ flatN, c.before #[Value.ref b] s = true := flat_of_before _ hgv
  have hA : ∀ a : Nat, a < s.heap.size → ¬ (fun q : Nat => s.heap.size ≤ q) a := fun a h => Nat.not_le.mpr h
  obtain ⟨tL, eL, TL⟩ := va_Tof (tm := .static "BlockClerks$Office" "LEAST" "[I") (ty := .int) (N := 3) (f := fun j => .int (tabL j)) (by omega) (hs _ (by decide +kernel)) (va_eqt (hs (.eq (.length (.static "BlockClerks$Office" "LEAST" "[I")) (.int 3)) (by decide +kernel))) (fun j hj => by
    rcases lt3 hj with rfl | rfl | rfl
    · exact va_eqt (hs (.eq (.elem (.static "BlockClerks$Office" "LEAST" "[I") (.int 0)) (.int 1)) (by decide +kernel))
    · exact va_eqt (hs (.eq (.elem (.static "BlockClerks$Office" "LEAST" "[I") (.int 1)) (.int 0)) (by decide +kernel))
    · exact va_eqt (hs (.eq (.elem (.static "BlockClerks$Office" "LEAST" "[I") (.int 2)) (.int 2)) (by decide +kernel))) hA
  have ZL := va_Zref (hts (.laysStatic "BlockClerks$Office" "LEAST" "[I") (List.mem_of_getElem? (i := 378) (by decide +kernel))) (hts (.initialized "BlockClerks$Office") (List.mem_of_getElem? (i := 43) (by decide +kernel))) eL hA
  obtain ⟨tM, eM, TM⟩ := va_Tof (tm := .static "BlockClerks$Office" "MOST" "[I") (ty := .int) (N := 3) (f := fun j => .int (tabM j)) (by omega) (hs _ (by decide +kernel)) (va_eqt (hs (.eq (.length (.static "BlockClerks$Office" "MOST" "[I")) (.int 3)) (by decide +kernel))) (fun j hj => by
    rcases lt3 hj with rfl | rfl | rfl
    · exact va_eqt (hs (.eq (.elem (.static "BlockClerks$Office" "MOST" "[I") (.int 0)) (.int 50)) (by decide +kernel))
    · exact va_eqt (hs (.eq (.elem (.static "BlockClerks$Office" "MOST" "[I") (.int 1)) (.int 1)) (by decide +kernel))
    · exact va_eqt (hs (.eq (.elem (.static "BlockClerks$Office" "MOST" "[I") (.int 2)) (.int 10)) (by decide +kernel))) hA
  have ZM := va_Zref (hts (.laysStatic "BlockClerks$Office" "MOST" "[I") (List.mem_of_getElem? (i := 380) (by decide +kernel))) (hts (.initialized "BlockClerks$Office") (List.mem_of_getElem? (i := 43) (by decide +kernel))) eM hA
  have Z3 := va_Zof (hts (.laysStatic "java/lang/String" "COMPACT_STRINGS" "Z") (List.mem_of_getElem? (i := 546) (by decide +kernel))) (hts (.initialized "java/lang/String") (List.mem_of_getElem? (i := 50) (by decide +kernel))) (va_eqi (hs (.eq (.static "java/lang/String" "COMPACT_STRINGS" "Z") (.int 1)) (by decide +kernel))) hA
  have Z4 := va_Zqof (hts (.laysStatic "jdk/internal/util/Preconditions" "SIOOBE_FORMATTER" "Ljava/util/function/BiFunction;") (List.mem_of_getElem? (i := 566) (by decide +kernel))) (hts (.initialized "jdk/internal/util/Preconditions") (List.mem_of_getElem? (i := 52) (by decide +kernel))) (hs (.isRef (.static "jdk/internal/util/Preconditions" "SIOOBE_FORMATTER" "Ljava/util/function/BiFunction;")) (by decide +kernel)) hA
  have q1 := List.all_eq_true.mp fS1
  have q2 := List.all_eq_true.mp fS2
  have q3 := List.all_eq_true.mp fS3
  obtain ⟨adK, adV, S1, S2⟩ := vk_Sof (tm := tmS) (len := lenS) (byt := bytS) (N := 11) lenS_lt
    (fun i hi => hs _ (by have := q1 i (List.mem_range.mpr hi); simp only [Bool.and_eq_true, decide_eq_true_eq] at this; exact this.1.1.1))
    (fun i hi => hs _ (by have := q1 i (List.mem_range.mpr hi); simp only [Bool.and_eq_true, decide_eq_true_eq] at this; exact this.1.1.2))
    (fun i hi => hs _ (by have := q1 i (List.mem_range.mpr hi); simp only [Bool.and_eq_true, decide_eq_true_eq] at this; exact this.1.2))
    (fun i hi => hs _ (by have := q1 i (List.mem_range.mpr hi); simp only [Bool.and_eq_true, decide_eq_true_eq] at this; exact this.2))
    (fun i hi j hj => hs _ (by have := List.all_eq_true.mp (q2 i (List.mem_range.mpr hi)) j (List.mem_range.mpr hj); exact of_decide_eq_true this))
    (fun i j hi hj hij => by
      have := List.all_eq_true.mp (q3 i (List.mem_range.mpr hi)) j (List.mem_range.mpr hj)
      simp only [Bool.or_eq_true, decide_eq_true_eq] at this
      rcases this with (h | h) | h
      · exact absurd h hij
      · exact Or.inl (hs _ h)
      · exact Or.inr (hs _ h)) hA
  refine ⟨tL, tM, adK, adV, ⟨⟨va_Nw.of rfl (hts (.methodLinkNest RX1 73 yX4_orNotFound "BlockClerks") (List.mem_of_getElem? (i := 389) (by decide +kernel))), va_Nw.of rfl (hts (.methodLinkNest RX2 151 yX4_orNotFound "BlockClerks") (List.mem_of_getElem? (i := 412) (by decide +kernel))), va_Nw.of rfl (hts (.methodLinkNest RX2 35 yX0_init "BlockClerks") (List.mem_of_getElem? (i := 107) (by decide +kernel))), va_Nw.of rfl (hts (.methodLinkNest RX4 29 yX3_init "BlockClerks") (List.mem_of_getElem? (i := 160) (by decide +kernel)))⟩, ⟨ZL, TL, ZM, TM, Z3, Z4⟩, S1, ?_⟩, va_AO.of (hts (.arrayOver (.object "BlockClerks$Clerk")) (List.mem_of_getElem? (i := 105) (by decide +kernel))), va_AO.of (hts (.arrayOver (.object "BlockClerks$Office")) (List.mem_of_getElem? (i := 157) (by decide +kernel)))⟩
  intro i q hq
  have hi : i < 11 := (List.getElem?_eq_some_iff.mp hq).1
  have e := S2 i hi
  rcases lt11 hi with rfl | rfl | rfl | rfl | rfl | rfl | rfl | rfl | rfl | rfl | rfl
  · cases hq; exact vk_R.of (hts (.stringRef "BlockClerks$Script" 31 "clerk ") (List.mem_of_getElem? (i := 532) (by decide +kernel))) e
  · cases hq; exact vk_R.of (hts (.stringRef "BlockClerks$Script" 41 "ask ") (List.mem_of_getElem? (i := 596) (by decide +kernel))) e
  · cases hq; exact vk_R.of (hts (.stringRef "BlockClerks$Script" 46 " ") (List.mem_of_getElem? (i := 605) (by decide +kernel))) e
  · cases hq; exact vk_R.of (hts (.stringRef "BlockClerks$Script" 48 "forget ") (List.mem_of_getElem? (i := 606) (by decide +kernel))) e
  · cases hq; exact vk_R.of (hts (.stringRef "BlockClerks$Script" 50 "back ") (List.mem_of_getElem? (i := 607) (by decide +kernel))) e
  · cases hq; exact vk_R.of (hts (.stringRef "BlockClerks$Script" 52 "void ") (List.mem_of_getElem? (i := 608) (by decide +kernel))) e
  · cases hq; exact vk_R.of (hts (.stringRef "BlockClerks$Script" 54 "close") (List.mem_of_getElem? (i := 609) (by decide +kernel))) e
  · cases hq; exact vk_R.of (hts (.stringRef "BlockClerks$Script" 56 ";") (List.mem_of_getElem? (i := 610) (by decide +kernel))) e
  · cases hq; exact vk_R.of (hts (.stringRef "BlockClerks$Script" 70 "careful") (List.mem_of_getElem? (i := 593) (by decide +kernel))) e
  · cases hq; exact vk_R.of (hts (.stringRef "BlockClerks$Script" 72 "lazy") (List.mem_of_getElem? (i := 594) (by decide +kernel))) e
  · cases hq; exact vk_R.of (hts (.stringRef "BlockClerks$Script" 74 "dreamy") (List.mem_of_getElem? (i := 595) (by decide +kernel))) e
set_option maxHeartbeats 4000000 in
set_option maxRecDepth 100000 in
theorem start_open {Inv : IV} {K : Nat} (hst : StAll Inv K) (hI0 : Inv 0 ow0 ow0 (fun _ => ow0) (fun i => i) 0 (-1) 0 (fun _ => 0) 0 0 (-1) (-1) (-1) (zsI 601) (fun _ => 0) (fun _ => 0) (fun _ => 0) 0 0 0 0 0 0 0) {p : Program} {e : Env} {s : State} {m : MethodId} {below : List Frame} {meth : Method} {c : Code} (l : Launch) {b L : Nat} {xs : Nat → Int32} (hL : L ≤ 2048) (C0 : lw_At p s m meth c b L xs) : W p l e room_1 s m #[Value.ref b] below meth c s.heap [] 0 0 (lw_Z below #[Value.ref b] s) (entryFrame m ([Value.ref b] : List Value).toArray 4) := by
  obtain ⟨hx, hb, hr, hml, hown, hts0, hX, hbl, hlocks, hgv⟩ := C0
  obtain ⟨tL, tM, adK, adV, hF⟩ := gF_start hgv hts0
  have hA : ∀ q : Nat, s.heap.size ≤ q → (fun q : Nat => s.heap.size ≤ q) q := fun _ h => h
  have hbA : ¬ (fun q : Nat => s.heap.size ≤ q) b := Nat.not_le.mpr hbl
  have hts : ∀ w ∈ wsL_law, w.before #[Value.ref b] s = true := fun w h => hts0 w (goodL w h).1
  replace hown : s.vm.findClass RL = some m.cls := hown
  replace hb : c.code = cL_law := hb
  obtain ⟨c0, j0, hKn0⟩ := u_known (C := RX0) (T := TX0) (N := 7) (n := 7) hts0 (fun w h => (in_f0 w h).1) (hts0 (.instantiable RX0 7) (List.mem_of_getElem? (i := 106) (by decide +kernel)))
  obtain ⟨c1, j1, hKn1⟩ := u_known (C := RX1) (T := TX1) (N := 8) (n := 8) hts0 (fun w h => (in_f1 w h).1) (hts0 (.instantiable RX1 8) (List.mem_of_getElem? (i := 69) (by decide +kernel)))
  obtain ⟨c2, j2, hKn2⟩ := u_known (C := RX2) (T := TX2) (N := 5) (n := 5) hts0 (fun w h => (in_f2 w h).1) (hts0 (.instantiable RX2 5) (List.mem_of_getElem? (i := 63) (by decide +kernel)))
  obtain ⟨c3, j3, hKn3⟩ := u_known (C := RX3) (T := TX3) (N := 6) (n := 6) hts0 (fun w h => (in_f3 w h).1) (hts0 (.instantiable RX3 6) (List.mem_of_getElem? (i := 159) (by decide +kernel)))
  obtain ⟨c4, j4, hKn4⟩ := u_known (C := RX4) (T := TX4) (N := 7) (n := 7) hts0 (fun w h => (in_f4 w h).1) (hts0 (.instantiable RX4 7) (List.mem_of_getElem? (i := 55) (by decide +kernel)))
  obtain ⟨c5, j5, hKn5⟩ := u_known (C := RX5) (T := TX5) (N := 11) (n := 11) hts0 (fun w h => (in_f5 w h).1) (hts0 (.instantiable RX5 11) (List.mem_of_getElem? (i := 624) (by decide +kernel)))
  obtain ⟨cI, kI, mI, i1, i2, i3⟩ := Cond.arrayClass_spec (hts0 (.arrayClass .int) (List.mem_of_getElem? (i := 103) (by decide +kernel)))
  obtain ⟨cC, kC, mC, j1_, j2_, j3_⟩ := Cond.arrayClass_spec (hts0 (.arrayClass .char) (List.mem_of_getElem? (i := 188) (by decide +kernel)))
  obtain ⟨mK, cK, kK, k1, -, k3, k4, k5⟩ := Cond.arrayOver_spec (n := "BlockClerks$Clerk") (hts0 (.arrayOver (.object "BlockClerks$Clerk")) (List.mem_of_getElem? (i := 105) (by decide +kernel)))
  obtain ⟨mO, cO, kO, o1, -, o3, o4, o5⟩ := Cond.arrayOver_spec (n := "BlockClerks$Office") (hts0 (.arrayOver (.object "BlockClerks$Office")) (List.mem_of_getElem? (i := 157) (by decide +kernel)))
  obtain ⟨D, hKc⟩ : ∃ D : va_G, ∀ (k : Nat) (q : vw_C), vwCl[k]? = some q → u_Kn s q.1 q.2.1 q.2.2 (D.1 k) (D.2 k) := by
    refine ⟨(fun k => if k = 0 then c0 else if k = 1 then c1 else if k = 2 then c2 else if k = 3 then c3 else if k = 4 then c4 else c5, fun k => if k = 0 then j0 else if k = 1 then j1 else if k = 2 then j2 else if k = 3 then j3 else if k = 4 then j4 else j5), ?_⟩
    intro k q hq
    match k, hq with
    | 0, hq => cases hq; exact hKn0
    | 1, hq => cases hq; exact hKn1
    | 2, hq => cases hq; exact hKn2
    | 3, hq => cases hq; exact hKn3
    | 4, hq => cases hq; exact hKn4
    | 5, hq => cases hq; exact hKn5
    | k + 6, hq => simp [vwCl] at hq
  have hK : va_K D vwCl (TY cI cC cK cO) s := by
    refine ⟨hKc, fun k q h => ?_⟩
    match k, h with
    | 0, h => cases h; exact ⟨fun n z => ⟨fun k h => (by cases h), kI, i2, mI, i3⟩, i1⟩
    | 1, h => cases h; exact ⟨fun n z => ⟨fun k h => (by cases h), kC, j2_, mC, j3_⟩, j1_⟩
    | 2, h => cases h; exact ⟨fun n z => ⟨fun k h => (by cases h), kK, k3, mK, k4⟩, kK, mK, k3, k4, k1, k5⟩
    | 3, h => cases h; exact ⟨fun n z => ⟨fun k h => (by cases h), kO, o3, mO, o4⟩, kO, mO, o3, o4, o1, o5⟩
    | k + 4, h => simp at h
  have hS : va_S (fun q : Nat => s.heap.size ≤ q) s.heap s.heap [] := va_S.rf
  have hP : va_P D vwCl [] s.heap := fun k q h => by simp at h
  have hD : va_D (fun q : Nat => s.heap.size ≤ q) [] := ⟨fun i j p q h => by simp at h, fun k q h => by simp at h⟩
  have hl := lv_entry ([.ref b]) (n := 4) (Nat.le_of_ble_eq_true rfl)
  rw [lg_entry_eq]
  generalize (lg_sl ([.ref b]) ++ List.replicate (4 - (lg_sl ([.ref b])).length) Slot.unset).toArray = ls at hl ⊢
  replace hl : lv_has ls 4 [(0, .ref b)] := hl
  refine va_new (ci := 4) (fs := [.null, .null, .null, .int 0, .null, .int 0, .int 0]) (C := RX4) (T := TX4) (N := 7) hx hb hts0 (fun w h => (in_f4 w h).1) tyX4 tyX4_ok hown (hts0 (.classLink RL 7 RX4) (List.mem_of_getElem? (i := 54) (by decide +kernel))) (hts0 (.instantiable RX4 7) (List.mem_of_getElem? (i := 55) (by decide +kernel))) (hts0 (.initialized RX4) (List.mem_of_getElem? (i := 42) (by decide +kernel))) hK hP hD hS hA rfl (fun j hj => by rcases (show j = 0 ∨ j = 1 ∨ j = 2 ∨ j = 3 ∨ j = 4 ∨ j = 5 ∨ j = 6 by omega) with rfl | rfl | rfl | rfl | rfl | rfl | rfl <;> rfl) (Nat.le_of_ble_eq_true rfl) (Nat.le_of_ble_eq_true rfl) dL_law_0 (fun q4 H hP hD hS => ?_)
  replace hP : va_P D vwCl [(q4, .inr (4, [.null, .null, .null, .int 0, .null, .int 0, .int 0]))] H := hP
  replace hD : va_D _ [(q4, .inr (4, [.null, .null, .null, .int 0, .null, .int 0, .int 0]))] := hD
  refine lv_dup hx hb dL_law_3 rfl ?_
  refine ck_C (rest := [.ref q4]) ⟨hx, hb, hml, hown, hts⟩ (gF_ok tL tM adK adV) (c_X4_init l D cI cC cK cO tL tM adK adV q4) (cwI 0 hts gL_law_X4_init rfl rfl rfl (hts0 (.initialized RX4) (List.mem_of_getElem? (i := 42) (by decide +kernel))) (hts0 (.methodLink RL 9 yX4_init) (List.mem_of_getElem? (i := 56) (by decide +kernel))) (hts0 (.instanceMethod yX4_init) (List.mem_of_getElem? (i := 57) (by decide +kernel))) rfl (by decide +kernel) ⟨Nat.le_of_ble_eq_true rfl, Nat.le_of_ble_eq_true rfl⟩) hK hP hD hS hA hF [0] [] (wr := []) rfl rfl rfl rfl (by decide) hl.1 (Nat.le_of_ble_eq_true rfl) dL_law_4 ⟨Nat.le_of_ble_eq_true rfl, Nat.le_of_ble_eq_true rfl⟩ (fun u H locs hw hPn hDn hS => ?_)
  obtain ⟨q, oO, oT, hh⟩ := u
  replace hw : q 0 = q4 := hw
  subst hw
  have hP : va_P D vwCl (wB cI cC cK cO q oO oT hh ow0 ow0 (fun _ => ow0) (fun i => i) 0 (-1) 0 (fun _ => 0) 0 0 (-1) (-1) (-1)) H := hPn
  have hD : va_D (fun q : Nat => s.heap.size ≤ q) (wB cI cC cK cO q oO oT hh ow0 ow0 (fun _ => ow0) (fun i => i) 0 (-1) 0 (fun _ => 0) 0 0 (-1) (-1) (-1)) := hDn
  refine lv_astore_n (lv' := [(1, .ref (q 0)), (0, .ref b)]) hx hb dL_law_7 rfl hl (by decide) rfl (fun ls hl => ?_)
  refine va_new (ci := 5) (fs := [.null, .null, .null, .null, .int 0, .int 0, .int 0, .int 0, .int 0, .int 0, .int 0]) (C := RX5) (T := TX5) (N := 11) hx hb hts0 (fun w h => (in_f5 w h).1) tyX5 tyX5_ok hown (hts0 (.classLink RL 10 RX5) (List.mem_of_getElem? (i := 623) (by decide +kernel))) (hts0 (.instantiable RX5 11) (List.mem_of_getElem? (i := 624) (by decide +kernel))) (hts0 (.initialized RX5) (List.mem_of_getElem? (i := 47) (by decide +kernel))) hK hP hD hS hA rfl (fun j hj => by rcases (show j = 0 ∨ j = 1 ∨ j = 2 ∨ j = 3 ∨ j = 4 ∨ j = 5 ∨ j = 6 ∨ j = 7 ∨ j = 8 ∨ j = 9 ∨ j = 10 by omega) with rfl | rfl | rfl | rfl | rfl | rfl | rfl | rfl | rfl | rfl | rfl <;> rfl) (Nat.le_of_ble_eq_true rfl) (Nat.le_of_ble_eq_true rfl) dL_law_8 (fun q5 H hP hD hS => ?_)
  replace hP : va_P D vwCl ((wB cI cC cK cO q oO oT hh ow0 ow0 (fun _ => ow0) (fun i => i) 0 (-1) 0 (fun _ => 0) 0 0 (-1) (-1) (-1)) ++ [(q5, .inr (5, [.null, .null, .null, .null, .int 0, .int 0, .int 0, .int 0, .int 0, .int 0, .int 0]))]) H := hP
  replace hD : va_D _ ((wB cI cC cK cO q oO oT hh ow0 ow0 (fun _ => ow0) (fun i => i) 0 (-1) 0 (fun _ => 0) 0 0 (-1) (-1) (-1)) ++ [(q5, .inr (5, [.null, .null, .null, .null, .int 0, .int 0, .int 0, .int 0, .int 0, .int 0, .int 0]))]) := hD
  refine lv_dup hx hb dL_law_11 rfl ?_
  refine ck_C (rest := [.ref q5]) ⟨hx, hb, hml, hown, hts⟩ E0_ok (c_X5_init l D cI cC cK cO q5) (cwI 0 hts gL_law_X5_init rfl rfl rfl (hts0 (.initialized RX5) (List.mem_of_getElem? (i := 47) (by decide +kernel))) (hts0 (.methodLink RL 12 yX5_init) (List.mem_of_getElem? (i := 625) (by decide +kernel))) (hts0 (.instanceMethod yX5_init) (List.mem_of_getElem? (i := 626) (by decide +kernel))) rfl (by decide +kernel) ⟨Nat.le_of_ble_eq_true rfl, Nat.le_of_ble_eq_true rfl⟩) hK hP hD hS hA trivial [100] (List.range 100) (wr := (wB cI cC cK cO q oO oT hh ow0 ow0 (fun _ => ow0) (fun i => i) 0 (-1) 0 (fun _ => 0) 0 0 (-1) (-1) (-1))) rfl rfl rfl rfl (by decide) hl.1 (Nat.le_of_ble_eq_true rfl) dL_law_12 ⟨Nat.le_of_ble_eq_true rfl, Nat.le_of_ble_eq_true rfl⟩ (fun u H locs hw hPn hDn hS => ?_)
  obtain ⟨a1, a2, a3, a4⟩ := u
  have hP : va_P D vwCl ((wB cI cC cK cO q oO oT hh ow0 ow0 (fun _ => ow0) (fun i => i) 0 (-1) 0 (fun _ => 0) 0 0 (-1) (-1) (-1)) ++ (wM cI q5 a1 a2 a3 a4 (zsI 601) (fun _ => 0) (fun _ => 0) (fun _ => 0) 0 0 0 0 0 0 0)) H := hPn
  have hD : va_D (fun q : Nat => s.heap.size ≤ q) ((wB cI cC cK cO q oO oT hh ow0 ow0 (fun _ => ow0) (fun i => i) 0 (-1) 0 (fun _ => 0) 0 0 (-1) (-1) (-1)) ++ (wM cI q5 a1 a2 a3 a4 (zsI 601) (fun _ => 0) (fun _ => 0) (fun _ => 0) 0 0 0 0 0 0 0)) := hDn
  refine lv_astore_n (lv' := [(2, .ref q5), (1, .ref (q 0)), (0, .ref b)]) hx hb dL_law_15 rfl hl (by decide) rfl (fun ls hl => ?_)
  refine lv_iconst (v := 0) hx hb dL_law_16 (by decide) ?_
  refine lv_istore_n (lv' := [(3, .int 0), (2, .ref q5), (1, .ref (q 0)), (0, .ref b)]) hx hb dL_law_17 rfl hl (by decide) rfl (fun ls hl => ?_)
  refine W.widen (k := 600000) (n := 7302250) (Nat.le_of_ble_eq_true rfl) (Nat.le_of_ble_eq_true rfl) ?_
  exact law_loop (K := K) hr hlocks (fun q h => h) hst hx hb hml hown hts hX hbl hbA hA hF.1 hK hL (L + 1) 0 (by omega) (by omega) ow0 ow0 (fun _ => ow0) (fun i => i) 0 (-1) 0 (fun _ => 0) 0 0 (-1) (-1) (-1) (zsI 601) (fun _ => 0) (fun _ => 0) (fun _ => 0) 0 0 0 0 0 0 0 hI0 _ _ _ hP hD hS (lv_sub hl [3, 2, 1, 0] rfl)
