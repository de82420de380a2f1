/-! laid by wip/whole/gen.py: walks of the text -/
set_option maxHeartbeats 4000000 in
set_option maxRecDepth 100000 in
theorem c_X3_append (l : Launch) (D : va_G) (cI cC cK cO : ClassId) (tL tM : Nat) (adK adV : Nat → Nat) (h : Nat) (g1 : Nat) (sc : Nat → Int32) (sl : Int32) (sp : Int32) (sv : Int32) (sf : Int32) (ss : Int32) (x1 : Int32) (R : Int32 × (Nat → Int32) × Int32) (hf : f_X3_append sc sl x1 = some R) : KI l D (TY cI cC cK cO) (gE tL tM adK adV) yX3_append wsX3_append 0 [.ref h, .int x1] (wS cC h g1 sc sl sp sv sf ss) (fun (r : Int32) (u : (Nat → Int32) × Int32) => (r, u) = R) (fun u => (wS cC h g1 (u.1) (u.2) sp sv sf ss)) := by
  refine KI.ofI (cc := cX3_append) (maxL := 2) (C := RX3) (by decide) rfl rfl (Nat.le_of_ble_eq_true rfl) ?_
  intro p e s m args below meth c A Q hx hb hml hts hown hP hK hD hA hE hS hret ls hl
  replace hl : lv_has ls 2 [(0, .ref h), (1, .int x1)] := hl
  have w15 := hts (.fieldLink RX3 15 "BlockClerks$Script" "length" "I") (by decide +kernel)
  have w9 := hts (.fieldLink RX3 9 "BlockClerks$Script" "signs" "[C") (by decide +kernel)
  have iX3 : ∀ w ∈ wsX30, w ∈ wsX3_append := by decide +kernel
  rw [f_X3_append] at hf
  refine lv_iload_n hx hb dX3_append_0 rfl (lv_at hl 1 rfl) ?_
  refine lv_bipush (v := 32) hx hb dX3_append_1 (by decide) ?_
  refine lv_icmp_lt (tgt := 12) hx hb dX3_append_3 (by decide) (fun c1 => ?_) (fun c1 => ?_)
  · replace hf := op_t c1 hf
    refine lv_iconst (v := (-1)) hx hb dX3_append_12 (by decide) ?_
    exact hret _ _ _ _ _ (sc, sl) dX3_append_13 (op_k hf) hP hS
  · replace hf := op_f c1 hf
    refine lv_iload_n hx hb dX3_append_6 rfl (lv_at hl 1 rfl) ?_
    refine lv_bipush (v := 126) hx hb dX3_append_7 (by decide) ?_
    refine lv_icmp_le (tgt := 14) hx hb dX3_append_9 (by decide) (fun c2 => ?_) (fun c2 => ?_)
    · replace hf := op_t c2 hf
      refine lv_aload_n hx hb dX3_append_14 rfl (lv_at hl 0 rfl) ?_
      refine va_get (D := D) (ci := 3) (v := .int sl) (C := RX3) (T := TX3) (N := 6) hx hb hts iX3 hown hK hP 0 rfl rfl 1 (by decide) w15 (fun _ h9 => h9) rfl dX3_append_15 ?_
      refine lv_if_lt (tgt := 33) hx hb dX3_append_18 (by decide) (fun c3 => ?_) (fun c3 => ?_)
      · replace hf := op_t c3 hf
        refine lv_bipush (v := (-3)) hx hb dX3_append_33 (by decide) ?_
        exact hret _ _ _ _ _ (sc, sl) dX3_append_35 (op_k hf) hP hS
      · replace hf := op_f c3 hf
        refine lv_aload_n hx hb dX3_append_21 rfl (lv_at hl 0 rfl) ?_
        refine va_get (D := D) (ci := 3) (v := .int sl) (C := RX3) (T := TX3) (N := 6) hx hb hts iX3 hown hK hP 0 rfl rfl 1 (by decide) w15 (fun _ h9 => h9) rfl dX3_append_22 ?_
        refine lv_aload_n hx hb dX3_append_25 rfl (lv_at hl 0 rfl) ?_
        refine va_get (D := D) (ci := 3) (v := .ref g1) (C := RX3) (T := TX3) (N := 6) hx hb hts iX3 hown hK hP 0 rfl rfl 0 (by decide) w9 (fun _ h9 => h9) rfl dX3_append_26 ?_
        refine va_alen (D := D) hx hb hK hP 1 1 rfl rfl (v := 80) rfl dX3_append_29 ?_
        refine lv_icmp_lt (tgt := 36) hx hb dX3_append_30 (by decide) (fun c4 => ?_) (fun c4 => ?_)
        · replace hf := op_t c4 hf
          refine lv_aload_n hx hb dX3_append_36 rfl (lv_at hl 0 rfl) ?_
          refine va_get (D := D) (ci := 3) (v := .ref g1) (C := RX3) (T := TX3) (N := 6) hx hb hts iX3 hown hK hP 0 rfl rfl 0 (by decide) w9 (fun _ h9 => h9) rfl dX3_append_37 ?_
          refine lv_aload_n hx hb dX3_append_40 rfl (lv_at hl 0 rfl) ?_
          refine va_get (D := D) (ci := 3) (v := .int sl) (C := RX3) (T := TX3) (N := 6) hx hb hts iX3 hown hK hP 0 rfl rfl 1 (by decide) w15 (fun _ h9 => h9) rfl dX3_append_41 ?_
          refine lv_iload_n hx hb dX3_append_44 rfl (lv_at hl 1 rfl) ?_
          refine lv_i2c hx hb dX3_append_45 (v := i2c x1) rfl ?_
          obtain ⟨q5, hf⟩ := op_x hf
          obtain ⟨y6, e7, hf⟩ := nb_o hf
          refine ck_cast (f' := y6) hx hb hK hP hD hS 1 1 rfl rfl q5 dX3_append_46 e7 (fun H locs hP hD hS => ?_)
          replace hP : va_P D vwCl (wS cC h g1 y6 sl sp sv sf ss) H := hP
          replace hD : va_D A (wS cC h g1 y6 sl sp sv sf ss) := hD
          refine lv_aload_n hx hb dX3_append_47 rfl (lv_at hl 0 rfl) ?_
          refine lv_dup hx hb dX3_append_48 rfl ?_
          refine va_get (D := D) (ci := 3) (v := .int sl) (C := RX3) (T := TX3) (N := 6) hx hb hts iX3 hown hK hP 0 rfl rfl 1 (by decide) w15 (fun _ h9 => h9) rfl dX3_append_49 ?_
          refine lv_iconst (v := 1) hx hb dX3_append_52 (by decide) ?_
          refine lv_iadd hx hb dX3_append_53 ?_
          refine va_put (D := D) (ci := 3) (v := .int (sl + 1)) (ty := .int) (C := RX3) (T := TX3) (N := 6) hx hb hts iX3 tyX3 tyX3_ok nmX3 hown hK hP hD hS 0 rfl rfl 1 (by decide) w15 (fun _ h9 => h9) rfl (by decide +kernel) rfl rfl (Nat.le_of_ble_eq_true rfl) dX3_append_54 (fun H locs hP hD hS => ?_)
          replace hP : va_P D vwCl (wS cC h g1 y6 (sl + 1) sp sv sf ss) H := hP
          replace hD : va_D A (wS cC h g1 y6 (sl + 1) sp sv sf ss) := hD
          refine lv_aload_n hx hb dX3_append_57 rfl (lv_at hl 0 rfl) ?_
          refine va_get (D := D) (ci := 3) (v := .int (sl + 1)) (C := RX3) (T := TX3) (N := 6) hx hb hts iX3 hown hK hP 0 rfl rfl 1 (by decide) w15 (fun _ h9 => h9) rfl dX3_append_58 ?_
          exact hret _ _ _ _ _ (y6, (sl + 1)) dX3_append_61 (op_k hf) hP hS
        · replace hf := op_f c4 hf
          refine lv_bipush (v := (-3)) hx hb dX3_append_33 (by decide) ?_
          exact hret _ _ _ _ _ (sc, sl) dX3_append_35 (op_k hf) hP hS
    · replace hf := op_f c2 hf
      refine lv_iconst (v := (-1)) hx hb dX3_append_12 (by decide) ?_
      exact hret _ _ _ _ _ (sc, sl) dX3_append_13 (op_k hf) hP hS
set_option maxHeartbeats 4000000 in
set_option maxRecDepth 100000 in
theorem c_X3_rewind (l : Launch) (D : va_G) (cI cC cK cO : ClassId) (tL tM : Nat) (adK adV : Nat → Nat) (h : Nat) (g1 : Nat) (sc : Nat → Int32) (sl : Int32) (sp : Int32) (sv : Int32) (sf : Int32) (ss : Int32) (R : Int32) (hf : f_X3_rewind = some R) : KV l D (TY cI cC cK cO) (gE tL tM adK adV) yX3_rewind wsX3_rewind 0 [.ref h] (wS cC h g1 sc sl sp sv sf ss) (fun (u : Int32) => u = R) (fun u => (wS cC h g1 sc sl u sv sf ss)) := by
  refine KV.of (cc := cX3_rewind) (maxL := 1) (C := RX3) (by decide) rfl rfl (Nat.le_of_ble_eq_true rfl) ?_
  intro p e s m args below meth c A Q hx hb hml hts hown hP hK hD hA hE hS hret ls hl
  replace hl : lv_has ls 1 [(0, .ref h)] := hl
  have w19 := hts (.fieldLink RX3 19 "BlockClerks$Script" "at" "I") (by decide +kernel)
  have iX3 : ∀ w ∈ wsX30, w ∈ wsX3_rewind := by decide +kernel
  rw [f_X3_rewind] at hf
  refine lv_aload_n hx hb dX3_rewind_0 rfl (lv_at hl 0 rfl) ?_
  refine lv_iconst (v := 0) hx hb dX3_rewind_1 (by decide) ?_
  refine va_put (D := D) (ci := 3) (v := .int 0) (ty := .int) (C := RX3) (T := TX3) (N := 6) hx hb hts iX3 tyX3 tyX3_ok nmX3 hown hK hP hD hS 0 rfl rfl 2 (by decide) w19 (fun _ h9 => h9) rfl (by decide +kernel) rfl rfl (Nat.le_of_ble_eq_true rfl) dX3_rewind_2 (fun H locs hP hD hS => ?_)
  replace hP : va_P D vwCl (wS cC h g1 sc sl 0 sv sf ss) H := hP
  replace hD : va_D A (wS cC h g1 sc sl 0 sv sf ss) := hD
  exact hret _ _ _ _ (0) dX3_rewind_5 (op_k hf) hP hS
set_option maxHeartbeats 4000000 in
set_option maxRecDepth 100000 in
theorem c_X3_signAt (l : Launch) (D : va_G) (cI cC cK cO : ClassId) (tL tM : Nat) (adK adV : Nat → Nat) (h : Nat) (g1 : Nat) (sc : Nat → Int32) (sl : Int32) (sp : Int32) (sv : Int32) (sf : Int32) (ss : Int32) (x1 : Int32) (R : Int32) (hf : f_X3_signAt sc sl x1 = some R) : KI l D (TY cI cC cK cO) (gE tL tM adK adV) yX3_signAt wsX3_signAt 0 [.ref h, .int x1] (wS cC h g1 sc sl sp sv sf ss) (fun (r : Int32) (u : Unit) => r = R) (fun u => (wS cC h g1 sc sl sp sv sf ss)) := by
  refine KI.ofI (cc := cX3_signAt) (maxL := 2) (C := RX3) (by decide) rfl rfl (Nat.le_of_ble_eq_true rfl) ?_
  intro p e s m args below meth c A Q hx hb hml hts hown hP hK hD hA hE hS hret ls hl
  replace hl : lv_has ls 2 [(0, .ref h), (1, .int x1)] := hl
  have w15 := hts (.fieldLink RX3 15 "BlockClerks$Script" "length" "I") (by decide +kernel)
  have w9 := hts (.fieldLink RX3 9 "BlockClerks$Script" "signs" "[C") (by decide +kernel)
  have iX3 : ∀ w ∈ wsX30, w ∈ wsX3_signAt := by decide +kernel
  rw [f_X3_signAt] at hf
  refine lv_iload_n hx hb dX3_signAt_0 rfl (lv_at hl 1 rfl) ?_
  refine lv_if_lt (tgt := 30) hx hb dX3_signAt_1 (by decide) (fun c1 => ?_) (fun c1 => ?_)
  · replace hf := op_t c1 hf
    refine lv_iconst (v := (-1)) hx hb dX3_signAt_30 (by decide) ?_
    exact hret _ _ _ _ _ () dX3_signAt_31 (op_k hf) hP hS
  · replace hf := op_f c1 hf
    refine lv_iload_n hx hb dX3_signAt_4 rfl (lv_at hl 1 rfl) ?_
    refine lv_aload_n hx hb dX3_signAt_5 rfl (lv_at hl 0 rfl) ?_
    refine va_get (D := D) (ci := 3) (v := .int sl) (C := RX3) (T := TX3) (N := 6) hx hb hts iX3 hown hK hP 0 rfl rfl 1 (by decide) w15 (fun _ h9 => h9) rfl dX3_signAt_6 ?_
    refine lv_icmp_ge (tgt := 30) hx hb dX3_signAt_9 (by decide) (fun c2 => ?_) (fun c2 => ?_)
    · replace hf := op_t c2 hf
      refine lv_iconst (v := (-1)) hx hb dX3_signAt_30 (by decide) ?_
      exact hret _ _ _ _ _ () dX3_signAt_31 (op_k hf) hP hS
    · replace hf := op_f c2 hf
      refine lv_iload_n hx hb dX3_signAt_12 rfl (lv_at hl 1 rfl) ?_
      refine lv_aload_n hx hb dX3_signAt_13 rfl (lv_at hl 0 rfl) ?_
      refine va_get (D := D) (ci := 3) (v := .ref g1) (C := RX3) (T := TX3) (N := 6) hx hb hts iX3 hown hK hP 0 rfl rfl 0 (by decide) w9 (fun _ h9 => h9) rfl dX3_signAt_14 ?_
      refine va_alen (D := D) hx hb hK hP 1 1 rfl rfl (v := 80) rfl dX3_signAt_17 ?_
      refine lv_icmp_ge (tgt := 30) hx hb dX3_signAt_18 (by decide) (fun c3 => ?_) (fun c3 => ?_)
      · replace hf := op_t c3 hf
        refine lv_iconst (v := (-1)) hx hb dX3_signAt_30 (by decide) ?_
        exact hret _ _ _ _ _ () dX3_signAt_31 (op_k hf) hP hS
      · replace hf := op_f c3 hf
        refine lv_aload_n hx hb dX3_signAt_21 rfl (lv_at hl 0 rfl) ?_
        refine va_get (D := D) (ci := 3) (v := .ref g1) (C := RX3) (T := TX3) (N := 6) hx hb hts iX3 hown hK hP 0 rfl rfl 0 (by decide) w9 (fun _ h9 => h9) rfl dX3_signAt_22 ?_
        refine lv_iload_n hx hb dX3_signAt_25 rfl (lv_at hl 1 rfl) ?_
        obtain ⟨q4, hf⟩ := op_x hf
        refine ck_cald (j := (x1).toNatClampNeg) hx hb hK hP 1 1 rfl rfl q4 rfl dX3_signAt_26 ?_
        refine lv_goto (tgt := 31) hx hb dX3_signAt_27 (by decide) ?_
        exact hret _ _ _ _ _ () dX3_signAt_31 (op_k hf) hP hS
set_option maxHeartbeats 4000000 in
set_option maxRecDepth 100000 in
theorem c_X3_takeWord (l : Launch) (D : va_G) (cI cC cK cO : ClassId) (tL tM : Nat) (adK adV : Nat → Nat) (h : Nat) (g1 : Nat) (sc : Nat → Int32) (sl : Int32) (sp : Int32) (sv : Int32) (sf : Int32) (ss : Int32) (k1 : Nat) (hk1 : k1 < 11) (K : Nat) (R : Int32 × Int32) (hf : f_X3_takeWord K sc sl sp k1 = some R) : KI l D (TY cI cC cK cO) (gE tL tM adK adV) yX3_takeWord wsX3_takeWord 4 [.ref h, .ref (adK k1)] (wS cC h g1 sc sl sp sv sf ss) (fun (r : Int32) (u : Int32) => (r, u) = R ∧ (r = 0 ∨ r = 1)) (fun u => (wS cC h g1 sc sl u sv sf ss)) := by
  refine KI.ofZ (cc := cX3_takeWord) (maxL := 3) (C := RX3) (by decide) rfl rfl (Nat.le_of_ble_eq_true rfl) (fun _ _ h => h.2) ?_
  intro p e s m args below meth c A Q hx hb hml hts hown hP hK hD hA hE hS hret ls hl
  replace hl : lv_has ls 3 [(0, .ref h), (1, .ref (adK k1))] := hl
  have w19 := hts (.fieldLink RX3 19 "BlockClerks$Script" "at" "I") (by decide +kernel)
  have iX3 : ∀ w ∈ wsX30, w ∈ wsX3_takeWord := by decide +kernel
  have L_2 : ∀ (n : Nat) (sp : Int32) (x2 : Int32) (hf : f_X3_takeWord_2 k1 sc sl sp n x2 = some R) (H : Heap) (locs : List Loc) (ls : Array Slot), va_P D vwCl (wS cC h g1 sc sl sp sv sf ss) H → va_D A (wS cC h g1 sc sl sp sv sf ss) → va_S A s.heap H locs → lv_has ls 3 [(0, .ref h), (2, .int x2), (1, .ref (adK k1))] → W p l e (rm 4) s m args below meth c H locs 0 0 Q (F0 m 2 ls []) := by
    intro n
    induction n with
    | zero =>
      intro sp x2 hf
      cases hf
    | succ n ih =>
      intro sp x2 hf H locs ls hP hD hS hl
      rw [f_X3_takeWord_2] at hf
      refine lv_iload_n hx hb dX3_takeWord_2 rfl (lv_at hl 1 rfl) ?_
      refine lv_aload_n hx hb dX3_takeWord_3 rfl (lv_at hl 2 rfl) ?_
      refine ck_TI (st := [.ref (adK k1), .int x2]) (rest := [.int x2]) (As := []) (C := RJ0) ⟨hx, hb, hml, hown, hts⟩ (gE_ok tL tM adK adV) (c_J0_length l D cI cC cK cO tL tM adK adV k1 hk1) (cwV 0 hts gX3_takeWord_J0_length_8abf5 rfl rfl rfl (by decide +kernel) ⟨Nat.le_of_ble_eq_true rfl, Nat.le_of_ble_eq_true rfl⟩) hK hP hD hS hA hE (vk_recv hE.2.2.1 hk1 hS) rfl hl.1 rfl (Nat.le_of_ble_eq_true rfl) dX3_takeWord_4 ⟨Nat.zero_le _, Nat.zero_le _⟩ (fun r H locs hw hP hS => ?_)
      cases hw
      refine lv_icmp_ge (tgt := 36) hx hb dX3_takeWord_7 (by decide) (fun c1 => ?_) (fun c1 => ?_)
      · replace hf := op_t c1 hf
        refine lv_aload_n hx hb dX3_takeWord_36 rfl (lv_at hl 0 rfl) ?_
        refine lv_dup hx hb dX3_takeWord_37 rfl ?_
        refine va_get (D := D) (ci := 3) (v := .int sp) (C := RX3) (T := TX3) (N := 6) hx hb hts iX3 hown hK hP 0 rfl rfl 2 (by decide) w19 (fun _ h9 => h9) rfl dX3_takeWord_38 ?_
        refine lv_aload_n hx hb dX3_takeWord_41 rfl (lv_at hl 2 rfl) ?_
        refine ck_TI (st := [.ref (adK k1), .int sp, .ref h]) (rest := [.int sp, .ref h]) (As := []) (C := RJ0) ⟨hx, hb, hml, hown, hts⟩ (gE_ok tL tM adK adV) (c_J0_length l D cI cC cK cO tL tM adK adV k1 hk1) (cwV 0 hts gX3_takeWord_J0_length_8abf5 rfl rfl rfl (by decide +kernel) ⟨Nat.le_of_ble_eq_true rfl, Nat.le_of_ble_eq_true rfl⟩) hK hP hD hS hA hE (vk_recv hE.2.2.1 hk1 hS) rfl hl.1 rfl (Nat.le_of_ble_eq_true rfl) dX3_takeWord_42 ⟨Nat.zero_le _, Nat.zero_le _⟩ (fun r H locs hw hP hS => ?_)
        cases hw
        refine lv_iadd hx hb dX3_takeWord_45 ?_
        refine va_put (D := D) (ci := 3) (v := .int (sp + (slen k1))) (ty := .int) (C := RX3) (T := TX3) (N := 6) hx hb hts iX3 tyX3 tyX3_ok nmX3 hown hK hP hD hS 0 rfl rfl 2 (by decide) w19 (fun _ h9 => h9) rfl (by decide +kernel) rfl rfl (Nat.le_of_ble_eq_true rfl) dX3_takeWord_46 (fun H locs hP hD hS => ?_)
        replace hP : va_P D vwCl (wS cC h g1 sc sl (sp + (slen k1)) sv sf ss) H := hP
        replace hD : va_D A (wS cC h g1 sc sl (sp + (slen k1)) sv sf ss) := hD
        refine lv_iconst (v := 1) hx hb dX3_takeWord_49 (by decide) ?_
        exact hret _ _ _ _ _ ((sp + (slen k1))) dX3_takeWord_50 ⟨(op_k hf), (Or.inr rfl)⟩ hP hS
      · replace hf := op_f c1 hf
        refine lv_aload_n hx hb dX3_takeWord_10 rfl (lv_at hl 0 rfl) ?_
        refine lv_aload_n hx hb dX3_takeWord_11 rfl (lv_at hl 0 rfl) ?_
        refine va_get (D := D) (ci := 3) (v := .int sp) (C := RX3) (T := TX3) (N := 6) hx hb hts iX3 hown hK hP 0 rfl rfl 2 (by decide) w19 (fun _ h9 => h9) rfl dX3_takeWord_12 ?_
        refine lv_iload_n hx hb dX3_takeWord_15 rfl (lv_at hl 1 rfl) ?_
        refine lv_iadd hx hb dX3_takeWord_16 ?_
        obtain ⟨r2, h3, hf⟩ := op_b hf
        refine ck_VI (st := [.int (sp + x2), .ref h]) (rest := []) (As := [.int (sp + x2)]) (C := RX3) (ci := 3) ⟨hx, hb, hml, hown, hts⟩ (gE_ok tL tM adK adV) (c_X3_signAt l D cI cC cK cO tL tM adK adV h g1 sc sl sp sv sf ss (sp + x2) _ h3) (cwV 1 hts gX3_takeWord_X3_signAt rfl rfl rfl hv_X3_signAt ⟨Nat.le_of_ble_eq_true rfl, Nat.le_of_ble_eq_true rfl⟩) hK hP hD hS hA hE [0, 1] rfl rfl rfl rfl rfl (fun _ => rfl) rfl hl.1 rfl (Nat.le_of_ble_eq_true rfl) dX3_takeWord_17 ⟨Nat.zero_le _, Nat.zero_le _⟩ (fun r u H locs hw hP hD hS => ?_)
        cases hw
        replace hP : va_P D vwCl (wS cC h g1 sc sl sp sv sf ss) H := hP
        replace hD : va_D A (wS cC h g1 sc sl sp sv sf ss) := hD
        refine lv_aload_n hx hb dX3_takeWord_20 rfl (lv_at hl 2 rfl) ?_
        refine lv_iload_n hx hb dX3_takeWord_21 rfl (lv_at hl 1 rfl) ?_
        obtain ⟨q5, hf⟩ := op_x hf
        refine ck_TI (st := [.int x2, .ref (adK k1), .int r2]) (rest := [.int r2]) (As := [.int x2]) (C := RJ0) ⟨hx, hb, hml, hown, hts⟩ (gE_ok tL tM adK adV) (c_J0_charAtI l D cI cC cK cO tL tM adK adV k1 hk1 x2 q5) (cwV 1 hts gX3_takeWord_J0_charAt_5068e rfl rfl rfl (by decide +kernel) ⟨Nat.le_of_ble_eq_true rfl, Nat.le_of_ble_eq_true rfl⟩) hK hP hD hS hA hE (vk_recv hE.2.2.1 hk1 hS) rfl hl.1 rfl (Nat.le_of_ble_eq_true rfl) dX3_takeWord_22 ⟨Nat.zero_le _, Nat.zero_le _⟩ (fun r H locs hw hP hS => ?_)
        cases hw
        refine lv_icmp_eq (tgt := 30) hx hb dX3_takeWord_25 (by decide) (fun c6 => ?_) (fun c6 => ?_)
        · replace hf := op_t c6 hf
          refine lv_iinc (v := (x2 + 1)) (lv' := [(2, .int (x2 + 1)), (0, .ref h), (1, .ref (adK k1))]) hx hb dX3_takeWord_30 hl (k := 1) rfl rfl (by decide) rfl (fun ls hl => ?_)
          refine lv_goto (tgt := 2) hx hb dX3_takeWord_33 (by decide) ?_
          exact ih sp (x2 + 1) hf _ _ _ hP hD hS (lv_sub hl [1, 0, 2] rfl)
        · replace hf := op_f c6 hf
          refine lv_iconst (v := 0) hx hb dX3_takeWord_28 (by decide) ?_
          exact hret _ _ _ _ _ (sp) dX3_takeWord_29 ⟨(op_k hf), (Or.inl rfl)⟩ hP hS
  rw [f_X3_takeWord] at hf
  refine lv_iconst (v := 0) hx hb dX3_takeWord_0 (by decide) ?_
  refine lv_istore_n (lv' := [(2, .int 0), (0, .ref h), (1, .ref (adK k1))]) hx hb dX3_takeWord_1 rfl hl (by decide) rfl (fun ls hl => ?_)
  exact L_2 K sp 0 hf _ _ _ hP hD hS (lv_sub hl [1, 0, 2] rfl)
set_option maxHeartbeats 4000000 in
set_option maxRecDepth 100000 in
theorem c_X3_takeKind (l : Launch) (D : va_G) (cI cC cK cO : ClassId) (tL tM : Nat) (adK adV : Nat → Nat) (h : Nat) (g1 : Nat) (sc : Nat → Int32) (sl : Int32) (sp : Int32) (sv : Int32) (sf : Int32) (ss : Int32) (K : Nat) (R : Int32 × Int32) (hf : f_X3_takeKind K sc sl sp = some R) : KI l D (TY cI cC cK cO) (gE tL tM adK adV) yX3_takeKind wsX3_takeKind 5 [.ref h] (wS cC h g1 sc sl sp sv sf ss) (fun (r : Int32) (u : Int32) => (r, u) = R) (fun u => (wS cC h g1 sc sl u sv sf ss)) := by
  refine KI.ofI (cc := cX3_takeKind) (maxL := 1) (C := RX3) (by decide) rfl rfl (Nat.le_of_ble_eq_true rfl) ?_
  intro p e s m args below meth c A Q hx hb hml hts hown hP hK hD hA hE hS hret ls hl
  replace hl : lv_has ls 1 [(0, .ref h)] := hl
  rw [f_X3_takeKind] at hf
  refine lv_aload_n hx hb dX3_takeKind_0 rfl (lv_at hl 0 rfl) ?_
  refine va_ldcS hx hb hown (hE.2.2.2 8 (70, "careful") rfl) dX3_takeKind_1 ?_
  obtain ⟨⟨r1, y2⟩, h3, hf⟩ := op_b hf
  refine ck_VI (st := [.ref (adK 8), .ref h]) (rest := []) (As := [.ref (adK 8)]) (C := RX3) (ci := 3) ⟨hx, hb, hml, hown, hts⟩ (gE_ok tL tM adK adV) (c_X3_takeWord l D cI cC cK cO tL tM adK adV h g1 sc sl sp sv sf ss 8 (by decide) K _ h3) (cwV 1 hts gX3_takeKind_X3_takeWord rfl rfl rfl hv_X3_takeWord ⟨Nat.le_of_ble_eq_true rfl, Nat.le_of_ble_eq_true rfl⟩) hK hP hD hS hA hE [0, 1] rfl rfl rfl rfl rfl (fun _ => rfl) rfl hl.1 rfl (Nat.le_of_ble_eq_true rfl) dX3_takeKind_3 ⟨Nat.zero_le _, Nat.zero_le _⟩ (fun r u H locs hw hP hD hS => ?_)
  obtain ⟨hw, z4⟩ := hw
  cases hw
  replace hP : va_P D vwCl (wS cC h g1 sc sl y2 sv sf ss) H := hP
  replace hD : va_D A (wS cC h g1 sc sl y2 sv sf ss) := hD
  refine lv_if_eq (tgt := 11) hx hb dX3_takeKind_6 (by decide) (fun c5 => ?_) (fun c5 => ?_)
  · replace hf := op_t c5 hf
    refine lv_aload_n hx hb dX3_takeKind_11 rfl (lv_at hl 0 rfl) ?_
    refine va_ldcS hx hb hown (hE.2.2.2 9 (72, "lazy") rfl) dX3_takeKind_12 ?_
    obtain ⟨⟨r6, y7⟩, h8, hf⟩ := op_b hf
    refine ck_VI (st := [.ref (adK 9), .ref h]) (rest := []) (As := [.ref (adK 9)]) (C := RX3) (ci := 3) ⟨hx, hb, hml, hown, hts⟩ (gE_ok tL tM adK adV) (c_X3_takeWord l D cI cC cK cO tL tM adK adV h g1 sc sl y2 sv sf ss 9 (by decide) K _ h8) (cwV 1 hts gX3_takeKind_X3_takeWord rfl rfl rfl hv_X3_takeWord ⟨Nat.le_of_ble_eq_true rfl, Nat.le_of_ble_eq_true rfl⟩) hK hP hD hS hA hE [0, 1] rfl rfl rfl rfl rfl (fun _ => rfl) rfl hl.1 rfl (Nat.le_of_ble_eq_true rfl) dX3_takeKind_14 ⟨Nat.zero_le _, Nat.zero_le _⟩ (fun r u H locs hw hP hD hS => ?_)
    obtain ⟨hw, z9⟩ := hw
    cases hw
    replace hP : va_P D vwCl (wS cC h g1 sc sl y7 sv sf ss) H := hP
    replace hD : va_D A (wS cC h g1 sc sl y7 sv sf ss) := hD
    refine lv_if_eq (tgt := 22) hx hb dX3_takeKind_17 (by decide) (fun c10 => ?_) (fun c10 => ?_)
    · replace hf := op_t c10 hf
      refine lv_aload_n hx hb dX3_takeKind_22 rfl (lv_at hl 0 rfl) ?_
      refine va_ldcS hx hb hown (hE.2.2.2 10 (74, "dreamy") rfl) dX3_takeKind_23 ?_
      obtain ⟨⟨r11, y12⟩, h13, hf⟩ := op_b hf
      refine ck_VI (st := [.ref (adK 10), .ref h]) (rest := []) (As := [.ref (adK 10)]) (C := RX3) (ci := 3) ⟨hx, hb, hml, hown, hts⟩ (gE_ok tL tM adK adV) (c_X3_takeWord l D cI cC cK cO tL tM adK adV h g1 sc sl y7 sv sf ss 10 (by decide) K _ h13) (cwV 1 hts gX3_takeKind_X3_takeWord rfl rfl rfl hv_X3_takeWord ⟨Nat.le_of_ble_eq_true rfl, Nat.le_of_ble_eq_true rfl⟩) hK hP hD hS hA hE [0, 1] rfl rfl rfl rfl rfl (fun _ => rfl) rfl hl.1 rfl (Nat.le_of_ble_eq_true rfl) dX3_takeKind_25 ⟨Nat.zero_le _, Nat.zero_le _⟩ (fun r u H locs hw hP hD hS => ?_)
      obtain ⟨hw, z14⟩ := hw
      cases hw
      replace hP : va_P D vwCl (wS cC h g1 sc sl y12 sv sf ss) H := hP
      replace hD : va_D A (wS cC h g1 sc sl y12 sv sf ss) := hD
      refine lv_if_eq (tgt := 35) hx hb dX3_takeKind_28 (by decide) (fun c15 => ?_) (fun c15 => ?_)
      · replace hf := op_t c15 hf
        refine lv_iconst (v := (-1)) hx hb dX3_takeKind_35 (by decide) ?_
        exact hret _ _ _ _ _ (y12) dX3_takeKind_36 (op_k hf) hP hS
      · replace hf := op_f c15 hf
        refine lv_iconst (v := 2) hx hb dX3_takeKind_31 (by decide) ?_
        refine lv_goto (tgt := 36) hx hb dX3_takeKind_32 (by decide) ?_
        exact hret _ _ _ _ _ (y12) dX3_takeKind_36 (op_k hf) hP hS
    · replace hf := op_f c10 hf
      refine lv_iconst (v := 1) hx hb dX3_takeKind_20 (by decide) ?_
      exact hret _ _ _ _ _ (y7) dX3_takeKind_21 (op_k hf) hP hS
  · replace hf := op_f c5 hf
    refine lv_iconst (v := 0) hx hb dX3_takeKind_9 (by decide) ?_
    exact hret _ _ _ _ _ (y2) dX3_takeKind_10 (op_k hf) hP hS
set_option maxHeartbeats 4000000 in
set_option maxRecDepth 100000 in
theorem c_X3_isDigit (l : Launch) (D : va_G) (cI cC cK cO : ClassId) (tL tM : Nat) (adK adV : Nat → Nat) (x0 : Int32) (R : Int32) (hf : f_X3_isDigit x0 = R) : KI l D (TY cI cC cK cO) (gE tL tM adK adV) yX3_isDigit wsX3_isDigit 0 [.int x0] [] (fun (r : Int32) (u : Unit) => r = R ∧ (r = 0 ∨ r = 1)) (fun u => []) := by
  refine KI.ofZ (cc := cX3_isDigit) (maxL := 1) (C := RX3) (by decide) rfl rfl (Nat.le_of_ble_eq_true rfl) (fun _ _ h => h.2) ?_
  intro p e s m args below meth c A Q hx hb hml hts hown hP hK hD hA hE hS hret ls hl
  replace hl : lv_has ls 1 [(0, .int x0)] := hl
  rw [f_X3_isDigit] at hf
  refine lv_iload_n hx hb dX3_isDigit_0 rfl (lv_at hl 0 rfl) ?_
  refine lv_bipush (v := 48) hx hb dX3_isDigit_1 (by decide) ?_
  refine lv_icmp_lt (tgt := 16) hx hb dX3_isDigit_3 (by decide) (fun c1 => ?_) (fun c1 => ?_)
  · replace hf := op_t c1 hf
    refine lv_iconst (v := 0) hx hb dX3_isDigit_16 (by decide) ?_
    exact hret _ _ _ _ _ () dX3_isDigit_17 ⟨hf, (Or.inl rfl)⟩ hP hS
  · replace hf := op_f c1 hf
    refine lv_iload_n hx hb dX3_isDigit_6 rfl (lv_at hl 0 rfl) ?_
    refine lv_bipush (v := 57) hx hb dX3_isDigit_7 (by decide) ?_
    refine lv_icmp_gt (tgt := 16) hx hb dX3_isDigit_9 (by decide) (fun c2 => ?_) (fun c2 => ?_)
    · replace hf := op_t c2 hf
      refine lv_iconst (v := 0) hx hb dX3_isDigit_16 (by decide) ?_
      exact hret _ _ _ _ _ () dX3_isDigit_17 ⟨hf, (Or.inl rfl)⟩ hP hS
    · replace hf := op_f c2 hf
      refine lv_iconst (v := 1) hx hb dX3_isDigit_12 (by decide) ?_
      refine lv_goto (tgt := 17) hx hb dX3_isDigit_13 (by decide) ?_
      exact hret _ _ _ _ _ () dX3_isDigit_17 ⟨hf, (Or.inr rfl)⟩ hP hS
set_option maxHeartbeats 4000000 in
set_option maxRecDepth 100000 in
theorem c_X3_takeNumber (l : Launch) (D : va_G) (cI cC cK cO : ClassId) (tL tM : Nat) (adK adV : Nat → Nat) (h : Nat) (g1 : Nat) (sc : Nat → Int32) (sl : Int32) (sp : Int32) (sv : Int32) (sf : Int32) (ss : Int32) (K : Nat) (R : Int32 × Int32) (hf : f_X3_takeNumber K sc sl sp = some R) : KI l D (TY cI cC cK cO) (gE tL tM adK adV) yX3_takeNumber wsX3_takeNumber 1 [.ref h] (wS cC h g1 sc sl sp sv sf ss) (fun (r : Int32) (u : Int32) => (r, u) = R) (fun u => (wS cC h g1 sc sl u sv sf ss)) := by
  refine KI.ofI (cc := cX3_takeNumber) (maxL := 3) (C := RX3) (by decide) rfl rfl (Nat.le_of_ble_eq_true rfl) ?_
  intro p e s m args below meth c A Q hx hb hml hts hown hP hK hD hA hE hS hret ls hl
  replace hl : lv_has ls 3 [(0, .ref h)] := hl
  have m80 := hts (.methodLink RX3 80 Lib.Math.max.name) (by decide +kernel)
  have mc_max := hts (.code Lib.Math.max.name Lib.Math.max.code 2 (some .int)) (by decide +kernel)
  have mi := hts (.initialized "java/lang/Math") (by decide +kernel)
  have ms_max := hts (.static Lib.Math.max.name) (by decide +kernel)
  have w19 := hts (.fieldLink RX3 19 "BlockClerks$Script" "at" "I") (by decide +kernel)
  have iX3 : ∀ w ∈ wsX30, w ∈ wsX3_takeNumber := by decide +kernel
  have L_4 : ∀ (n : Nat) (sp : Int32) (x1 : Int32) (x2 : Int32) (hf : f_X3_takeNumber_4 sc sl n x1 x2 sp = some R) (H : Heap) (locs : List Loc) (ls : Array Slot), va_P D vwCl (wS cC h g1 sc sl sp sv sf ss) H → va_D A (wS cC h g1 sc sl sp sv sf ss) → va_S A s.heap H locs → lv_has ls 3 [(0, .ref h), (1, .int x1), (2, .int x2)] → W p l e (rm 1) s m args below meth c H locs 0 0 Q (F0 m 4 ls []) := by
    intro n
    induction n with
    | zero =>
      intro sp x1 x2 hf
      cases hf
    | succ n ih =>
      intro sp x1 x2 hf H locs ls hP hD hS hl
      rw [f_X3_takeNumber_4] at hf
      refine lv_iload_n hx hb dX3_takeNumber_4 rfl (lv_at hl 2 rfl) ?_
      refine lv_iconst (v := 3) hx hb dX3_takeNumber_5 (by decide) ?_
      refine lv_icmp_ge (tgt := 60) hx hb dX3_takeNumber_6 (by decide) (fun c1 => ?_) (fun c1 => ?_)
      · replace hf := op_t c1 hf
        refine lv_iload_n hx hb dX3_takeNumber_60 rfl (lv_at hl 1 rfl) ?_
        exact hret _ _ _ _ _ (sp) dX3_takeNumber_61 (op_k hf) hP hS
      · replace hf := op_f c1 hf
        refine lv_aload_n hx hb dX3_takeNumber_9 rfl (lv_at hl 0 rfl) ?_
        refine lv_aload_n hx hb dX3_takeNumber_10 rfl (lv_at hl 0 rfl) ?_
        refine va_get (D := D) (ci := 3) (v := .int sp) (C := RX3) (T := TX3) (N := 6) hx hb hts iX3 hown hK hP 0 rfl rfl 2 (by decide) w19 (fun _ h9 => h9) rfl dX3_takeNumber_11 ?_
        obtain ⟨r2, h3, hf⟩ := op_b hf
        refine ck_VI (st := [.int sp, .ref h]) (rest := []) (As := [.int sp]) (C := RX3) (ci := 3) ⟨hx, hb, hml, hown, hts⟩ (gE_ok tL tM adK adV) (c_X3_signAt l D cI cC cK cO tL tM adK adV h g1 sc sl sp sv sf ss sp _ h3) (cwV 1 hts gX3_takeNumber_X3_signAt rfl rfl rfl hv_X3_signAt ⟨Nat.le_of_ble_eq_true rfl, Nat.le_of_ble_eq_true rfl⟩) hK hP hD hS hA hE [0, 1] rfl rfl rfl rfl rfl (fun _ => rfl) rfl hl.1 rfl (Nat.le_of_ble_eq_true rfl) dX3_takeNumber_14 ⟨Nat.zero_le _, Nat.zero_le _⟩ (fun r u H locs hw hP hD hS => ?_)
        cases hw
        replace hP : va_P D vwCl (wS cC h g1 sc sl sp sv sf ss) H := hP
        replace hD : va_D A (wS cC h g1 sc sl sp sv sf ss) := hD
        refine ck_SI (st := [.int r2]) (rest := []) (As := [.int r2]) ⟨hx, hb, hml, hown, hts⟩ (gE_ok tL tM adK adV) (c_X3_isDigit l D cI cC cK cO tL tM adK adV  r2 _ rfl) (va_cwS 1 hts gX3_takeNumber_X3_isDigit rfl rfl rfl hs_X3_isDigit ⟨Nat.le_of_ble_eq_true rfl, Nat.le_of_ble_eq_true rfl⟩) hK hP hD hS hA hE rfl hl.1 rfl (Nat.le_of_ble_eq_true rfl) dX3_takeNumber_17 ⟨Nat.zero_le _, Nat.zero_le _⟩ (fun r H locs hw hP hS => ?_)
        obtain ⟨hw, z6⟩ := hw
        cases hw
        refine lv_if_eq (tgt := 60) hx hb dX3_takeNumber_20 (by decide) (fun c7 => ?_) (fun c7 => ?_)
        · replace hf := op_t c7 hf
          refine lv_iload_n hx hb dX3_takeNumber_60 rfl (lv_at hl 1 rfl) ?_
          exact hret _ _ _ _ _ (sp) dX3_takeNumber_61 (op_k hf) hP hS
        · replace hf := op_f c7 hf
          refine lv_iload_n hx hb dX3_takeNumber_23 rfl (lv_at hl 1 rfl) ?_
          refine lv_iconst (v := 0) hx hb dX3_takeNumber_24 (by decide) ?_
          refine ck_max hx hb (hml.trans hl.1.symm) hown m80 ms_max mi mc_max (Nat.le_of_ble_eq_true rfl) (Nat.le_of_ble_eq_true rfl) (Nat.zero_le _) (Nat.zero_le _) dX3_takeNumber_25 ?_
          refine lv_bipush (v := 10) hx hb dX3_takeNumber_28 (by decide) ?_
          refine lv_imul hx hb dX3_takeNumber_30 ?_
          refine lv_aload_n hx hb dX3_takeNumber_31 rfl (lv_at hl 0 rfl) ?_
          refine lv_aload_n hx hb dX3_takeNumber_32 rfl (lv_at hl 0 rfl) ?_
          refine va_get (D := D) (ci := 3) (v := .int sp) (C := RX3) (T := TX3) (N := 6) hx hb hts iX3 hown hK hP 0 rfl rfl 2 (by decide) w19 (fun _ h9 => h9) rfl dX3_takeNumber_33 ?_
          obtain ⟨r8, h9, hf⟩ := op_b hf
          refine ck_VI (st := [.int sp, .ref h, .int ((imax x1 0) * 10)]) (rest := [.int ((imax x1 0) * 10)]) (As := [.int sp]) (C := RX3) (ci := 3) ⟨hx, hb, hml, hown, hts⟩ (gE_ok tL tM adK adV) (c_X3_signAt l D cI cC cK cO tL tM adK adV h g1 sc sl sp sv sf ss sp _ h9) (cwV 1 hts gX3_takeNumber_X3_signAt rfl rfl rfl hv_X3_signAt ⟨Nat.le_of_ble_eq_true rfl, Nat.le_of_ble_eq_true rfl⟩) hK hP hD hS hA hE [0, 1] rfl rfl rfl rfl rfl (fun _ => rfl) rfl hl.1 rfl (Nat.le_of_ble_eq_true rfl) dX3_takeNumber_36 ⟨Nat.zero_le _, Nat.zero_le _⟩ (fun r u H locs hw hP hD hS => ?_)
          cases hw
          replace hP : va_P D vwCl (wS cC h g1 sc sl sp sv sf ss) H := hP
          replace hD : va_D A (wS cC h g1 sc sl sp sv sf ss) := hD
          refine lv_bipush (v := 48) hx hb dX3_takeNumber_39 (by decide) ?_
          refine lv_isub hx hb dX3_takeNumber_41 ?_
          refine lv_iadd hx hb dX3_takeNumber_42 ?_
          refine lv_istore_n (lv' := [(1, .int (((imax x1 0) * 10) + (r8 - 48))), (0, .ref h), (2, .int x2)]) hx hb dX3_takeNumber_43 rfl hl (by decide) rfl (fun ls hl => ?_)
          refine lv_aload_n hx hb dX3_takeNumber_44 rfl (lv_at hl 1 rfl) ?_
          refine lv_dup hx hb dX3_takeNumber_45 rfl ?_
          refine va_get (D := D) (ci := 3) (v := .int sp) (C := RX3) (T := TX3) (N := 6) hx hb hts iX3 hown hK hP 0 rfl rfl 2 (by decide) w19 (fun _ h9 => h9) rfl dX3_takeNumber_46 ?_
          refine lv_iconst (v := 1) hx hb dX3_takeNumber_49 (by decide) ?_
          refine lv_iadd hx hb dX3_takeNumber_50 ?_
          refine va_put (D := D) (ci := 3) (v := .int (sp + 1)) (ty := .int) (C := RX3) (T := TX3) (N := 6) hx hb hts iX3 tyX3 tyX3_ok nmX3 hown hK hP hD hS 0 rfl rfl 2 (by decide) w19 (fun _ h9 => h9) rfl (by decide +kernel) rfl rfl (Nat.le_of_ble_eq_true rfl) dX3_takeNumber_51 (fun H locs hP hD hS => ?_)
          replace hP : va_P D vwCl (wS cC h g1 sc sl (sp + 1) sv sf ss) H := hP
          replace hD : va_D A (wS cC h g1 sc sl (sp + 1) sv sf ss) := hD
          refine lv_iinc (v := (x2 + 1)) (lv' := [(2, .int (x2 + 1)), (1, .int (((imax x1 0) * 10) + (r8 - 48))), (0, .ref h)]) hx hb dX3_takeNumber_54 hl (k := 2) rfl rfl (by decide) rfl (fun ls hl => ?_)
          refine lv_goto (tgt := 4) hx hb dX3_takeNumber_57 (by decide) ?_
          exact ih (sp + 1) (((imax x1 0) * 10) + (r8 - 48)) (x2 + 1) hf _ _ _ hP hD hS (lv_sub hl [2, 1, 0] rfl)
  rw [f_X3_takeNumber] at hf
  refine lv_iconst (v := (-1)) hx hb dX3_takeNumber_0 (by decide) ?_
  refine lv_istore_n (lv' := [(1, .int (-1)), (0, .ref h)]) hx hb dX3_takeNumber_1 rfl hl (by decide) rfl (fun ls hl => ?_)
  refine lv_iconst (v := 0) hx hb dX3_takeNumber_2 (by decide) ?_
  refine lv_istore_n (lv' := [(2, .int 0), (1, .int (-1)), (0, .ref h)]) hx hb dX3_takeNumber_3 rfl hl (by decide) rfl (fun ls hl => ?_)
  exact L_4 K sp (-1) 0 hf _ _ _ hP hD hS (lv_sub hl [2, 1, 0] rfl)
set_option maxHeartbeats 4000000 in
set_option maxRecDepth 100000 in
theorem c_X3_readCommand (l : Launch) (D : va_G) (cI cC cK cO : ClassId) (tL tM : Nat) (adK adV : Nat → Nat) (h : Nat) (g1 : Nat) (sc : Nat → Int32) (sl : Int32) (sp : Int32) (sv : Int32) (sf : Int32) (ss : Int32) (K : Nat) (R : Int32 × Int32 × Int32 × Int32 × Int32) (hf : f_X3_readCommand K sc sl sp sv = some R) : KI l D (TY cI cC cK cO) (gE tL tM adK adV) yX3_readCommand wsX3_readCommand 6 [.ref h] (wS cC h g1 sc sl sp sv sf ss) (fun (r : Int32) (u : Int32 × Int32 × Int32 × Int32) => (r, u) = R ∧ (r = 0 ∨ r = 1)) (fun u => (wS cC h g1 sc sl (u.1) (u.2.1) (u.2.2.1) (u.2.2.2))) := by
  refine KI.ofZ (cc := cX3_readCommand) (maxL := 1) (C := RX3) (by decide) rfl rfl (Nat.le_of_ble_eq_true rfl) (fun _ _ h => h.2) ?_
  intro p e s m args below meth c A Q hx hb hml hts hown hP hK hD hA hE hS hret ls hl
  replace hl : lv_has ls 1 [(0, .ref h)] := hl
  have w22 := hts (.fieldLink RX3 22 "BlockClerks$Script" "verb" "I") (by decide +kernel)
  have w25 := hts (.fieldLink RX3 25 "BlockClerks$Script" "first" "I") (by decide +kernel)
  have w28 := hts (.fieldLink RX3 28 "BlockClerks$Script" "second" "I") (by decide +kernel)
  have iX3 : ∀ w ∈ wsX30, w ∈ wsX3_readCommand := by decide +kernel
  rw [f_X3_readCommand] at hf
  refine lv_aload_n hx hb dX3_readCommand_0 rfl (lv_at hl 0 rfl) ?_
  refine lv_iconst (v := 0) hx hb dX3_readCommand_1 (by decide) ?_
  refine va_put (D := D) (ci := 3) (v := .int 0) (ty := .int) (C := RX3) (T := TX3) (N := 6) hx hb hts iX3 tyX3 tyX3_ok nmX3 hown hK hP hD hS 0 rfl rfl 4 (by decide) w25 (fun _ h9 => h9) rfl (by decide +kernel) rfl rfl (Nat.le_of_ble_eq_true rfl) dX3_readCommand_2 (fun H locs hP hD hS => ?_)
  replace hP : va_P D vwCl (wS cC h g1 sc sl sp sv 0 ss) H := hP
  replace hD : va_D A (wS cC h g1 sc sl sp sv 0 ss) := hD
  refine lv_aload_n hx hb dX3_readCommand_5 rfl (lv_at hl 0 rfl) ?_
  refine lv_iconst (v := 0) hx hb dX3_readCommand_6 (by decide) ?_
  refine va_put (D := D) (ci := 3) (v := .int 0) (ty := .int) (C := RX3) (T := TX3) (N := 6) hx hb hts iX3 tyX3 tyX3_ok nmX3 hown hK hP hD hS 0 rfl rfl 5 (by decide) w28 (fun _ h9 => h9) rfl (by decide +kernel) rfl rfl (Nat.le_of_ble_eq_true rfl) dX3_readCommand_7 (fun H locs hP hD hS => ?_)
  replace hP : va_P D vwCl (wS cC h g1 sc sl sp sv 0 0) H := hP
  replace hD : va_D A (wS cC h g1 sc sl sp sv 0 0) := hD
  refine lv_aload_n hx hb dX3_readCommand_10 rfl (lv_at hl 0 rfl) ?_
  refine va_ldcS hx hb hown (hE.2.2.2 0 (31, "clerk ") rfl) dX3_readCommand_11 ?_
  obtain ⟨⟨r1, y2⟩, h3, hf⟩ := op_b hf
  refine ck_VI (st := [.ref (adK 0), .ref h]) (rest := []) (As := [.ref (adK 0)]) (C := RX3) (ci := 3) ⟨hx, hb, hml, hown, hts⟩ (gE_ok tL tM adK adV) (c_X3_takeWord l D cI cC cK cO tL tM adK adV h g1 sc sl sp sv 0 0 0 (by decide) K _ h3) (cwV 1 hts gX3_readCommand_X3_takeWord rfl rfl rfl hv_X3_takeWord ⟨Nat.le_of_ble_eq_true rfl, Nat.le_of_ble_eq_true rfl⟩) hK hP hD hS hA hE [0, 1] rfl rfl rfl rfl rfl (fun _ => rfl) rfl hl.1 rfl (Nat.le_of_ble_eq_true rfl) dX3_readCommand_13 ⟨Nat.zero_le _, Nat.zero_le _⟩ (fun r u H locs hw hP hD hS => ?_)
  obtain ⟨hw, z4⟩ := hw
  cases hw
  replace hP : va_P D vwCl (wS cC h g1 sc sl y2 sv 0 0) H := hP
  replace hD : va_D A (wS cC h g1 sc sl y2 sv 0 0) := hD
  refine lv_if_eq (tgt := 35) hx hb dX3_readCommand_16 (by decide) (fun c5 => ?_) (fun c5 => ?_)
  · replace hf := op_t c5 hf
    refine lv_aload_n hx hb dX3_readCommand_35 rfl (lv_at hl 0 rfl) ?_
    refine va_ldcS hx hb hown (hE.2.2.2 1 (41, "ask ") rfl) dX3_readCommand_36 ?_
    obtain ⟨⟨r6, y7⟩, h8, hf⟩ := op_b hf
    refine ck_VI (st := [.ref (adK 1), .ref h]) (rest := []) (As := [.ref (adK 1)]) (C := RX3) (ci := 3) ⟨hx, hb, hml, hown, hts⟩ (gE_ok tL tM adK adV) (c_X3_takeWord l D cI cC cK cO tL tM adK adV h g1 sc sl y2 sv 0 0 1 (by decide) K _ h8) (cwV 1 hts gX3_readCommand_X3_takeWord rfl rfl rfl hv_X3_takeWord ⟨Nat.le_of_ble_eq_true rfl, Nat.le_of_ble_eq_true rfl⟩) hK hP hD hS hA hE [0, 1] rfl rfl rfl rfl rfl (fun _ => rfl) rfl hl.1 rfl (Nat.le_of_ble_eq_true rfl) dX3_readCommand_38 ⟨Nat.zero_le _, Nat.zero_le _⟩ (fun r u H locs hw hP hD hS => ?_)
    obtain ⟨hw, z9⟩ := hw
    cases hw
    replace hP : va_P D vwCl (wS cC h g1 sc sl y7 sv 0 0) H := hP
    replace hD : va_D A (wS cC h g1 sc sl y7 sv 0 0) := hD
    refine lv_if_eq (tgt := 81) hx hb dX3_readCommand_41 (by decide) (fun c10 => ?_) (fun c10 => ?_)
    · replace hf := op_t c10 hf
      refine lv_aload_n hx hb dX3_readCommand_81 rfl (lv_at hl 0 rfl) ?_
      refine va_ldcS hx hb hown (hE.2.2.2 3 (48, "forget ") rfl) dX3_readCommand_82 ?_
      obtain ⟨⟨r11, y12⟩, h13, hf⟩ := op_b hf
      refine ck_VI (st := [.ref (adK 3), .ref h]) (rest := []) (As := [.ref (adK 3)]) (C := RX3) (ci := 3) ⟨hx, hb, hml, hown, hts⟩ (gE_ok tL tM adK adV) (c_X3_takeWord l D cI cC cK cO tL tM adK adV h g1 sc sl y7 sv 0 0 3 (by decide) K _ h13) (cwV 1 hts gX3_readCommand_X3_takeWord rfl rfl rfl hv_X3_takeWord ⟨Nat.le_of_ble_eq_true rfl, Nat.le_of_ble_eq_true rfl⟩) hK hP hD hS hA hE [0, 1] rfl rfl rfl rfl rfl (fun _ => rfl) rfl hl.1 rfl (Nat.le_of_ble_eq_true rfl) dX3_readCommand_84 ⟨Nat.zero_le _, Nat.zero_le _⟩ (fun r u H locs hw hP hD hS => ?_)
      obtain ⟨hw, z14⟩ := hw
      cases hw
      replace hP : va_P D vwCl (wS cC h g1 sc sl y12 sv 0 0) H := hP
      replace hD : va_D A (wS cC h g1 sc sl y12 sv 0 0) := hD
      refine lv_if_eq (tgt := 106) hx hb dX3_readCommand_87 (by decide) (fun c15 => ?_) (fun c15 => ?_)
      · replace hf := op_t c15 hf
        refine lv_aload_n hx hb dX3_readCommand_106 rfl (lv_at hl 0 rfl) ?_
        refine va_ldcS hx hb hown (hE.2.2.2 4 (50, "back ") rfl) dX3_readCommand_107 ?_
        obtain ⟨⟨r16, y17⟩, h18, hf⟩ := op_b hf
        refine ck_VI (st := [.ref (adK 4), .ref h]) (rest := []) (As := [.ref (adK 4)]) (C := RX3) (ci := 3) ⟨hx, hb, hml, hown, hts⟩ (gE_ok tL tM adK adV) (c_X3_takeWord l D cI cC cK cO tL tM adK adV h g1 sc sl y12 sv 0 0 4 (by decide) K _ h18) (cwV 1 hts gX3_readCommand_X3_takeWord rfl rfl rfl hv_X3_takeWord ⟨Nat.le_of_ble_eq_true rfl, Nat.le_of_ble_eq_true rfl⟩) hK hP hD hS hA hE [0, 1] rfl rfl rfl rfl rfl (fun _ => rfl) rfl hl.1 rfl (Nat.le_of_ble_eq_true rfl) dX3_readCommand_109 ⟨Nat.zero_le _, Nat.zero_le _⟩ (fun r u H locs hw hP hD hS => ?_)
        obtain ⟨hw, z19⟩ := hw
        cases hw
        replace hP : va_P D vwCl (wS cC h g1 sc sl y17 sv 0 0) H := hP
        replace hD : va_D A (wS cC h g1 sc sl y17 sv 0 0) := hD
        refine lv_if_eq (tgt := 131) hx hb dX3_readCommand_112 (by decide) (fun c20 => ?_) (fun c20 => ?_)
        · replace hf := op_t c20 hf
          refine lv_aload_n hx hb dX3_readCommand_131 rfl (lv_at hl 0 rfl) ?_
          refine va_ldcS hx hb hown (hE.2.2.2 5 (52, "void ") rfl) dX3_readCommand_132 ?_
          obtain ⟨⟨r21, y22⟩, h23, hf⟩ := op_b hf
          refine ck_VI (st := [.ref (adK 5), .ref h]) (rest := []) (As := [.ref (adK 5)]) (C := RX3) (ci := 3) ⟨hx, hb, hml, hown, hts⟩ (gE_ok tL tM adK adV) (c_X3_takeWord l D cI cC cK cO tL tM adK adV h g1 sc sl y17 sv 0 0 5 (by decide) K _ h23) (cwV 1 hts gX3_readCommand_X3_takeWord rfl rfl rfl hv_X3_takeWord ⟨Nat.le_of_ble_eq_true rfl, Nat.le_of_ble_eq_true rfl⟩) hK hP hD hS hA hE [0, 1] rfl rfl rfl rfl rfl (fun _ => rfl) rfl hl.1 rfl (Nat.le_of_ble_eq_true rfl) dX3_readCommand_134 ⟨Nat.zero_le _, Nat.zero_le _⟩ (fun r u H locs hw hP hD hS => ?_)
          obtain ⟨hw, z24⟩ := hw
          cases hw
          replace hP : va_P D vwCl (wS cC h g1 sc sl y22 sv 0 0) H := hP
          replace hD : va_D A (wS cC h g1 sc sl y22 sv 0 0) := hD
          refine lv_if_eq (tgt := 156) hx hb dX3_readCommand_137 (by decide) (fun c25 => ?_) (fun c25 => ?_)
          · replace hf := op_t c25 hf
            refine lv_aload_n hx hb dX3_readCommand_156 rfl (lv_at hl 0 rfl) ?_
            refine va_ldcS hx hb hown (hE.2.2.2 6 (54, "close") rfl) dX3_readCommand_157 ?_
            obtain ⟨⟨r26, y27⟩, h28, hf⟩ := op_b hf
            refine ck_VI (st := [.ref (adK 6), .ref h]) (rest := []) (As := [.ref (adK 6)]) (C := RX3) (ci := 3) ⟨hx, hb, hml, hown, hts⟩ (gE_ok tL tM adK adV) (c_X3_takeWord l D cI cC cK cO tL tM adK adV h g1 sc sl y22 sv 0 0 6 (by decide) K _ h28) (cwV 1 hts gX3_readCommand_X3_takeWord rfl rfl rfl hv_X3_takeWord ⟨Nat.le_of_ble_eq_true rfl, Nat.le_of_ble_eq_true rfl⟩) hK hP hD hS hA hE [0, 1] rfl rfl rfl rfl rfl (fun _ => rfl) rfl hl.1 rfl (Nat.le_of_ble_eq_true rfl) dX3_readCommand_159 ⟨Nat.zero_le _, Nat.zero_le _⟩ (fun r u H locs hw hP hD hS => ?_)
            obtain ⟨hw, z29⟩ := hw
            cases hw
            replace hP : va_P D vwCl (wS cC h g1 sc sl y27 sv 0 0) H := hP
            replace hD : va_D A (wS cC h g1 sc sl y27 sv 0 0) := hD
            refine lv_if_eq (tgt := 173) hx hb dX3_readCommand_162 (by decide) (fun c30 => ?_) (fun c30 => ?_)
            · replace hf := op_t c30 hf
              refine lv_iconst (v := 0) hx hb dX3_readCommand_173 (by decide) ?_
              exact hret _ _ _ _ _ (y27, sv, 0, 0) dX3_readCommand_174 ⟨(op_k hf), (Or.inl rfl)⟩ hP hS
            · replace hf := op_f c30 hf
              refine lv_aload_n hx hb dX3_readCommand_165 rfl (lv_at hl 0 rfl) ?_
              refine lv_iconst (v := 5) hx hb dX3_readCommand_166 (by decide) ?_
              refine va_put (D := D) (ci := 3) (v := .int 5) (ty := .int) (C := RX3) (T := TX3) (N := 6) hx hb hts iX3 tyX3 tyX3_ok nmX3 hown hK hP hD hS 0 rfl rfl 3 (by decide) w22 (fun _ h9 => h9) rfl (by decide +kernel) rfl rfl (Nat.le_of_ble_eq_true rfl) dX3_readCommand_167 (fun H locs hP hD hS => ?_)
              replace hP : va_P D vwCl (wS cC h g1 sc sl y27 5 0 0) H := hP
              replace hD : va_D A (wS cC h g1 sc sl y27 5 0 0) := hD
              refine lv_goto (tgt := 175) hx hb dX3_readCommand_170 (by decide) ?_
              refine lv_aload_n hx hb dX3_readCommand_175 rfl (lv_at hl 0 rfl) ?_
              refine va_get (D := D) (ci := 3) (v := .int 0) (C := RX3) (T := TX3) (N := 6) hx hb hts iX3 hown hK hP 0 rfl rfl 4 (by decide) w25 (fun _ h9 => h9) rfl dX3_readCommand_176 ?_
              refine lv_iconst (v := (-1)) hx hb dX3_readCommand_179 (by decide) ?_
              refine lv_icmp_eq (tgt := 204) hx hb dX3_readCommand_180 (by decide) (fun c9 => absurd c9 (by decide)) (fun _ => ?_)
              refine lv_aload_n hx hb dX3_readCommand_183 rfl (lv_at hl 0 rfl) ?_
              refine va_get (D := D) (ci := 3) (v := .int 0) (C := RX3) (T := TX3) (N := 6) hx hb hts iX3 hown hK hP 0 rfl rfl 5 (by decide) w28 (fun _ h9 => h9) rfl dX3_readCommand_184 ?_
              refine lv_iconst (v := (-1)) hx hb dX3_readCommand_187 (by decide) ?_
              refine lv_icmp_eq (tgt := 204) hx hb dX3_readCommand_188 (by decide) (fun c9 => absurd c9 (by decide)) (fun _ => ?_)
              refine lv_aload_n hx hb dX3_readCommand_191 rfl (lv_at hl 0 rfl) ?_
              refine va_ldcS hx hb hown (hE.2.2.2 7 (56, ";") rfl) dX3_readCommand_192 ?_
              obtain ⟨⟨r31, y32⟩, h33, hf⟩ := op_b hf
              refine ck_VI (st := [.ref (adK 7), .ref h]) (rest := []) (As := [.ref (adK 7)]) (C := RX3) (ci := 3) ⟨hx, hb, hml, hown, hts⟩ (gE_ok tL tM adK adV) (c_X3_takeWord l D cI cC cK cO tL tM adK adV h g1 sc sl y27 5 0 0 7 (by decide) K _ h33) (cwV 1 hts gX3_readCommand_X3_takeWord rfl rfl rfl hv_X3_takeWord ⟨Nat.le_of_ble_eq_true rfl, Nat.le_of_ble_eq_true rfl⟩) hK hP hD hS hA hE [0, 1] rfl rfl rfl rfl rfl (fun _ => rfl) rfl hl.1 rfl (Nat.le_of_ble_eq_true rfl) dX3_readCommand_194 ⟨Nat.zero_le _, Nat.zero_le _⟩ (fun r u H locs hw hP hD hS => ?_)
              obtain ⟨hw, z34⟩ := hw
              cases hw
              replace hP : va_P D vwCl (wS cC h g1 sc sl y32 5 0 0) H := hP
              replace hD : va_D A (wS cC h g1 sc sl y32 5 0 0) := hD
              refine lv_if_eq (tgt := 204) hx hb dX3_readCommand_197 (by decide) (fun c35 => ?_) (fun c35 => ?_)
              · replace hf := op_t c35 hf
                refine lv_iconst (v := 0) hx hb dX3_readCommand_204 (by decide) ?_
                exact hret _ _ _ _ _ (y32, 5, 0, 0) dX3_readCommand_205 ⟨(op_k hf), (Or.inl rfl)⟩ hP hS
              · replace hf := op_f c35 hf
                refine lv_iconst (v := 1) hx hb dX3_readCommand_200 (by decide) ?_
                refine lv_goto (tgt := 205) hx hb dX3_readCommand_201 (by decide) ?_
                exact hret _ _ _ _ _ (y32, 5, 0, 0) dX3_readCommand_205 ⟨(op_k hf), (Or.inr rfl)⟩ hP hS
          · replace hf := op_f c25 hf
            refine lv_aload_n hx hb dX3_readCommand_140 rfl (lv_at hl 0 rfl) ?_
            refine lv_iconst (v := 4) hx hb dX3_readCommand_141 (by decide) ?_
            refine va_put (D := D) (ci := 3) (v := .int 4) (ty := .int) (C := RX3) (T := TX3) (N := 6) hx hb hts iX3 tyX3 tyX3_ok nmX3 hown hK hP hD hS 0 rfl rfl 3 (by decide) w22 (fun _ h9 => h9) rfl (by decide +kernel) rfl rfl (Nat.le_of_ble_eq_true rfl) dX3_readCommand_142 (fun H locs hP hD hS => ?_)
            replace hP : va_P D vwCl (wS cC h g1 sc sl y22 4 0 0) H := hP
            replace hD : va_D A (wS cC h g1 sc sl y22 4 0 0) := hD
            refine lv_aload_n hx hb dX3_readCommand_145 rfl (lv_at hl 0 rfl) ?_
            refine lv_aload_n hx hb dX3_readCommand_146 rfl (lv_at hl 0 rfl) ?_
            obtain ⟨⟨r36, y37⟩, h38, hf⟩ := op_b hf
            refine ck_VI (st := [.ref h, .ref h]) (rest := [.ref h]) (As := []) (C := RX3) (ci := 3) ⟨hx, hb, hml, hown, hts⟩ (gE_ok tL tM adK adV) (c_X3_takeNumber l D cI cC cK cO tL tM adK adV h g1 sc sl y22 4 0 0  K _ h38) (cwV 0 hts gX3_readCommand_X3_takeNumber rfl rfl rfl hv_X3_takeNumber ⟨Nat.le_of_ble_eq_true rfl, Nat.le_of_ble_eq_true rfl⟩) hK hP hD hS hA hE [0, 1] rfl rfl rfl rfl rfl (fun _ => rfl) rfl hl.1 rfl (Nat.le_of_ble_eq_true rfl) dX3_readCommand_147 ⟨Nat.zero_le _, Nat.zero_le _⟩ (fun r u H locs hw hP hD hS => ?_)
            cases hw
            replace hP : va_P D vwCl (wS cC h g1 sc sl y37 4 0 0) H := hP
            replace hD : va_D A (wS cC h g1 sc sl y37 4 0 0) := hD
            refine va_put (D := D) (ci := 3) (v := .int r36) (ty := .int) (C := RX3) (T := TX3) (N := 6) hx hb hts iX3 tyX3 tyX3_ok nmX3 hown hK hP hD hS 0 rfl rfl 4 (by decide) w25 (fun _ h9 => h9) rfl (by decide +kernel) rfl rfl (Nat.le_of_ble_eq_true rfl) dX3_readCommand_150 (fun H locs hP hD hS => ?_)
            replace hP : va_P D vwCl (wS cC h g1 sc sl y37 4 r36 0) H := hP
            replace hD : va_D A (wS cC h g1 sc sl y37 4 r36 0) := hD
            refine lv_goto (tgt := 175) hx hb dX3_readCommand_153 (by decide) ?_
            refine lv_aload_n hx hb dX3_readCommand_175 rfl (lv_at hl 0 rfl) ?_
            refine va_get (D := D) (ci := 3) (v := .int r36) (C := RX3) (T := TX3) (N := 6) hx hb hts iX3 hown hK hP 0 rfl rfl 4 (by decide) w25 (fun _ h9 => h9) rfl dX3_readCommand_176 ?_
            refine lv_iconst (v := (-1)) hx hb dX3_readCommand_179 (by decide) ?_
            refine lv_icmp_eq (tgt := 204) hx hb dX3_readCommand_180 (by decide) (fun c40 => ?_) (fun c40 => ?_)
            · replace hf := op_t c40 hf
              refine lv_iconst (v := 0) hx hb dX3_readCommand_204 (by decide) ?_
              exact hret _ _ _ _ _ (y37, 4, r36, 0) dX3_readCommand_205 ⟨(op_k hf), (Or.inl rfl)⟩ hP hS
            · replace hf := op_f c40 hf
              refine lv_aload_n hx hb dX3_readCommand_183 rfl (lv_at hl 0 rfl) ?_
              refine va_get (D := D) (ci := 3) (v := .int 0) (C := RX3) (T := TX3) (N := 6) hx hb hts iX3 hown hK hP 0 rfl rfl 5 (by decide) w28 (fun _ h9 => h9) rfl dX3_readCommand_184 ?_
              refine lv_iconst (v := (-1)) hx hb dX3_readCommand_187 (by decide) ?_
              refine lv_icmp_eq (tgt := 204) hx hb dX3_readCommand_188 (by decide) (fun c9 => absurd c9 (by decide)) (fun _ => ?_)
              refine lv_aload_n hx hb dX3_readCommand_191 rfl (lv_at hl 0 rfl) ?_
              refine va_ldcS hx hb hown (hE.2.2.2 7 (56, ";") rfl) dX3_readCommand_192 ?_
              obtain ⟨⟨r41, y42⟩, h43, hf⟩ := op_b hf
              refine ck_VI (st := [.ref (adK 7), .ref h]) (rest := []) (As := [.ref (adK 7)]) (C := RX3) (ci := 3) ⟨hx, hb, hml, hown, hts⟩ (gE_ok tL tM adK adV) (c_X3_takeWord l D cI cC cK cO tL tM adK adV h g1 sc sl y37 4 r36 0 7 (by decide) K _ h43) (cwV 1 hts gX3_readCommand_X3_takeWord rfl rfl rfl hv_X3_takeWord ⟨Nat.le_of_ble_eq_true rfl, Nat.le_of_ble_eq_true rfl⟩) hK hP hD hS hA hE [0, 1] rfl rfl rfl rfl rfl (fun _ => rfl) rfl hl.1 rfl (Nat.le_of_ble_eq_true rfl) dX3_readCommand_194 ⟨Nat.zero_le _, Nat.zero_le _⟩ (fun r u H locs hw hP hD hS => ?_)
              obtain ⟨hw, z44⟩ := hw
              cases hw
              replace hP : va_P D vwCl (wS cC h g1 sc sl y42 4 r36 0) H := hP
              replace hD : va_D A (wS cC h g1 sc sl y42 4 r36 0) := hD
              refine lv_if_eq (tgt := 204) hx hb dX3_readCommand_197 (by decide) (fun c45 => ?_) (fun c45 => ?_)
              · replace hf := op_t c45 hf
                refine lv_iconst (v := 0) hx hb dX3_readCommand_204 (by decide) ?_
                exact hret _ _ _ _ _ (y42, 4, r36, 0) dX3_readCommand_205 ⟨(op_k hf), (Or.inl rfl)⟩ hP hS
              · replace hf := op_f c45 hf
                refine lv_iconst (v := 1) hx hb dX3_readCommand_200 (by decide) ?_
                refine lv_goto (tgt := 205) hx hb dX3_readCommand_201 (by decide) ?_
                exact hret _ _ _ _ _ (y42, 4, r36, 0) dX3_readCommand_205 ⟨(op_k hf), (Or.inr rfl)⟩ hP hS
        · replace hf := op_f c20 hf
          refine lv_aload_n hx hb dX3_readCommand_115 rfl (lv_at hl 0 rfl) ?_
          refine lv_iconst (v := 3) hx hb dX3_readCommand_116 (by decide) ?_
          refine va_put (D := D) (ci := 3) (v := .int 3) (ty := .int) (C := RX3) (T := TX3) (N := 6) hx hb hts iX3 tyX3 tyX3_ok nmX3 hown hK hP hD hS 0 rfl rfl 3 (by decide) w22 (fun _ h9 => h9) rfl (by decide +kernel) rfl rfl (Nat.le_of_ble_eq_true rfl) dX3_readCommand_117 (fun H locs hP hD hS => ?_)
          replace hP : va_P D vwCl (wS cC h g1 sc sl y17 3 0 0) H := hP
          replace hD : va_D A (wS cC h g1 sc sl y17 3 0 0) := hD
          refine lv_aload_n hx hb dX3_readCommand_120 rfl (lv_at hl 0 rfl) ?_
          refine lv_aload_n hx hb dX3_readCommand_121 rfl (lv_at hl 0 rfl) ?_
          obtain ⟨⟨r46, y47⟩, h48, hf⟩ := op_b hf
          refine ck_VI (st := [.ref h, .ref h]) (rest := [.ref h]) (As := []) (C := RX3) (ci := 3) ⟨hx, hb, hml, hown, hts⟩ (gE_ok tL tM adK adV) (c_X3_takeNumber l D cI cC cK cO tL tM adK adV h g1 sc sl y17 3 0 0  K _ h48) (cwV 0 hts gX3_readCommand_X3_takeNumber rfl rfl rfl hv_X3_takeNumber ⟨Nat.le_of_ble_eq_true rfl, Nat.le_of_ble_eq_true rfl⟩) hK hP hD hS hA hE [0, 1] rfl rfl rfl rfl rfl (fun _ => rfl) rfl hl.1 rfl (Nat.le_of_ble_eq_true rfl) dX3_readCommand_122 ⟨Nat.zero_le _, Nat.zero_le _⟩ (fun r u H locs hw hP hD hS => ?_)
          cases hw
          replace hP : va_P D vwCl (wS cC h g1 sc sl y47 3 0 0) H := hP
          replace hD : va_D A (wS cC h g1 sc sl y47 3 0 0) := hD
          refine va_put (D := D) (ci := 3) (v := .int r46) (ty := .int) (C := RX3) (T := TX3) (N := 6) hx hb hts iX3 tyX3 tyX3_ok nmX3 hown hK hP hD hS 0 rfl rfl 4 (by decide) w25 (fun _ h9 => h9) rfl (by decide +kernel) rfl rfl (Nat.le_of_ble_eq_true rfl) dX3_readCommand_125 (fun H locs hP hD hS => ?_)
          replace hP : va_P D vwCl (wS cC h g1 sc sl y47 3 r46 0) H := hP
          replace hD : va_D A (wS cC h g1 sc sl y47 3 r46 0) := hD
          refine lv_goto (tgt := 175) hx hb dX3_readCommand_128 (by decide) ?_
          refine lv_aload_n hx hb dX3_readCommand_175 rfl (lv_at hl 0 rfl) ?_
          refine va_get (D := D) (ci := 3) (v := .int r46) (C := RX3) (T := TX3) (N := 6) hx hb hts iX3 hown hK hP 0 rfl rfl 4 (by decide) w25 (fun _ h9 => h9) rfl dX3_readCommand_176 ?_
          refine lv_iconst (v := (-1)) hx hb dX3_readCommand_179 (by decide) ?_
          refine lv_icmp_eq (tgt := 204) hx hb dX3_readCommand_180 (by decide) (fun c50 => ?_) (fun c50 => ?_)
          · replace hf := op_t c50 hf
            refine lv_iconst (v := 0) hx hb dX3_readCommand_204 (by decide) ?_
            exact hret _ _ _ _ _ (y47, 3, r46, 0) dX3_readCommand_205 ⟨(op_k hf), (Or.inl rfl)⟩ hP hS
          · replace hf := op_f c50 hf
            refine lv_aload_n hx hb dX3_readCommand_183 rfl (lv_at hl 0 rfl) ?_
            refine va_get (D := D) (ci := 3) (v := .int 0) (C := RX3) (T := TX3) (N := 6) hx hb hts iX3 hown hK hP 0 rfl rfl 5 (by decide) w28 (fun _ h9 => h9) rfl dX3_readCommand_184 ?_
            refine lv_iconst (v := (-1)) hx hb dX3_readCommand_187 (by decide) ?_
            refine lv_icmp_eq (tgt := 204) hx hb dX3_readCommand_188 (by decide) (fun c9 => absurd c9 (by decide)) (fun _ => ?_)
            refine lv_aload_n hx hb dX3_readCommand_191 rfl (lv_at hl 0 rfl) ?_
            refine va_ldcS hx hb hown (hE.2.2.2 7 (56, ";") rfl) dX3_readCommand_192 ?_
            obtain ⟨⟨r51, y52⟩, h53, hf⟩ := op_b hf
            refine ck_VI (st := [.ref (adK 7), .ref h]) (rest := []) (As := [.ref (adK 7)]) (C := RX3) (ci := 3) ⟨hx, hb, hml, hown, hts⟩ (gE_ok tL tM adK adV) (c_X3_takeWord l D cI cC cK cO tL tM adK adV h g1 sc sl y47 3 r46 0 7 (by decide) K _ h53) (cwV 1 hts gX3_readCommand_X3_takeWord rfl rfl rfl hv_X3_takeWord ⟨Nat.le_of_ble_eq_true rfl, Nat.le_of_ble_eq_true rfl⟩) hK hP hD hS hA hE [0, 1] rfl rfl rfl rfl rfl (fun _ => rfl) rfl hl.1 rfl (Nat.le_of_ble_eq_true rfl) dX3_readCommand_194 ⟨Nat.zero_le _, Nat.zero_le _⟩ (fun r u H locs hw hP hD hS => ?_)
            obtain ⟨hw, z54⟩ := hw
            cases hw
            replace hP : va_P D vwCl (wS cC h g1 sc sl y52 3 r46 0) H := hP
            replace hD : va_D A (wS cC h g1 sc sl y52 3 r46 0) := hD
            refine lv_if_eq (tgt := 204) hx hb dX3_readCommand_197 (by decide) (fun c55 => ?_) (fun c55 => ?_)
            · replace hf := op_t c55 hf
              refine lv_iconst (v := 0) hx hb dX3_readCommand_204 (by decide) ?_
              exact hret _ _ _ _ _ (y52, 3, r46, 0) dX3_readCommand_205 ⟨(op_k hf), (Or.inl rfl)⟩ hP hS
            · replace hf := op_f c55 hf
              refine lv_iconst (v := 1) hx hb dX3_readCommand_200 (by decide) ?_
              refine lv_goto (tgt := 205) hx hb dX3_readCommand_201 (by decide) ?_
              exact hret _ _ _ _ _ (y52, 3, r46, 0) dX3_readCommand_205 ⟨(op_k hf), (Or.inr rfl)⟩ hP hS
      · replace hf := op_f c15 hf
        refine lv_aload_n hx hb dX3_readCommand_90 rfl (lv_at hl 0 rfl) ?_
        refine lv_iconst (v := 2) hx hb dX3_readCommand_91 (by decide) ?_
        refine va_put (D := D) (ci := 3) (v := .int 2) (ty := .int) (C := RX3) (T := TX3) (N := 6) hx hb hts iX3 tyX3 tyX3_ok nmX3 hown hK hP hD hS 0 rfl rfl 3 (by decide) w22 (fun _ h9 => h9) rfl (by decide +kernel) rfl rfl (Nat.le_of_ble_eq_true rfl) dX3_readCommand_92 (fun H locs hP hD hS => ?_)
        replace hP : va_P D vwCl (wS cC h g1 sc sl y12 2 0 0) H := hP
        replace hD : va_D A (wS cC h g1 sc sl y12 2 0 0) := hD
        refine lv_aload_n hx hb dX3_readCommand_95 rfl (lv_at hl 0 rfl) ?_
        refine lv_aload_n hx hb dX3_readCommand_96 rfl (lv_at hl 0 rfl) ?_
        obtain ⟨⟨r56, y57⟩, h58, hf⟩ := op_b hf
        refine ck_VI (st := [.ref h, .ref h]) (rest := [.ref h]) (As := []) (C := RX3) (ci := 3) ⟨hx, hb, hml, hown, hts⟩ (gE_ok tL tM adK adV) (c_X3_takeNumber l D cI cC cK cO tL tM adK adV h g1 sc sl y12 2 0 0  K _ h58) (cwV 0 hts gX3_readCommand_X3_takeNumber rfl rfl rfl hv_X3_takeNumber ⟨Nat.le_of_ble_eq_true rfl, Nat.le_of_ble_eq_true rfl⟩) hK hP hD hS hA hE [0, 1] rfl rfl rfl rfl rfl (fun _ => rfl) rfl hl.1 rfl (Nat.le_of_ble_eq_true rfl) dX3_readCommand_97 ⟨Nat.zero_le _, Nat.zero_le _⟩ (fun r u H locs hw hP hD hS => ?_)
        cases hw
        replace hP : va_P D vwCl (wS cC h g1 sc sl y57 2 0 0) H := hP
        replace hD : va_D A (wS cC h g1 sc sl y57 2 0 0) := hD
        refine va_put (D := D) (ci := 3) (v := .int r56) (ty := .int) (C := RX3) (T := TX3) (N := 6) hx hb hts iX3 tyX3 tyX3_ok nmX3 hown hK hP hD hS 0 rfl rfl 4 (by decide) w25 (fun _ h9 => h9) rfl (by decide +kernel) rfl rfl (Nat.le_of_ble_eq_true rfl) dX3_readCommand_100 (fun H locs hP hD hS => ?_)
        replace hP : va_P D vwCl (wS cC h g1 sc sl y57 2 r56 0) H := hP
        replace hD : va_D A (wS cC h g1 sc sl y57 2 r56 0) := hD
        refine lv_goto (tgt := 175) hx hb dX3_readCommand_103 (by decide) ?_
        refine lv_aload_n hx hb dX3_readCommand_175 rfl (lv_at hl 0 rfl) ?_
        refine va_get (D := D) (ci := 3) (v := .int r56) (C := RX3) (T := TX3) (N := 6) hx hb hts iX3 hown hK hP 0 rfl rfl 4 (by decide) w25 (fun _ h9 => h9) rfl dX3_readCommand_176 ?_
        refine lv_iconst (v := (-1)) hx hb dX3_readCommand_179 (by decide) ?_
        refine lv_icmp_eq (tgt := 204) hx hb dX3_readCommand_180 (by decide) (fun c60 => ?_) (fun c60 => ?_)
        · replace hf := op_t c60 hf
          refine lv_iconst (v := 0) hx hb dX3_readCommand_204 (by decide) ?_
          exact hret _ _ _ _ _ (y57, 2, r56, 0) dX3_readCommand_205 ⟨(op_k hf), (Or.inl rfl)⟩ hP hS
        · replace hf := op_f c60 hf
          refine lv_aload_n hx hb dX3_readCommand_183 rfl (lv_at hl 0 rfl) ?_
          refine va_get (D := D) (ci := 3) (v := .int 0) (C := RX3) (T := TX3) (N := 6) hx hb hts iX3 hown hK hP 0 rfl rfl 5 (by decide) w28 (fun _ h9 => h9) rfl dX3_readCommand_184 ?_
          refine lv_iconst (v := (-1)) hx hb dX3_readCommand_187 (by decide) ?_
          refine lv_icmp_eq (tgt := 204) hx hb dX3_readCommand_188 (by decide) (fun c9 => absurd c9 (by decide)) (fun _ => ?_)
          refine lv_aload_n hx hb dX3_readCommand_191 rfl (lv_at hl 0 rfl) ?_
          refine va_ldcS hx hb hown (hE.2.2.2 7 (56, ";") rfl) dX3_readCommand_192 ?_
          obtain ⟨⟨r61, y62⟩, h63, hf⟩ := op_b hf
          refine ck_VI (st := [.ref (adK 7), .ref h]) (rest := []) (As := [.ref (adK 7)]) (C := RX3) (ci := 3) ⟨hx, hb, hml, hown, hts⟩ (gE_ok tL tM adK adV) (c_X3_takeWord l D cI cC cK cO tL tM adK adV h g1 sc sl y57 2 r56 0 7 (by decide) K _ h63) (cwV 1 hts gX3_readCommand_X3_takeWord rfl rfl rfl hv_X3_takeWord ⟨Nat.le_of_ble_eq_true rfl, Nat.le_of_ble_eq_true rfl⟩) hK hP hD hS hA hE [0, 1] rfl rfl rfl rfl rfl (fun _ => rfl) rfl hl.1 rfl (Nat.le_of_ble_eq_true rfl) dX3_readCommand_194 ⟨Nat.zero_le _, Nat.zero_le _⟩ (fun r u H locs hw hP hD hS => ?_)
          obtain ⟨hw, z64⟩ := hw
          cases hw
          replace hP : va_P D vwCl (wS cC h g1 sc sl y62 2 r56 0) H := hP
          replace hD : va_D A (wS cC h g1 sc sl y62 2 r56 0) := hD
          refine lv_if_eq (tgt := 204) hx hb dX3_readCommand_197 (by decide) (fun c65 => ?_) (fun c65 => ?_)
          · replace hf := op_t c65 hf
            refine lv_iconst (v := 0) hx hb dX3_readCommand_204 (by decide) ?_
            exact hret _ _ _ _ _ (y62, 2, r56, 0) dX3_readCommand_205 ⟨(op_k hf), (Or.inl rfl)⟩ hP hS
          · replace hf := op_f c65 hf
            refine lv_iconst (v := 1) hx hb dX3_readCommand_200 (by decide) ?_
            refine lv_goto (tgt := 205) hx hb dX3_readCommand_201 (by decide) ?_
            exact hret _ _ _ _ _ (y62, 2, r56, 0) dX3_readCommand_205 ⟨(op_k hf), (Or.inr rfl)⟩ hP hS
    · replace hf := op_f c10 hf
      refine lv_aload_n hx hb dX3_readCommand_44 rfl (lv_at hl 0 rfl) ?_
      refine lv_iconst (v := 1) hx hb dX3_readCommand_45 (by decide) ?_
      refine va_put (D := D) (ci := 3) (v := .int 1) (ty := .int) (C := RX3) (T := TX3) (N := 6) hx hb hts iX3 tyX3 tyX3_ok nmX3 hown hK hP hD hS 0 rfl rfl 3 (by decide) w22 (fun _ h9 => h9) rfl (by decide +kernel) rfl rfl (Nat.le_of_ble_eq_true rfl) dX3_readCommand_46 (fun H locs hP hD hS => ?_)
      replace hP : va_P D vwCl (wS cC h g1 sc sl y7 1 0 0) H := hP
      replace hD : va_D A (wS cC h g1 sc sl y7 1 0 0) := hD
      refine lv_aload_n hx hb dX3_readCommand_49 rfl (lv_at hl 0 rfl) ?_
      refine lv_aload_n hx hb dX3_readCommand_50 rfl (lv_at hl 0 rfl) ?_
      obtain ⟨⟨r66, y67⟩, h68, hf⟩ := op_b hf
      refine ck_VI (st := [.ref h, .ref h]) (rest := [.ref h]) (As := []) (C := RX3) (ci := 3) ⟨hx, hb, hml, hown, hts⟩ (gE_ok tL tM adK adV) (c_X3_takeNumber l D cI cC cK cO tL tM adK adV h g1 sc sl y7 1 0 0  K _ h68) (cwV 0 hts gX3_readCommand_X3_takeNumber rfl rfl rfl hv_X3_takeNumber ⟨Nat.le_of_ble_eq_true rfl, Nat.le_of_ble_eq_true rfl⟩) hK hP hD hS hA hE [0, 1] rfl rfl rfl rfl rfl (fun _ => rfl) rfl hl.1 rfl (Nat.le_of_ble_eq_true rfl) dX3_readCommand_51 ⟨Nat.zero_le _, Nat.zero_le _⟩ (fun r u H locs hw hP hD hS => ?_)
      cases hw
      replace hP : va_P D vwCl (wS cC h g1 sc sl y67 1 0 0) H := hP
      replace hD : va_D A (wS cC h g1 sc sl y67 1 0 0) := hD
      refine va_put (D := D) (ci := 3) (v := .int r66) (ty := .int) (C := RX3) (T := TX3) (N := 6) hx hb hts iX3 tyX3 tyX3_ok nmX3 hown hK hP hD hS 0 rfl rfl 4 (by decide) w25 (fun _ h9 => h9) rfl (by decide +kernel) rfl rfl (Nat.le_of_ble_eq_true rfl) dX3_readCommand_54 (fun H locs hP hD hS => ?_)
      replace hP : va_P D vwCl (wS cC h g1 sc sl y67 1 r66 0) H := hP
      replace hD : va_D A (wS cC h g1 sc sl y67 1 r66 0) := hD
      refine lv_aload_n hx hb dX3_readCommand_57 rfl (lv_at hl 0 rfl) ?_
      refine lv_aload_n hx hb dX3_readCommand_58 rfl (lv_at hl 0 rfl) ?_
      refine va_ldcS hx hb hown (hE.2.2.2 2 (46, " ") rfl) dX3_readCommand_59 ?_
      obtain ⟨⟨r70, y71⟩, h72, hf⟩ := op_b hf
      refine ck_VI (st := [.ref (adK 2), .ref h, .ref h]) (rest := [.ref h]) (As := [.ref (adK 2)]) (C := RX3) (ci := 3) ⟨hx, hb, hml, hown, hts⟩ (gE_ok tL tM adK adV) (c_X3_takeWord l D cI cC cK cO tL tM adK adV h g1 sc sl y67 1 r66 0 2 (by decide) K _ h72) (cwV 1 hts gX3_readCommand_X3_takeWord rfl rfl rfl hv_X3_takeWord ⟨Nat.le_of_ble_eq_true rfl, Nat.le_of_ble_eq_true rfl⟩) hK hP hD hS hA hE [0, 1] rfl rfl rfl rfl rfl (fun _ => rfl) rfl hl.1 rfl (Nat.le_of_ble_eq_true rfl) dX3_readCommand_61 ⟨Nat.zero_le _, Nat.zero_le _⟩ (fun r u H locs hw hP hD hS => ?_)
      obtain ⟨hw, z73⟩ := hw
      cases hw
      replace hP : va_P D vwCl (wS cC h g1 sc sl y71 1 r66 0) H := hP
      replace hD : va_D A (wS cC h g1 sc sl y71 1 r66 0) := hD
      refine lv_if_eq (tgt := 74) hx hb dX3_readCommand_64 (by decide) (fun c74 => ?_) (fun c74 => ?_)
      · replace hf := op_t c74 hf
        refine lv_iconst (v := (-1)) hx hb dX3_readCommand_74 (by decide) ?_
        refine va_put (D := D) (ci := 3) (v := .int (-1)) (ty := .int) (C := RX3) (T := TX3) (N := 6) hx hb hts iX3 tyX3 tyX3_ok nmX3 hown hK hP hD hS 0 rfl rfl 5 (by decide) w28 (fun _ h9 => h9) rfl (by decide +kernel) rfl rfl (Nat.le_of_ble_eq_true rfl) dX3_readCommand_75 (fun H locs hP hD hS => ?_)
        replace hP : va_P D vwCl (wS cC h g1 sc sl y71 1 r66 (-1)) H := hP
        replace hD : va_D A (wS cC h g1 sc sl y71 1 r66 (-1)) := hD
        refine lv_goto (tgt := 175) hx hb dX3_readCommand_78 (by decide) ?_
        refine lv_aload_n hx hb dX3_readCommand_175 rfl (lv_at hl 0 rfl) ?_
        refine va_get (D := D) (ci := 3) (v := .int r66) (C := RX3) (T := TX3) (N := 6) hx hb hts iX3 hown hK hP 0 rfl rfl 4 (by decide) w25 (fun _ h9 => h9) rfl dX3_readCommand_176 ?_
        refine lv_iconst (v := (-1)) hx hb dX3_readCommand_179 (by decide) ?_
        refine lv_icmp_eq (tgt := 204) hx hb dX3_readCommand_180 (by decide) (fun c75 => ?_) (fun c75 => ?_)
        · replace hf := op_t c75 hf
          refine lv_iconst (v := 0) hx hb dX3_readCommand_204 (by decide) ?_
          exact hret _ _ _ _ _ (y71, 1, r66, (-1)) dX3_readCommand_205 ⟨(op_k hf), (Or.inl rfl)⟩ hP hS
        · replace hf := op_f c75 hf
          refine lv_aload_n hx hb dX3_readCommand_183 rfl (lv_at hl 0 rfl) ?_
          refine va_get (D := D) (ci := 3) (v := .int (-1)) (C := RX3) (T := TX3) (N := 6) hx hb hts iX3 hown hK hP 0 rfl rfl 5 (by decide) w28 (fun _ h9 => h9) rfl dX3_readCommand_184 ?_
          refine lv_iconst (v := (-1)) hx hb dX3_readCommand_187 (by decide) ?_
          refine lv_icmp_eq (tgt := 204) hx hb dX3_readCommand_188 (by decide) (fun _ => ?_) (fun c9 => absurd c9 (by decide))
          refine lv_iconst (v := 0) hx hb dX3_readCommand_204 (by decide) ?_
          exact hret _ _ _ _ _ (y71, 1, r66, (-1)) dX3_readCommand_205 ⟨(op_k hf), (Or.inl rfl)⟩ hP hS
      · replace hf := op_f c74 hf
        refine lv_aload_n hx hb dX3_readCommand_67 rfl (lv_at hl 0 rfl) ?_
        obtain ⟨⟨r76, y77⟩, h78, hf⟩ := op_b hf
        refine ck_VI (st := [.ref h, .ref h]) (rest := [.ref h]) (As := []) (C := RX3) (ci := 3) ⟨hx, hb, hml, hown, hts⟩ (gE_ok tL tM adK adV) (c_X3_takeNumber l D cI cC cK cO tL tM adK adV h g1 sc sl y71 1 r66 0  K _ h78) (cwV 0 hts gX3_readCommand_X3_takeNumber rfl rfl rfl hv_X3_takeNumber ⟨Nat.le_of_ble_eq_true rfl, Nat.le_of_ble_eq_true rfl⟩) hK hP hD hS hA hE [0, 1] rfl rfl rfl rfl rfl (fun _ => rfl) rfl hl.1 rfl (Nat.le_of_ble_eq_true rfl) dX3_readCommand_68 ⟨Nat.zero_le _, Nat.zero_le _⟩ (fun r u H locs hw hP hD hS => ?_)
        cases hw
        replace hP : va_P D vwCl (wS cC h g1 sc sl y77 1 r66 0) H := hP
        replace hD : va_D A (wS cC h g1 sc sl y77 1 r66 0) := hD
        refine lv_goto (tgt := 75) hx hb dX3_readCommand_71 (by decide) ?_
        refine va_put (D := D) (ci := 3) (v := .int r76) (ty := .int) (C := RX3) (T := TX3) (N := 6) hx hb hts iX3 tyX3 tyX3_ok nmX3 hown hK hP hD hS 0 rfl rfl 5 (by decide) w28 (fun _ h9 => h9) rfl (by decide +kernel) rfl rfl (Nat.le_of_ble_eq_true rfl) dX3_readCommand_75 (fun H locs hP hD hS => ?_)
        replace hP : va_P D vwCl (wS cC h g1 sc sl y77 1 r66 r76) H := hP
        replace hD : va_D A (wS cC h g1 sc sl y77 1 r66 r76) := hD
        refine lv_goto (tgt := 175) hx hb dX3_readCommand_78 (by decide) ?_
        refine lv_aload_n hx hb dX3_readCommand_175 rfl (lv_at hl 0 rfl) ?_
        refine va_get (D := D) (ci := 3) (v := .int r66) (C := RX3) (T := TX3) (N := 6) hx hb hts iX3 hown hK hP 0 rfl rfl 4 (by decide) w25 (fun _ h9 => h9) rfl dX3_readCommand_176 ?_
        refine lv_iconst (v := (-1)) hx hb dX3_readCommand_179 (by decide) ?_
        refine lv_icmp_eq (tgt := 204) hx hb dX3_readCommand_180 (by decide) (fun c80 => ?_) (fun c80 => ?_)
        · replace hf := op_t c80 hf
          refine lv_iconst (v := 0) hx hb dX3_readCommand_204 (by decide) ?_
          exact hret _ _ _ _ _ (y77, 1, r66, r76) dX3_readCommand_205 ⟨(op_k hf), (Or.inl rfl)⟩ hP hS
        · replace hf := op_f c80 hf
          refine lv_aload_n hx hb dX3_readCommand_183 rfl (lv_at hl 0 rfl) ?_
          refine va_get (D := D) (ci := 3) (v := .int r76) (C := RX3) (T := TX3) (N := 6) hx hb hts iX3 hown hK hP 0 rfl rfl 5 (by decide) w28 (fun _ h9 => h9) rfl dX3_readCommand_184 ?_
          refine lv_iconst (v := (-1)) hx hb dX3_readCommand_187 (by decide) ?_
          refine lv_icmp_eq (tgt := 204) hx hb dX3_readCommand_188 (by decide) (fun c81 => ?_) (fun c81 => ?_)
          · replace hf := op_t c81 hf
            refine lv_iconst (v := 0) hx hb dX3_readCommand_204 (by decide) ?_
            exact hret _ _ _ _ _ (y77, 1, r66, r76) dX3_readCommand_205 ⟨(op_k hf), (Or.inl rfl)⟩ hP hS
          · replace hf := op_f c81 hf
            refine lv_aload_n hx hb dX3_readCommand_191 rfl (lv_at hl 0 rfl) ?_
            refine va_ldcS hx hb hown (hE.2.2.2 7 (56, ";") rfl) dX3_readCommand_192 ?_
            obtain ⟨⟨r82, y83⟩, h84, hf⟩ := op_b hf
            refine ck_VI (st := [.ref (adK 7), .ref h]) (rest := []) (As := [.ref (adK 7)]) (C := RX3) (ci := 3) ⟨hx, hb, hml, hown, hts⟩ (gE_ok tL tM adK adV) (c_X3_takeWord l D cI cC cK cO tL tM adK adV h g1 sc sl y77 1 r66 r76 7 (by decide) K _ h84) (cwV 1 hts gX3_readCommand_X3_takeWord rfl rfl rfl hv_X3_takeWord ⟨Nat.le_of_ble_eq_true rfl, Nat.le_of_ble_eq_true rfl⟩) hK hP hD hS hA hE [0, 1] rfl rfl rfl rfl rfl (fun _ => rfl) rfl hl.1 rfl (Nat.le_of_ble_eq_true rfl) dX3_readCommand_194 ⟨Nat.zero_le _, Nat.zero_le _⟩ (fun r u H locs hw hP hD hS => ?_)
            obtain ⟨hw, z85⟩ := hw
            cases hw
            replace hP : va_P D vwCl (wS cC h g1 sc sl y83 1 r66 r76) H := hP
            replace hD : va_D A (wS cC h g1 sc sl y83 1 r66 r76) := hD
            refine lv_if_eq (tgt := 204) hx hb dX3_readCommand_197 (by decide) (fun c86 => ?_) (fun c86 => ?_)
            · replace hf := op_t c86 hf
              refine lv_iconst (v := 0) hx hb dX3_readCommand_204 (by decide) ?_
              exact hret _ _ _ _ _ (y83, 1, r66, r76) dX3_readCommand_205 ⟨(op_k hf), (Or.inl rfl)⟩ hP hS
            · replace hf := op_f c86 hf
              refine lv_iconst (v := 1) hx hb dX3_readCommand_200 (by decide) ?_
              refine lv_goto (tgt := 205) hx hb dX3_readCommand_201 (by decide) ?_
              exact hret _ _ _ _ _ (y83, 1, r66, r76) dX3_readCommand_205 ⟨(op_k hf), (Or.inr rfl)⟩ hP hS
  · replace hf := op_f c5 hf
    refine lv_aload_n hx hb dX3_readCommand_19 rfl (lv_at hl 0 rfl) ?_
    refine lv_iconst (v := 0) hx hb dX3_readCommand_20 (by decide) ?_
    refine va_put (D := D) (ci := 3) (v := .int 0) (ty := .int) (C := RX3) (T := TX3) (N := 6) hx hb hts iX3 tyX3 tyX3_ok nmX3 hown hK hP hD hS 0 rfl rfl 3 (by decide) w22 (fun _ h9 => h9) rfl (by decide +kernel) rfl rfl (Nat.le_of_ble_eq_true rfl) dX3_readCommand_21 (fun H locs hP hD hS => ?_)
    replace hP : va_P D vwCl (wS cC h g1 sc sl y2 0 0 0) H := hP
    replace hD : va_D A (wS cC h g1 sc sl y2 0 0 0) := hD
    refine lv_aload_n hx hb dX3_readCommand_24 rfl (lv_at hl 0 rfl) ?_
    refine lv_aload_n hx hb dX3_readCommand_25 rfl (lv_at hl 0 rfl) ?_
    obtain ⟨⟨r87, y88⟩, h89, hf⟩ := op_b hf
    refine ck_VI (st := [.ref h, .ref h]) (rest := [.ref h]) (As := []) (C := RX3) (ci := 3) ⟨hx, hb, hml, hown, hts⟩ (gE_ok tL tM adK adV) (c_X3_takeKind l D cI cC cK cO tL tM adK adV h g1 sc sl y2 0 0 0  K _ h89) (cwV 0 hts gX3_readCommand_X3_takeKind rfl rfl rfl hv_X3_takeKind ⟨Nat.le_of_ble_eq_true rfl, Nat.le_of_ble_eq_true rfl⟩) hK hP hD hS hA hE [0, 1] rfl rfl rfl rfl rfl (fun _ => rfl) rfl hl.1 rfl (Nat.le_of_ble_eq_true rfl) dX3_readCommand_26 ⟨Nat.zero_le _, Nat.zero_le _⟩ (fun r u H locs hw hP hD hS => ?_)
    cases hw
    replace hP : va_P D vwCl (wS cC h g1 sc sl y88 0 0 0) H := hP
    replace hD : va_D A (wS cC h g1 sc sl y88 0 0 0) := hD
    refine va_put (D := D) (ci := 3) (v := .int r87) (ty := .int) (C := RX3) (T := TX3) (N := 6) hx hb hts iX3 tyX3 tyX3_ok nmX3 hown hK hP hD hS 0 rfl rfl 4 (by decide) w25 (fun _ h9 => h9) rfl (by decide +kernel) rfl rfl (Nat.le_of_ble_eq_true rfl) dX3_readCommand_29 (fun H locs hP hD hS => ?_)
    replace hP : va_P D vwCl (wS cC h g1 sc sl y88 0 r87 0) H := hP
    replace hD : va_D A (wS cC h g1 sc sl y88 0 r87 0) := hD
    refine lv_goto (tgt := 175) hx hb dX3_readCommand_32 (by decide) ?_
    refine lv_aload_n hx hb dX3_readCommand_175 rfl (lv_at hl 0 rfl) ?_
    refine va_get (D := D) (ci := 3) (v := .int r87) (C := RX3) (T := TX3) (N := 6) hx hb hts iX3 hown hK hP 0 rfl rfl 4 (by decide) w25 (fun _ h9 => h9) rfl dX3_readCommand_176 ?_
    refine lv_iconst (v := (-1)) hx hb dX3_readCommand_179 (by decide) ?_
    refine lv_icmp_eq (tgt := 204) hx hb dX3_readCommand_180 (by decide) (fun c91 => ?_) (fun c91 => ?_)
    · replace hf := op_t c91 hf
      refine lv_iconst (v := 0) hx hb dX3_readCommand_204 (by decide) ?_
      exact hret _ _ _ _ _ (y88, 0, r87, 0) dX3_readCommand_205 ⟨(op_k hf), (Or.inl rfl)⟩ hP hS
    · replace hf := op_f c91 hf
      refine lv_aload_n hx hb dX3_readCommand_183 rfl (lv_at hl 0 rfl) ?_
      refine va_get (D := D) (ci := 3) (v := .int 0) (C := RX3) (T := TX3) (N := 6) hx hb hts iX3 hown hK hP 0 rfl rfl 5 (by decide) w28 (fun _ h9 => h9) rfl dX3_readCommand_184 ?_
      refine lv_iconst (v := (-1)) hx hb dX3_readCommand_187 (by decide) ?_
      refine lv_icmp_eq (tgt := 204) hx hb dX3_readCommand_188 (by decide) (fun c9 => absurd c9 (by decide)) (fun _ => ?_)
      refine lv_aload_n hx hb dX3_readCommand_191 rfl (lv_at hl 0 rfl) ?_
      refine va_ldcS hx hb hown (hE.2.2.2 7 (56, ";") rfl) dX3_readCommand_192 ?_
      obtain ⟨⟨r92, y93⟩, h94, hf⟩ := op_b hf
      refine ck_VI (st := [.ref (adK 7), .ref h]) (rest := []) (As := [.ref (adK 7)]) (C := RX3) (ci := 3) ⟨hx, hb, hml, hown, hts⟩ (gE_ok tL tM adK adV) (c_X3_takeWord l D cI cC cK cO tL tM adK adV h g1 sc sl y88 0 r87 0 7 (by decide) K _ h94) (cwV 1 hts gX3_readCommand_X3_takeWord rfl rfl rfl hv_X3_takeWord ⟨Nat.le_of_ble_eq_true rfl, Nat.le_of_ble_eq_true rfl⟩) hK hP hD hS hA hE [0, 1] rfl rfl rfl rfl rfl (fun _ => rfl) rfl hl.1 rfl (Nat.le_of_ble_eq_true rfl) dX3_readCommand_194 ⟨Nat.zero_le _, Nat.zero_le _⟩ (fun r u H locs hw hP hD hS => ?_)
      obtain ⟨hw, z95⟩ := hw
      cases hw
      replace hP : va_P D vwCl (wS cC h g1 sc sl y93 0 r87 0) H := hP
      replace hD : va_D A (wS cC h g1 sc sl y93 0 r87 0) := hD
      refine lv_if_eq (tgt := 204) hx hb dX3_readCommand_197 (by decide) (fun c96 => ?_) (fun c96 => ?_)
      · replace hf := op_t c96 hf
        refine lv_iconst (v := 0) hx hb dX3_readCommand_204 (by decide) ?_
        exact hret _ _ _ _ _ (y93, 0, r87, 0) dX3_readCommand_205 ⟨(op_k hf), (Or.inl rfl)⟩ hP hS
      · replace hf := op_f c96 hf
        refine lv_iconst (v := 1) hx hb dX3_readCommand_200 (by decide) ?_
        refine lv_goto (tgt := 205) hx hb dX3_readCommand_201 (by decide) ?_
        exact hret _ _ _ _ _ (y93, 0, r87, 0) dX3_readCommand_205 ⟨(op_k hf), (Or.inr rfl)⟩ hP hS
