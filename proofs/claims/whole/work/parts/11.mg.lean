/-! laid by wip/whole/gen.py: walks of the reference's methods -/
set_option maxHeartbeats 4000000 in
set_option maxRecDepth 100000 in
theorem c_X5_undo (l : Launch) (D : va_G) (cI cC cK cO : ClassId) (h : Nat) (a1 : Nat) (a2 : Nat) (a3 : Nat) (a4 : Nat) (zs : Nat → Int32) (zb : Nat → Int32) (za : Nat → Int32) (zt : Nat → Int32) (zl : Int32) (zu : Int32) (zp : Int32) (zw : Int32) (zf : Int32) (zg : Int32) (zc : Int32) (K : Nat) (R : Int32 × (Nat → Int32) × Int32) (hf : f_X5_undo K zs zb zu = some R) : KI l D (TY cI cC cK cO) E0 yX5_undo wsX5_undo 0 [.ref h] (wM cI h a1 a2 a3 a4 zs zb za zt zl zu zp zw zf zg zc) (fun (r : Int32) (u : (Nat → Int32) × Int32) => (r, u) = R) (fun u => (wM cI h a1 a2 a3 a4 (u.1) zb za zt zl (u.2) zp zw zf zg zc)) := by
  refine KI.ofI (cc := cX5_undo) (maxL := 2) (C := RX5) (by decide) rfl rfl (Nat.le_of_ble_eq_true rfl) ?_
  intro p e s m args below meth c A Q hx hb hml hts hown hP hK hD hA hE hS hret ls hl
  replace hl : lv_has ls 2 [(0, .ref h)] := hl
  have w13 := hts (.fieldLink RX5 13 "BlockClerksModel" "before" "[I") (by decide +kernel)
  have w26 := hts (.fieldLink RX5 26 "BlockClerksModel" "undoMany" "I") (by decide +kernel)
  have w7 := hts (.fieldLink RX5 7 "BlockClerksModel" "s" "[I") (by decide +kernel)
  have iX5 : ∀ w ∈ wsX50, w ∈ wsX5_undo := by decide +kernel
  have L_22 : ∀ (n : Nat) (zs : Nat → Int32) (zu : Int32) (x1 : Int32) (hf : f_X5_undo_22 zb zu n x1 zs = some R) (H : Heap) (locs : List Loc) (ls : Array Slot), va_P D vwCl (wM cI h a1 a2 a3 a4 zs zb za zt zl zu zp zw zf zg zc) H → va_D A (wM cI h a1 a2 a3 a4 zs zb za zt zl zu zp zw zf zg zc) → va_S A s.heap H locs → lv_has ls 2 [(0, .ref h), (1, .int x1)] → W p l e (rm 0) s m args below meth c H locs 0 0 Q (F0 m 22 ls []) := by
    intro n
    induction n with
    | zero =>
      intro zs zu x1 hf
      cases hf
    | succ n ih =>
      intro zs zu x1 hf H locs ls hP hD hS hl
      rw [f_X5_undo_22] at hf
      refine lv_iload_n hx hb dX5_undo_22 rfl (lv_at hl 1 rfl) ?_
      refine lv_sipush (v := 3053) hx hb dX5_undo_23 (by decide) ?_
      refine lv_icmp_ge (tgt := 56) hx hb dX5_undo_26 (by decide) (fun c2 => ?_) (fun c2 => ?_)
      · replace hf := op_t c2 hf
        refine lv_aload_n hx hb dX5_undo_56 rfl (lv_at hl 0 rfl) ?_
        refine va_get (D := D) (ci := 5) (v := .int zu) (C := RX5) (T := TX5) (N := 11) hx hb hts iX5 hown hK hP 0 rfl rfl 5 (by decide) w26 (fun _ h9 => h9) rfl dX5_undo_57 ?_
        exact hret _ _ _ _ _ (zs, zu) dX5_undo_60 (op_k hf) hP hS
      · replace hf := op_f c2 hf
        refine lv_aload_n hx hb dX5_undo_29 rfl (lv_at hl 0 rfl) ?_
        refine va_get (D := D) (ci := 5) (v := .ref a1) (C := RX5) (T := TX5) (N := 11) hx hb hts iX5 hown hK hP 0 rfl rfl 0 (by decide) w7 (fun _ h9 => h9) rfl dX5_undo_30 ?_
        refine lv_iload_n hx hb dX5_undo_33 rfl (lv_at hl 1 rfl) ?_
        refine lv_aload_n hx hb dX5_undo_34 rfl (lv_at hl 0 rfl) ?_
        refine va_get (D := D) (ci := 5) (v := .ref a2) (C := RX5) (T := TX5) (N := 11) hx hb hts iX5 hown hK hP 0 rfl rfl 1 (by decide) w13 (fun _ h9 => h9) rfl dX5_undo_35 ?_
        refine lv_sipush (v := 3053) hx hb dX5_undo_38 (by decide) ?_
        refine lv_aload_n hx hb dX5_undo_41 rfl (lv_at hl 0 rfl) ?_
        refine va_get (D := D) (ci := 5) (v := .int zu) (C := RX5) (T := TX5) (N := 11) hx hb hts iX5 hown hK hP 0 rfl rfl 5 (by decide) w26 (fun _ h9 => h9) rfl dX5_undo_42 ?_
        refine lv_imul hx hb dX5_undo_45 ?_
        refine lv_iload_n hx hb dX5_undo_46 rfl (lv_at hl 1 rfl) ?_
        refine lv_iadd hx hb dX5_undo_47 ?_
        obtain ⟨q3, hf⟩ := op_x hf
        refine ck_iald (j := ((3053 * zu) + x1).toNatClampNeg) hx hb hK hP 2 0 rfl rfl q3 rfl dX5_undo_48 ?_
        obtain ⟨q4, hf⟩ := op_x hf
        obtain ⟨y5, e6, hf⟩ := nb_o hf
        refine ck_iast (f' := y5) hx hb hK hP hD hS 1 0 rfl rfl q4 dX5_undo_49 e6 (fun H locs hP hD hS => ?_)
        replace hP : va_P D vwCl (wM cI h a1 a2 a3 a4 y5 zb za zt zl zu zp zw zf zg zc) H := hP
        replace hD : va_D A (wM cI h a1 a2 a3 a4 y5 zb za zt zl zu zp zw zf zg zc) := hD
        refine lv_iinc (v := (x1 + 1)) (lv' := [(1, .int (x1 + 1)), (0, .ref h)]) hx hb dX5_undo_50 hl (k := 1) rfl rfl (by decide) rfl (fun ls hl => ?_)
        refine lv_goto (tgt := 22) hx hb dX5_undo_53 (by decide) ?_
        exact ih y5 zu (x1 + 1) hf _ _ _ hP hD hS (lv_sub hl [1, 0] rfl)
  rw [f_X5_undo] at hf
  refine lv_aload_n hx hb dX5_undo_0 rfl (lv_at hl 0 rfl) ?_
  refine va_get (D := D) (ci := 5) (v := .int zu) (C := RX5) (T := TX5) (N := 11) hx hb hts iX5 hown hK hP 0 rfl rfl 5 (by decide) w26 (fun _ h9 => h9) rfl dX5_undo_1 ?_
  refine lv_if_ne (tgt := 10) hx hb dX5_undo_4 (by decide) (fun c1 => ?_) (fun c1 => ?_)
  · replace hf := op_f c1 hf
    refine lv_aload_n hx hb dX5_undo_10 rfl (lv_at hl 0 rfl) ?_
    refine lv_dup hx hb dX5_undo_11 rfl ?_
    refine va_get (D := D) (ci := 5) (v := .int zu) (C := RX5) (T := TX5) (N := 11) hx hb hts iX5 hown hK hP 0 rfl rfl 5 (by decide) w26 (fun _ h9 => h9) rfl dX5_undo_12 ?_
    refine lv_iconst (v := 1) hx hb dX5_undo_15 (by decide) ?_
    refine lv_isub hx hb dX5_undo_16 ?_
    refine va_put (D := D) (ci := 5) (v := .int (zu - 1)) (ty := .int) (C := RX5) (T := TX5) (N := 11) hx hb hts iX5 tyX5 tyX5_ok nmX5 hown hK hP hD hS 0 rfl rfl 5 (by decide) w26 (fun _ h9 => h9) rfl (by decide +kernel) rfl rfl (Nat.le_of_ble_eq_true rfl) dX5_undo_17 (fun H locs hP hD hS => ?_)
    replace hP : va_P D vwCl (wM cI h a1 a2 a3 a4 zs zb za zt zl (zu - 1) zp zw zf zg zc) H := hP
    replace hD : va_D A (wM cI h a1 a2 a3 a4 zs zb za zt zl (zu - 1) zp zw zf zg zc) := hD
    refine lv_iconst (v := 0) hx hb dX5_undo_20 (by decide) ?_
    refine lv_istore_n (lv' := [(1, .int 0), (0, .ref h)]) hx hb dX5_undo_21 rfl hl (by decide) rfl (fun ls hl => ?_)
    exact L_22 K zs (zu - 1) 0 hf _ _ _ hP hD hS (lv_sub hl [1, 0] rfl)
  · replace hf := op_t c1 hf
    refine lv_bipush (v := (-2)) hx hb dX5_undo_7 (by decide) ?_
    exact hret _ _ _ _ _ (zs, zu) dX5_undo_9 (op_k hf) hP hS
set_option maxHeartbeats 4000000 in
set_option maxRecDepth 100000 in
theorem c_X5_type (l : Launch) (D : va_G) (cI cC cK cO : ClassId) (h : Nat) (a1 : Nat) (a2 : Nat) (a3 : Nat) (a4 : Nat) (zs : Nat → Int32) (zb : Nat → Int32) (za : Nat → Int32) (zt : Nat → Int32) (zl : Int32) (zu : Int32) (zp : Int32) (zw : Int32) (zf : Int32) (zg : Int32) (zc : Int32) (x1 : Int32) (R : Int32 × (Nat → Int32) × Int32) (hf : f_X5_type zt zl x1 = some R) : KI l D (TY cI cC cK cO) E0 yX5_type wsX5_type 1 [.ref h, .int x1] (wM cI h a1 a2 a3 a4 zs zb za zt zl zu zp zw zf zg zc) (fun (r : Int32) (u : (Nat → Int32) × Int32) => (r, u) = R) (fun u => (wM cI h a1 a2 a3 a4 zs zb za (u.1) (u.2) zu zp zw zf zg zc)) := by
  refine KI.ofI (cc := cX5_type) (maxL := 2) (C := RX5) (by decide) rfl rfl (Nat.le_of_ble_eq_true rfl) ?_
  intro p e s m args below meth c A Q hx hb hml hts hown hP hK hD hA hE hS hret ls hl
  replace hl : lv_has ls 2 [(0, .ref h), (1, .int x1)] := hl
  have w115 := hts (.fieldLink RX5 115 "BlockClerksModel" "length" "I") (by decide +kernel)
  have w19 := hts (.fieldLink RX5 19 "BlockClerksModel" "text" "[I") (by decide +kernel)
  have iX5 : ∀ w ∈ wsX50, w ∈ wsX5_type := by decide +kernel
  rw [f_X5_type] at hf
  refine lv_iload_n hx hb dX5_type_0 rfl (lv_at hl 1 rfl) ?_
  refine lv_bipush (v := 32) hx hb dX5_type_1 (by decide) ?_
  refine lv_bipush (v := 126) hx hb dX5_type_3 (by decide) ?_
  refine ck_SI (st := [.int 126, .int 32, .int x1]) (rest := []) (As := [.int x1, .int 32, .int 126]) ⟨hx, hb, hml, hown, hts⟩ E0_ok (c_X5_in l D cI cC cK cO  x1 32 126 _ rfl) (va_cwS 3 hts gX5_type_X5_in rfl rfl rfl hs_X5_in ⟨Nat.le_of_ble_eq_true rfl, Nat.le_of_ble_eq_true rfl⟩) hK hP hD hS hA hE rfl hl.1 rfl (Nat.le_of_ble_eq_true rfl) dX5_type_5 ⟨Nat.zero_le _, Nat.zero_le _⟩ (fun r H locs hw hP hS => ?_)
  obtain ⟨hw, z2⟩ := hw
  cases hw
  refine lv_if_ne (tgt := 13) hx hb dX5_type_8 (by decide) (fun c3 => ?_) (fun c3 => ?_)
  · replace hf := op_f c3 hf
    refine lv_aload_n hx hb dX5_type_13 rfl (lv_at hl 0 rfl) ?_
    refine va_get (D := D) (ci := 5) (v := .int zl) (C := RX5) (T := TX5) (N := 11) hx hb hts iX5 hown hK hP 0 rfl rfl 4 (by decide) w115 (fun _ h9 => h9) rfl dX5_type_14 ?_
    refine lv_bipush (v := 80) hx hb dX5_type_17 (by decide) ?_
    refine lv_icmp_ne (tgt := 25) hx hb dX5_type_19 (by decide) (fun c4 => ?_) (fun c4 => ?_)
    · replace hf := op_f c4 hf
      refine lv_aload_n hx hb dX5_type_25 rfl (lv_at hl 0 rfl) ?_
      refine va_get (D := D) (ci := 5) (v := .ref a4) (C := RX5) (T := TX5) (N := 11) hx hb hts iX5 hown hK hP 0 rfl rfl 3 (by decide) w19 (fun _ h9 => h9) rfl dX5_type_26 ?_
      refine lv_aload_n hx hb dX5_type_29 rfl (lv_at hl 0 rfl) ?_
      refine va_get (D := D) (ci := 5) (v := .int zl) (C := RX5) (T := TX5) (N := 11) hx hb hts iX5 hown hK hP 0 rfl rfl 4 (by decide) w115 (fun _ h9 => h9) rfl dX5_type_30 ?_
      refine lv_iload_n hx hb dX5_type_33 rfl (lv_at hl 1 rfl) ?_
      obtain ⟨q5, hf⟩ := op_x hf
      obtain ⟨y6, e7, hf⟩ := nb_o hf
      refine ck_iast (f' := y6) hx hb hK hP hD hS 4 0 rfl rfl q5 dX5_type_34 e7 (fun H locs hP hD hS => ?_)
      replace hP : va_P D vwCl (wM cI h a1 a2 a3 a4 zs zb za y6 zl zu zp zw zf zg zc) H := hP
      replace hD : va_D A (wM cI h a1 a2 a3 a4 zs zb za y6 zl zu zp zw zf zg zc) := hD
      refine lv_aload_n hx hb dX5_type_35 rfl (lv_at hl 0 rfl) ?_
      refine lv_dup hx hb dX5_type_36 rfl ?_
      refine va_get (D := D) (ci := 5) (v := .int zl) (C := RX5) (T := TX5) (N := 11) hx hb hts iX5 hown hK hP 0 rfl rfl 4 (by decide) w115 (fun _ h9 => h9) rfl dX5_type_37 ?_
      refine lv_iconst (v := 1) hx hb dX5_type_40 (by decide) ?_
      refine lv_iadd hx hb dX5_type_41 ?_
      refine va_put (D := D) (ci := 5) (v := .int (zl + 1)) (ty := .int) (C := RX5) (T := TX5) (N := 11) hx hb hts iX5 tyX5 tyX5_ok nmX5 hown hK hP hD hS 0 rfl rfl 4 (by decide) w115 (fun _ h9 => h9) rfl (by decide +kernel) rfl rfl (Nat.le_of_ble_eq_true rfl) dX5_type_42 (fun H locs hP hD hS => ?_)
      replace hP : va_P D vwCl (wM cI h a1 a2 a3 a4 zs zb za y6 (zl + 1) zu zp zw zf zg zc) H := hP
      replace hD : va_D A (wM cI h a1 a2 a3 a4 zs zb za y6 (zl + 1) zu zp zw zf zg zc) := hD
      refine lv_aload_n hx hb dX5_type_45 rfl (lv_at hl 0 rfl) ?_
      refine va_get (D := D) (ci := 5) (v := .int (zl + 1)) (C := RX5) (T := TX5) (N := 11) hx hb hts iX5 hown hK hP 0 rfl rfl 4 (by decide) w115 (fun _ h9 => h9) rfl dX5_type_46 ?_
      exact hret _ _ _ _ _ (y6, (zl + 1)) dX5_type_49 (op_k hf) hP hS
    · replace hf := op_t c4 hf
      refine lv_bipush (v := (-3)) hx hb dX5_type_22 (by decide) ?_
      exact hret _ _ _ _ _ (zt, zl) dX5_type_24 (op_k hf) hP hS
  · replace hf := op_t c3 hf
    refine lv_iconst (v := (-1)) hx hb dX5_type_11 (by decide) ?_
    exact hret _ _ _ _ _ (zt, zl) dX5_type_12 (op_k hf) hP hS
set_option maxHeartbeats 4000000 in
set_option maxRecDepth 100000 in
theorem c_X5_clearText (l : Launch) (D : va_G) (cI cC cK cO : ClassId) (h : Nat) (a1 : Nat) (a2 : Nat) (a3 : Nat) (a4 : Nat) (zs : Nat → Int32) (zb : Nat → Int32) (za : Nat → Int32) (zt : Nat → Int32) (zl : Int32) (zu : Int32) (zp : Int32) (zw : Int32) (zf : Int32) (zg : Int32) (zc : Int32) (R : Int32 × Int32) (hf : f_X5_clearText zl = some R) : KI l D (TY cI cC cK cO) E0 yX5_clearText wsX5_clearText 0 [.ref h] (wM cI h a1 a2 a3 a4 zs zb za zt zl zu zp zw zf zg zc) (fun (r : Int32) (u : Int32) => (r, u) = R) (fun u => (wM cI h a1 a2 a3 a4 zs zb za zt u zu zp zw zf zg zc)) := by
  refine KI.ofI (cc := cX5_clearText) (maxL := 2) (C := RX5) (by decide) rfl rfl (Nat.le_of_ble_eq_true rfl) ?_
  intro p e s m args below meth c A Q hx hb hml hts hown hP hK hD hA hE hS hret ls hl
  replace hl : lv_has ls 2 [(0, .ref h)] := hl
  have w115 := hts (.fieldLink RX5 115 "BlockClerksModel" "length" "I") (by decide +kernel)
  have iX5 : ∀ w ∈ wsX50, w ∈ wsX5_clearText := by decide +kernel
  rw [f_X5_clearText] at hf
  refine lv_aload_n hx hb dX5_clearText_0 rfl (lv_at hl 0 rfl) ?_
  refine va_get (D := D) (ci := 5) (v := .int zl) (C := RX5) (T := TX5) (N := 11) hx hb hts iX5 hown hK hP 0 rfl rfl 4 (by decide) w115 (fun _ h9 => h9) rfl dX5_clearText_1 ?_
  refine lv_istore_n (lv' := [(1, .int zl), (0, .ref h)]) hx hb dX5_clearText_4 rfl hl (by decide) rfl (fun ls hl => ?_)
  refine lv_aload_n hx hb dX5_clearText_5 rfl (lv_at hl 1 rfl) ?_
  refine lv_iconst (v := 0) hx hb dX5_clearText_6 (by decide) ?_
  refine va_put (D := D) (ci := 5) (v := .int 0) (ty := .int) (C := RX5) (T := TX5) (N := 11) hx hb hts iX5 tyX5 tyX5_ok nmX5 hown hK hP hD hS 0 rfl rfl 4 (by decide) w115 (fun _ h9 => h9) rfl (by decide +kernel) rfl rfl (Nat.le_of_ble_eq_true rfl) dX5_clearText_7 (fun H locs hP hD hS => ?_)
  replace hP : va_P D vwCl (wM cI h a1 a2 a3 a4 zs zb za zt 0 zu zp zw zf zg zc) H := hP
  replace hD : va_D A (wM cI h a1 a2 a3 a4 zs zb za zt 0 zu zp zw zf zg zc) := hD
  refine lv_iload_n hx hb dX5_clearText_10 rfl (lv_at hl 0 rfl) ?_
  exact hret _ _ _ _ _ (0) dX5_clearText_11 (op_k hf) hP hS
set_option maxHeartbeats 4000000 in
set_option maxRecDepth 100000 in
theorem c_X5_has (l : Launch) (D : va_G) (cI cC cK cO : ClassId) (h : Nat) (a1 : Nat) (a2 : Nat) (a3 : Nat) (a4 : Nat) (zs : Nat → Int32) (zb : Nat → Int32) (za : Nat → Int32) (zt : Nat → Int32) (zl : Int32) (zu : Int32) (zp : Int32) (zw : Int32) (zf : Int32) (zg : Int32) (zc : Int32) (x1 : Int32) (x2 : Int32) (R : Int32) (hf : f_X5_has zt zl zp x1 x2 = some R) : KI l D (TY cI cC cK cO) E0 yX5_has wsX5_has 0 [.ref h, .int x1, .int x2] (wM cI h a1 a2 a3 a4 zs zb za zt zl zu zp zw zf zg zc) (fun (r : Int32) (u : Unit) => r = R ∧ (r = 0 ∨ r = 1)) (fun u => (wM cI h a1 a2 a3 a4 zs zb za zt zl zu zp zw zf zg zc)) := by
  refine KI.ofZ (cc := cX5_has) (maxL := 3) (C := RX5) (by decide) rfl rfl (Nat.le_of_ble_eq_true rfl) (fun _ _ h => h.2) ?_
  intro p e s m args below meth c A Q hx hb hml hts hown hP hK hD hA hE hS hret ls hl
  replace hl : lv_has ls 3 [(0, .ref h), (1, .int x1), (2, .int x2)] := hl
  have w115 := hts (.fieldLink RX5 115 "BlockClerksModel" "length" "I") (by decide +kernel)
  have w127 := hts (.fieldLink RX5 127 "BlockClerksModel" "at" "I") (by decide +kernel)
  have w19 := hts (.fieldLink RX5 19 "BlockClerksModel" "text" "[I") (by decide +kernel)
  have iX5 : ∀ w ∈ wsX50, w ∈ wsX5_has := by decide +kernel
  rw [f_X5_has] at hf
  refine lv_iload_n hx hb dX5_has_0 rfl (lv_at hl 2 rfl) ?_
  refine lv_if_eq (tgt := 32) hx hb dX5_has_1 (by decide) (fun c1 => ?_) (fun c1 => ?_)
  · replace hf := op_t c1 hf
    refine lv_iconst (v := 1) hx hb dX5_has_32 (by decide) ?_
    refine lv_goto (tgt := 37) hx hb dX5_has_33 (by decide) ?_
    exact hret _ _ _ _ _ () dX5_has_37 ⟨(op_k hf), (Or.inr rfl)⟩ hP hS
  · replace hf := op_f c1 hf
    refine lv_aload_n hx hb dX5_has_4 rfl (lv_at hl 0 rfl) ?_
    refine va_get (D := D) (ci := 5) (v := .int zp) (C := RX5) (T := TX5) (N := 11) hx hb hts iX5 hown hK hP 0 rfl rfl 6 (by decide) w127 (fun _ h9 => h9) rfl dX5_has_5 ?_
    refine lv_iload_n hx hb dX5_has_8 rfl (lv_at hl 1 rfl) ?_
    refine lv_iadd hx hb dX5_has_9 ?_
    refine lv_aload_n hx hb dX5_has_10 rfl (lv_at hl 0 rfl) ?_
    refine va_get (D := D) (ci := 5) (v := .int zl) (C := RX5) (T := TX5) (N := 11) hx hb hts iX5 hown hK hP 0 rfl rfl 4 (by decide) w115 (fun _ h9 => h9) rfl dX5_has_11 ?_
    refine lv_icmp_ge (tgt := 36) hx hb dX5_has_14 (by decide) (fun c2 => ?_) (fun c2 => ?_)
    · replace hf := op_t c2 hf
      refine lv_iconst (v := 0) hx hb dX5_has_36 (by decide) ?_
      exact hret _ _ _ _ _ () dX5_has_37 ⟨(op_k hf), (Or.inl rfl)⟩ hP hS
    · replace hf := op_f c2 hf
      refine lv_aload_n hx hb dX5_has_17 rfl (lv_at hl 0 rfl) ?_
      refine va_get (D := D) (ci := 5) (v := .ref a4) (C := RX5) (T := TX5) (N := 11) hx hb hts iX5 hown hK hP 0 rfl rfl 3 (by decide) w19 (fun _ h9 => h9) rfl dX5_has_18 ?_
      refine lv_aload_n hx hb dX5_has_21 rfl (lv_at hl 0 rfl) ?_
      refine va_get (D := D) (ci := 5) (v := .int zp) (C := RX5) (T := TX5) (N := 11) hx hb hts iX5 hown hK hP 0 rfl rfl 6 (by decide) w127 (fun _ h9 => h9) rfl dX5_has_22 ?_
      refine lv_iload_n hx hb dX5_has_25 rfl (lv_at hl 1 rfl) ?_
      refine lv_iadd hx hb dX5_has_26 ?_
      obtain ⟨q3, hf⟩ := op_x hf
      refine ck_iald (j := (zp + x1).toNatClampNeg) hx hb hK hP 4 0 rfl rfl q3 rfl dX5_has_27 ?_
      refine lv_iload_n hx hb dX5_has_28 rfl (lv_at hl 2 rfl) ?_
      refine lv_icmp_ne (tgt := 36) hx hb dX5_has_29 (by decide) (fun c4 => ?_) (fun c4 => ?_)
      · replace hf := op_f c4 hf
        refine lv_iconst (v := 0) hx hb dX5_has_36 (by decide) ?_
        exact hret _ _ _ _ _ () dX5_has_37 ⟨(op_k hf), (Or.inl rfl)⟩ hP hS
      · replace hf := op_t c4 hf
        refine lv_iconst (v := 1) hx hb dX5_has_32 (by decide) ?_
        refine lv_goto (tgt := 37) hx hb dX5_has_33 (by decide) ?_
        exact hret _ _ _ _ _ () dX5_has_37 ⟨(op_k hf), (Or.inr rfl)⟩ hP hS
set_option maxHeartbeats 4000000 in
set_option maxRecDepth 100000 in
theorem c_X5_one (l : Launch) (D : va_G) (cI cC cK cO : ClassId) (x0 : Int32) (R : Int32) (hf : f_X5_one x0 = R) : KI l D (TY cI cC cK cO) E0 yX5_one wsX5_one 0 [.int x0] [] (fun (r : Int32) (u : Unit) => r = R) (fun u => []) := by
  refine KI.ofI (cc := cX5_one) (maxL := 1) (C := RX5) (by decide) rfl rfl (Nat.le_of_ble_eq_true rfl) ?_
  intro p e s m args below meth c A Q hx hb hml hts hown hP hK hD hA hE hS hret ls hl
  replace hl : lv_has ls 1 [(0, .int x0)] := hl
  rw [f_X5_one] at hf
  refine lv_iload_n hx hb dX5_one_0 rfl (lv_at hl 0 rfl) ?_
  refine lv_if_ne (tgt := 8) hx hb dX5_one_1 (by decide) (fun c1 => ?_) (fun c1 => ?_)
  · replace hf := op_f c1 hf
    refine lv_iconst (v := 1) hx hb dX5_one_8 (by decide) ?_
    exact hret _ _ _ _ _ () dX5_one_9 hf hP hS
  · replace hf := op_t c1 hf
    refine lv_iconst (v := 0) hx hb dX5_one_4 (by decide) ?_
    refine lv_goto (tgt := 9) hx hb dX5_one_5 (by decide) ?_
    exact hret _ _ _ _ _ () dX5_one_9 hf hP hS
set_option maxHeartbeats 4000000 in
set_option maxRecDepth 100000 in
theorem c_X5_sees (l : Launch) (D : va_G) (cI cC cK cO : ClassId) (h : Nat) (a1 : Nat) (a2 : Nat) (a3 : Nat) (a4 : Nat) (zs : Nat → Int32) (zb : Nat → Int32) (za : Nat → Int32) (zt : Nat → Int32) (zl : Int32) (zu : Int32) (zp : Int32) (zw : Int32) (zf : Int32) (zg : Int32) (zc : Int32) (x1 : Int32) (x2 : Int32) (x3 : Int32) (x4 : Int32) (x5 : Int32) (x6 : Int32) (x7 : Int32) (R : Int32 × Int32) (hf : f_X5_sees zt zl zp x1 x2 x3 x4 x5 x6 x7 = some R) : KI l D (TY cI cC cK cO) E0 yX5_sees wsX5_sees 1 [.ref h, .int x1, .int x2, .int x3, .int x4, .int x5, .int x6, .int x7] (wM cI h a1 a2 a3 a4 zs zb za zt zl zu zp zw zf zg zc) (fun (r : Int32) (u : Int32) => (r, u) = R ∧ (r = 0 ∨ r = 1)) (fun u => (wM cI h a1 a2 a3 a4 zs zb za zt zl zu u zw zf zg zc)) := by
  refine KI.ofZ (cc := cX5_sees) (maxL := 9) (C := RX5) (by decide) rfl rfl (Nat.le_of_ble_eq_true rfl) (fun _ _ h => h.2) ?_
  intro p e s m args below meth c A Q hx hb hml hts hown hP hK hD hA hE hS hret ls hl
  replace hl : lv_has ls 9 [(0, .ref h), (1, .int x1), (2, .int x2), (3, .int x3), (4, .int x4), (5, .int x5), (6, .int x6), (7, .int x7)] := hl
  have w127 := hts (.fieldLink RX5 127 "BlockClerksModel" "at" "I") (by decide +kernel)
  have iX5 : ∀ w ∈ wsX50, w ∈ wsX5_sees := by decide +kernel
  rw [f_X5_sees] at hf
  refine lv_aload_n hx hb dX5_sees_0 rfl (lv_at hl 0 rfl) ?_
  refine lv_iconst (v := 0) hx hb dX5_sees_1 (by decide) ?_
  refine lv_iload_n hx hb dX5_sees_2 rfl (lv_at hl 1 rfl) ?_
  obtain ⟨r1, h2, hf⟩ := op_b hf
  refine ck_VI (st := [.int x1, .int 0, .ref h]) (rest := []) (As := [.int 0, .int x1]) (C := RX5) (ci := 5) ⟨hx, hb, hml, hown, hts⟩ E0_ok (c_X5_has l D cI cC cK cO h a1 a2 a3 a4 zs zb za zt zl zu zp zw zf zg zc 0 x1 _ h2) (cwV 2 hts gX5_sees_X5_has rfl rfl rfl hv_X5_has ⟨Nat.le_of_ble_eq_true rfl, Nat.le_of_ble_eq_true rfl⟩) hK hP hD hS hA hE [0, 1, 2, 3, 4] rfl rfl rfl rfl rfl (fun _ => rfl) rfl hl.1 rfl (Nat.le_of_ble_eq_true rfl) dX5_sees_3 ⟨Nat.zero_le _, Nat.zero_le _⟩ (fun r u H locs hw hP hD hS => ?_)
  obtain ⟨hw, z3⟩ := hw
  cases hw
  replace hP : va_P D vwCl (wM cI h a1 a2 a3 a4 zs zb za zt zl zu zp zw zf zg zc) H := hP
  replace hD : va_D A (wM cI h a1 a2 a3 a4 zs zb za zt zl zu zp zw zf zg zc) := hD
  refine lv_if_eq (tgt := 72) hx hb dX5_sees_6 (by decide) (fun c4 => ?_) (fun c4 => ?_)
  · replace hf := op_t c4 hf
    refine lv_iconst (v := 0) hx hb dX5_sees_72 (by decide) ?_
    refine lv_istore (lv' := [(8, .int 0), (0, .ref h), (1, .int x1), (2, .int x2), (3, .int x3), (4, .int x4), (5, .int x5), (6, .int x6), (7, .int x7)]) hx hb dX5_sees_73 hl (by decide) rfl (fun ls hl => ?_)
    refine lv_aload_n hx hb dX5_sees_75 rfl (lv_at hl 1 rfl) ?_
    refine lv_dup hx hb dX5_sees_76 rfl ?_
    refine va_get (D := D) (ci := 5) (v := .int zp) (C := RX5) (T := TX5) (N := 11) hx hb hts iX5 hown hK hP 0 rfl rfl 6 (by decide) w127 (fun _ h9 => h9) rfl dX5_sees_77 ?_
    refine lv_iload hx hb dX5_sees_80 (lv_at hl 0 rfl) ?_
    refine lv_if_eq (tgt := 126) hx hb dX5_sees_82 (by decide) (fun _ => ?_) (fun c9 => absurd c9 (by decide))
    refine lv_iconst (v := 0) hx hb dX5_sees_126 (by decide) ?_
    refine lv_iadd hx hb dX5_sees_127 ?_
    refine va_put (D := D) (ci := 5) (v := .int (zp + 0)) (ty := .int) (C := RX5) (T := TX5) (N := 11) hx hb hts iX5 tyX5 tyX5_ok nmX5 hown hK hP hD hS 0 rfl rfl 6 (by decide) w127 (fun _ h9 => h9) rfl (by decide +kernel) rfl rfl (Nat.le_of_ble_eq_true rfl) dX5_sees_128 (fun H locs hP hD hS => ?_)
    replace hP : va_P D vwCl (wM cI h a1 a2 a3 a4 zs zb za zt zl zu (zp + 0) zw zf zg zc) H := hP
    replace hD : va_D A (wM cI h a1 a2 a3 a4 zs zb za zt zl zu (zp + 0) zw zf zg zc) := hD
    refine lv_iload hx hb dX5_sees_131 (lv_at hl 0 rfl) ?_
    exact hret _ _ _ _ _ ((zp + 0)) dX5_sees_133 ⟨(op_k hf), (Or.inl rfl)⟩ hP hS
  · replace hf := op_f c4 hf
    refine lv_aload_n hx hb dX5_sees_9 rfl (lv_at hl 0 rfl) ?_
    refine lv_iconst (v := 1) hx hb dX5_sees_10 (by decide) ?_
    refine lv_iload_n hx hb dX5_sees_11 rfl (lv_at hl 2 rfl) ?_
    obtain ⟨r5, h6, hf⟩ := op_b hf
    refine ck_VI (st := [.int x2, .int 1, .ref h]) (rest := []) (As := [.int 1, .int x2]) (C := RX5) (ci := 5) ⟨hx, hb, hml, hown, hts⟩ E0_ok (c_X5_has l D cI cC cK cO h a1 a2 a3 a4 zs zb za zt zl zu zp zw zf zg zc 1 x2 _ h6) (cwV 2 hts gX5_sees_X5_has rfl rfl rfl hv_X5_has ⟨Nat.le_of_ble_eq_true rfl, Nat.le_of_ble_eq_true rfl⟩) hK hP hD hS hA hE [0, 1, 2, 3, 4] rfl rfl rfl rfl rfl (fun _ => rfl) rfl hl.1 rfl (Nat.le_of_ble_eq_true rfl) dX5_sees_12 ⟨Nat.zero_le _, Nat.zero_le _⟩ (fun r u H locs hw hP hD hS => ?_)
    obtain ⟨hw, z7⟩ := hw
    cases hw
    replace hP : va_P D vwCl (wM cI h a1 a2 a3 a4 zs zb za zt zl zu zp zw zf zg zc) H := hP
    replace hD : va_D A (wM cI h a1 a2 a3 a4 zs zb za zt zl zu zp zw zf zg zc) := hD
    refine lv_if_eq (tgt := 72) hx hb dX5_sees_15 (by decide) (fun c8 => ?_) (fun c8 => ?_)
    · replace hf := op_t c8 hf
      refine lv_iconst (v := 0) hx hb dX5_sees_72 (by decide) ?_
      refine lv_istore (lv' := [(8, .int 0), (0, .ref h), (1, .int x1), (2, .int x2), (3, .int x3), (4, .int x4), (5, .int x5), (6, .int x6), (7, .int x7)]) hx hb dX5_sees_73 hl (by decide) rfl (fun ls hl => ?_)
      refine lv_aload_n hx hb dX5_sees_75 rfl (lv_at hl 1 rfl) ?_
      refine lv_dup hx hb dX5_sees_76 rfl ?_
      refine va_get (D := D) (ci := 5) (v := .int zp) (C := RX5) (T := TX5) (N := 11) hx hb hts iX5 hown hK hP 0 rfl rfl 6 (by decide) w127 (fun _ h9 => h9) rfl dX5_sees_77 ?_
      refine lv_iload hx hb dX5_sees_80 (lv_at hl 0 rfl) ?_
      refine lv_if_eq (tgt := 126) hx hb dX5_sees_82 (by decide) (fun _ => ?_) (fun c9 => absurd c9 (by decide))
      refine lv_iconst (v := 0) hx hb dX5_sees_126 (by decide) ?_
      refine lv_iadd hx hb dX5_sees_127 ?_
      refine va_put (D := D) (ci := 5) (v := .int (zp + 0)) (ty := .int) (C := RX5) (T := TX5) (N := 11) hx hb hts iX5 tyX5 tyX5_ok nmX5 hown hK hP hD hS 0 rfl rfl 6 (by decide) w127 (fun _ h9 => h9) rfl (by decide +kernel) rfl rfl (Nat.le_of_ble_eq_true rfl) dX5_sees_128 (fun H locs hP hD hS => ?_)
      replace hP : va_P D vwCl (wM cI h a1 a2 a3 a4 zs zb za zt zl zu (zp + 0) zw zf zg zc) H := hP
      replace hD : va_D A (wM cI h a1 a2 a3 a4 zs zb za zt zl zu (zp + 0) zw zf zg zc) := hD
      refine lv_iload hx hb dX5_sees_131 (lv_at hl 0 rfl) ?_
      exact hret _ _ _ _ _ ((zp + 0)) dX5_sees_133 ⟨(op_k hf), (Or.inl rfl)⟩ hP hS
    · replace hf := op_f c8 hf
      refine lv_aload_n hx hb dX5_sees_18 rfl (lv_at hl 0 rfl) ?_
      refine lv_iconst (v := 2) hx hb dX5_sees_19 (by decide) ?_
      refine lv_iload_n hx hb dX5_sees_20 rfl (lv_at hl 3 rfl) ?_
      obtain ⟨r9, h10, hf⟩ := op_b hf
      refine ck_VI (st := [.int x3, .int 2, .ref h]) (rest := []) (As := [.int 2, .int x3]) (C := RX5) (ci := 5) ⟨hx, hb, hml, hown, hts⟩ E0_ok (c_X5_has l D cI cC cK cO h a1 a2 a3 a4 zs zb za zt zl zu zp zw zf zg zc 2 x3 _ h10) (cwV 2 hts gX5_sees_X5_has rfl rfl rfl hv_X5_has ⟨Nat.le_of_ble_eq_true rfl, Nat.le_of_ble_eq_true rfl⟩) hK hP hD hS hA hE [0, 1, 2, 3, 4] rfl rfl rfl rfl rfl (fun _ => rfl) rfl hl.1 rfl (Nat.le_of_ble_eq_true rfl) dX5_sees_21 ⟨Nat.zero_le _, Nat.zero_le _⟩ (fun r u H locs hw hP hD hS => ?_)
      obtain ⟨hw, z11⟩ := hw
      cases hw
      replace hP : va_P D vwCl (wM cI h a1 a2 a3 a4 zs zb za zt zl zu zp zw zf zg zc) H := hP
      replace hD : va_D A (wM cI h a1 a2 a3 a4 zs zb za zt zl zu zp zw zf zg zc) := hD
      refine lv_if_eq (tgt := 72) hx hb dX5_sees_24 (by decide) (fun c12 => ?_) (fun c12 => ?_)
      · replace hf := op_t c12 hf
        refine lv_iconst (v := 0) hx hb dX5_sees_72 (by decide) ?_
        refine lv_istore (lv' := [(8, .int 0), (0, .ref h), (1, .int x1), (2, .int x2), (3, .int x3), (4, .int x4), (5, .int x5), (6, .int x6), (7, .int x7)]) hx hb dX5_sees_73 hl (by decide) rfl (fun ls hl => ?_)
        refine lv_aload_n hx hb dX5_sees_75 rfl (lv_at hl 1 rfl) ?_
        refine lv_dup hx hb dX5_sees_76 rfl ?_
        refine va_get (D := D) (ci := 5) (v := .int zp) (C := RX5) (T := TX5) (N := 11) hx hb hts iX5 hown hK hP 0 rfl rfl 6 (by decide) w127 (fun _ h9 => h9) rfl dX5_sees_77 ?_
        refine lv_iload hx hb dX5_sees_80 (lv_at hl 0 rfl) ?_
        refine lv_if_eq (tgt := 126) hx hb dX5_sees_82 (by decide) (fun _ => ?_) (fun c9 => absurd c9 (by decide))
        refine lv_iconst (v := 0) hx hb dX5_sees_126 (by decide) ?_
        refine lv_iadd hx hb dX5_sees_127 ?_
        refine va_put (D := D) (ci := 5) (v := .int (zp + 0)) (ty := .int) (C := RX5) (T := TX5) (N := 11) hx hb hts iX5 tyX5 tyX5_ok nmX5 hown hK hP hD hS 0 rfl rfl 6 (by decide) w127 (fun _ h9 => h9) rfl (by decide +kernel) rfl rfl (Nat.le_of_ble_eq_true rfl) dX5_sees_128 (fun H locs hP hD hS => ?_)
        replace hP : va_P D vwCl (wM cI h a1 a2 a3 a4 zs zb za zt zl zu (zp + 0) zw zf zg zc) H := hP
        replace hD : va_D A (wM cI h a1 a2 a3 a4 zs zb za zt zl zu (zp + 0) zw zf zg zc) := hD
        refine lv_iload hx hb dX5_sees_131 (lv_at hl 0 rfl) ?_
        exact hret _ _ _ _ _ ((zp + 0)) dX5_sees_133 ⟨(op_k hf), (Or.inl rfl)⟩ hP hS
      · replace hf := op_f c12 hf
        refine lv_aload_n hx hb dX5_sees_27 rfl (lv_at hl 0 rfl) ?_
        refine lv_iconst (v := 3) hx hb dX5_sees_28 (by decide) ?_
        refine lv_iload hx hb dX5_sees_29 (lv_at hl 4 rfl) ?_
        obtain ⟨r13, h14, hf⟩ := op_b hf
        refine ck_VI (st := [.int x4, .int 3, .ref h]) (rest := []) (As := [.int 3, .int x4]) (C := RX5) (ci := 5) ⟨hx, hb, hml, hown, hts⟩ E0_ok (c_X5_has l D cI cC cK cO h a1 a2 a3 a4 zs zb za zt zl zu zp zw zf zg zc 3 x4 _ h14) (cwV 2 hts gX5_sees_X5_has rfl rfl rfl hv_X5_has ⟨Nat.le_of_ble_eq_true rfl, Nat.le_of_ble_eq_true rfl⟩) hK hP hD hS hA hE [0, 1, 2, 3, 4] rfl rfl rfl rfl rfl (fun _ => rfl) rfl hl.1 rfl (Nat.le_of_ble_eq_true rfl) dX5_sees_31 ⟨Nat.zero_le _, Nat.zero_le _⟩ (fun r u H locs hw hP hD hS => ?_)
        obtain ⟨hw, z15⟩ := hw
        cases hw
        replace hP : va_P D vwCl (wM cI h a1 a2 a3 a4 zs zb za zt zl zu zp zw zf zg zc) H := hP
        replace hD : va_D A (wM cI h a1 a2 a3 a4 zs zb za zt zl zu zp zw zf zg zc) := hD
        refine lv_if_eq (tgt := 72) hx hb dX5_sees_34 (by decide) (fun c16 => ?_) (fun c16 => ?_)
        · replace hf := op_t c16 hf
          refine lv_iconst (v := 0) hx hb dX5_sees_72 (by decide) ?_
          refine lv_istore (lv' := [(8, .int 0), (0, .ref h), (1, .int x1), (2, .int x2), (3, .int x3), (4, .int x4), (5, .int x5), (6, .int x6), (7, .int x7)]) hx hb dX5_sees_73 hl (by decide) rfl (fun ls hl => ?_)
          refine lv_aload_n hx hb dX5_sees_75 rfl (lv_at hl 1 rfl) ?_
          refine lv_dup hx hb dX5_sees_76 rfl ?_
          refine va_get (D := D) (ci := 5) (v := .int zp) (C := RX5) (T := TX5) (N := 11) hx hb hts iX5 hown hK hP 0 rfl rfl 6 (by decide) w127 (fun _ h9 => h9) rfl dX5_sees_77 ?_
          refine lv_iload hx hb dX5_sees_80 (lv_at hl 0 rfl) ?_
          refine lv_if_eq (tgt := 126) hx hb dX5_sees_82 (by decide) (fun _ => ?_) (fun c9 => absurd c9 (by decide))
          refine lv_iconst (v := 0) hx hb dX5_sees_126 (by decide) ?_
          refine lv_iadd hx hb dX5_sees_127 ?_
          refine va_put (D := D) (ci := 5) (v := .int (zp + 0)) (ty := .int) (C := RX5) (T := TX5) (N := 11) hx hb hts iX5 tyX5 tyX5_ok nmX5 hown hK hP hD hS 0 rfl rfl 6 (by decide) w127 (fun _ h9 => h9) rfl (by decide +kernel) rfl rfl (Nat.le_of_ble_eq_true rfl) dX5_sees_128 (fun H locs hP hD hS => ?_)
          replace hP : va_P D vwCl (wM cI h a1 a2 a3 a4 zs zb za zt zl zu (zp + 0) zw zf zg zc) H := hP
          replace hD : va_D A (wM cI h a1 a2 a3 a4 zs zb za zt zl zu (zp + 0) zw zf zg zc) := hD
          refine lv_iload hx hb dX5_sees_131 (lv_at hl 0 rfl) ?_
          exact hret _ _ _ _ _ ((zp + 0)) dX5_sees_133 ⟨(op_k hf), (Or.inl rfl)⟩ hP hS
        · replace hf := op_f c16 hf
          refine lv_aload_n hx hb dX5_sees_37 rfl (lv_at hl 0 rfl) ?_
          refine lv_iconst (v := 4) hx hb dX5_sees_38 (by decide) ?_
          refine lv_iload hx hb dX5_sees_39 (lv_at hl 5 rfl) ?_
          obtain ⟨r17, h18, hf⟩ := op_b hf
          refine ck_VI (st := [.int x5, .int 4, .ref h]) (rest := []) (As := [.int 4, .int x5]) (C := RX5) (ci := 5) ⟨hx, hb, hml, hown, hts⟩ E0_ok (c_X5_has l D cI cC cK cO h a1 a2 a3 a4 zs zb za zt zl zu zp zw zf zg zc 4 x5 _ h18) (cwV 2 hts gX5_sees_X5_has rfl rfl rfl hv_X5_has ⟨Nat.le_of_ble_eq_true rfl, Nat.le_of_ble_eq_true rfl⟩) hK hP hD hS hA hE [0, 1, 2, 3, 4] rfl rfl rfl rfl rfl (fun _ => rfl) rfl hl.1 rfl (Nat.le_of_ble_eq_true rfl) dX5_sees_41 ⟨Nat.zero_le _, Nat.zero_le _⟩ (fun r u H locs hw hP hD hS => ?_)
          obtain ⟨hw, z19⟩ := hw
          cases hw
          replace hP : va_P D vwCl (wM cI h a1 a2 a3 a4 zs zb za zt zl zu zp zw zf zg zc) H := hP
          replace hD : va_D A (wM cI h a1 a2 a3 a4 zs zb za zt zl zu zp zw zf zg zc) := hD
          refine lv_if_eq (tgt := 72) hx hb dX5_sees_44 (by decide) (fun c20 => ?_) (fun c20 => ?_)
          · replace hf := op_t c20 hf
            refine lv_iconst (v := 0) hx hb dX5_sees_72 (by decide) ?_
            refine lv_istore (lv' := [(8, .int 0), (0, .ref h), (1, .int x1), (2, .int x2), (3, .int x3), (4, .int x4), (5, .int x5), (6, .int x6), (7, .int x7)]) hx hb dX5_sees_73 hl (by decide) rfl (fun ls hl => ?_)
            refine lv_aload_n hx hb dX5_sees_75 rfl (lv_at hl 1 rfl) ?_
            refine lv_dup hx hb dX5_sees_76 rfl ?_
            refine va_get (D := D) (ci := 5) (v := .int zp) (C := RX5) (T := TX5) (N := 11) hx hb hts iX5 hown hK hP 0 rfl rfl 6 (by decide) w127 (fun _ h9 => h9) rfl dX5_sees_77 ?_
            refine lv_iload hx hb dX5_sees_80 (lv_at hl 0 rfl) ?_
            refine lv_if_eq (tgt := 126) hx hb dX5_sees_82 (by decide) (fun _ => ?_) (fun c9 => absurd c9 (by decide))
            refine lv_iconst (v := 0) hx hb dX5_sees_126 (by decide) ?_
            refine lv_iadd hx hb dX5_sees_127 ?_
            refine va_put (D := D) (ci := 5) (v := .int (zp + 0)) (ty := .int) (C := RX5) (T := TX5) (N := 11) hx hb hts iX5 tyX5 tyX5_ok nmX5 hown hK hP hD hS 0 rfl rfl 6 (by decide) w127 (fun _ h9 => h9) rfl (by decide +kernel) rfl rfl (Nat.le_of_ble_eq_true rfl) dX5_sees_128 (fun H locs hP hD hS => ?_)
            replace hP : va_P D vwCl (wM cI h a1 a2 a3 a4 zs zb za zt zl zu (zp + 0) zw zf zg zc) H := hP
            replace hD : va_D A (wM cI h a1 a2 a3 a4 zs zb za zt zl zu (zp + 0) zw zf zg zc) := hD
            refine lv_iload hx hb dX5_sees_131 (lv_at hl 0 rfl) ?_
            exact hret _ _ _ _ _ ((zp + 0)) dX5_sees_133 ⟨(op_k hf), (Or.inl rfl)⟩ hP hS
          · replace hf := op_f c20 hf
            refine lv_aload_n hx hb dX5_sees_47 rfl (lv_at hl 0 rfl) ?_
            refine lv_iconst (v := 5) hx hb dX5_sees_48 (by decide) ?_
            refine lv_iload hx hb dX5_sees_49 (lv_at hl 6 rfl) ?_
            obtain ⟨r21, h22, hf⟩ := op_b hf
            refine ck_VI (st := [.int x6, .int 5, .ref h]) (rest := []) (As := [.int 5, .int x6]) (C := RX5) (ci := 5) ⟨hx, hb, hml, hown, hts⟩ E0_ok (c_X5_has l D cI cC cK cO h a1 a2 a3 a4 zs zb za zt zl zu zp zw zf zg zc 5 x6 _ h22) (cwV 2 hts gX5_sees_X5_has rfl rfl rfl hv_X5_has ⟨Nat.le_of_ble_eq_true rfl, Nat.le_of_ble_eq_true rfl⟩) hK hP hD hS hA hE [0, 1, 2, 3, 4] rfl rfl rfl rfl rfl (fun _ => rfl) rfl hl.1 rfl (Nat.le_of_ble_eq_true rfl) dX5_sees_51 ⟨Nat.zero_le _, Nat.zero_le _⟩ (fun r u H locs hw hP hD hS => ?_)
            obtain ⟨hw, z23⟩ := hw
            cases hw
            replace hP : va_P D vwCl (wM cI h a1 a2 a3 a4 zs zb za zt zl zu zp zw zf zg zc) H := hP
            replace hD : va_D A (wM cI h a1 a2 a3 a4 zs zb za zt zl zu zp zw zf zg zc) := hD
            refine lv_if_eq (tgt := 72) hx hb dX5_sees_54 (by decide) (fun c24 => ?_) (fun c24 => ?_)
            · replace hf := op_t c24 hf
              refine lv_iconst (v := 0) hx hb dX5_sees_72 (by decide) ?_
              refine lv_istore (lv' := [(8, .int 0), (0, .ref h), (1, .int x1), (2, .int x2), (3, .int x3), (4, .int x4), (5, .int x5), (6, .int x6), (7, .int x7)]) hx hb dX5_sees_73 hl (by decide) rfl (fun ls hl => ?_)
              refine lv_aload_n hx hb dX5_sees_75 rfl (lv_at hl 1 rfl) ?_
              refine lv_dup hx hb dX5_sees_76 rfl ?_
              refine va_get (D := D) (ci := 5) (v := .int zp) (C := RX5) (T := TX5) (N := 11) hx hb hts iX5 hown hK hP 0 rfl rfl 6 (by decide) w127 (fun _ h9 => h9) rfl dX5_sees_77 ?_
              refine lv_iload hx hb dX5_sees_80 (lv_at hl 0 rfl) ?_
              refine lv_if_eq (tgt := 126) hx hb dX5_sees_82 (by decide) (fun _ => ?_) (fun c9 => absurd c9 (by decide))
              refine lv_iconst (v := 0) hx hb dX5_sees_126 (by decide) ?_
              refine lv_iadd hx hb dX5_sees_127 ?_
              refine va_put (D := D) (ci := 5) (v := .int (zp + 0)) (ty := .int) (C := RX5) (T := TX5) (N := 11) hx hb hts iX5 tyX5 tyX5_ok nmX5 hown hK hP hD hS 0 rfl rfl 6 (by decide) w127 (fun _ h9 => h9) rfl (by decide +kernel) rfl rfl (Nat.le_of_ble_eq_true rfl) dX5_sees_128 (fun H locs hP hD hS => ?_)
              replace hP : va_P D vwCl (wM cI h a1 a2 a3 a4 zs zb za zt zl zu (zp + 0) zw zf zg zc) H := hP
              replace hD : va_D A (wM cI h a1 a2 a3 a4 zs zb za zt zl zu (zp + 0) zw zf zg zc) := hD
              refine lv_iload hx hb dX5_sees_131 (lv_at hl 0 rfl) ?_
              exact hret _ _ _ _ _ ((zp + 0)) dX5_sees_133 ⟨(op_k hf), (Or.inl rfl)⟩ hP hS
            · replace hf := op_f c24 hf
              refine lv_aload_n hx hb dX5_sees_57 rfl (lv_at hl 0 rfl) ?_
              refine lv_bipush (v := 6) hx hb dX5_sees_58 (by decide) ?_
              refine lv_iload hx hb dX5_sees_60 (lv_at hl 7 rfl) ?_
              obtain ⟨r25, h26, hf⟩ := op_b hf
              refine ck_VI (st := [.int x7, .int 6, .ref h]) (rest := []) (As := [.int 6, .int x7]) (C := RX5) (ci := 5) ⟨hx, hb, hml, hown, hts⟩ E0_ok (c_X5_has l D cI cC cK cO h a1 a2 a3 a4 zs zb za zt zl zu zp zw zf zg zc 6 x7 _ h26) (cwV 2 hts gX5_sees_X5_has rfl rfl rfl hv_X5_has ⟨Nat.le_of_ble_eq_true rfl, Nat.le_of_ble_eq_true rfl⟩) hK hP hD hS hA hE [0, 1, 2, 3, 4] rfl rfl rfl rfl rfl (fun _ => rfl) rfl hl.1 rfl (Nat.le_of_ble_eq_true rfl) dX5_sees_62 ⟨Nat.zero_le _, Nat.zero_le _⟩ (fun r u H locs hw hP hD hS => ?_)
              obtain ⟨hw, z27⟩ := hw
              cases hw
              replace hP : va_P D vwCl (wM cI h a1 a2 a3 a4 zs zb za zt zl zu zp zw zf zg zc) H := hP
              replace hD : va_D A (wM cI h a1 a2 a3 a4 zs zb za zt zl zu zp zw zf zg zc) := hD
              refine lv_if_eq (tgt := 72) hx hb dX5_sees_65 (by decide) (fun c28 => ?_) (fun c28 => ?_)
              · replace hf := op_t c28 hf
                refine lv_iconst (v := 0) hx hb dX5_sees_72 (by decide) ?_
                refine lv_istore (lv' := [(8, .int 0), (0, .ref h), (1, .int x1), (2, .int x2), (3, .int x3), (4, .int x4), (5, .int x5), (6, .int x6), (7, .int x7)]) hx hb dX5_sees_73 hl (by decide) rfl (fun ls hl => ?_)
                refine lv_aload_n hx hb dX5_sees_75 rfl (lv_at hl 1 rfl) ?_
                refine lv_dup hx hb dX5_sees_76 rfl ?_
                refine va_get (D := D) (ci := 5) (v := .int zp) (C := RX5) (T := TX5) (N := 11) hx hb hts iX5 hown hK hP 0 rfl rfl 6 (by decide) w127 (fun _ h9 => h9) rfl dX5_sees_77 ?_
                refine lv_iload hx hb dX5_sees_80 (lv_at hl 0 rfl) ?_
                refine lv_if_eq (tgt := 126) hx hb dX5_sees_82 (by decide) (fun _ => ?_) (fun c9 => absurd c9 (by decide))
                refine lv_iconst (v := 0) hx hb dX5_sees_126 (by decide) ?_
                refine lv_iadd hx hb dX5_sees_127 ?_
                refine va_put (D := D) (ci := 5) (v := .int (zp + 0)) (ty := .int) (C := RX5) (T := TX5) (N := 11) hx hb hts iX5 tyX5 tyX5_ok nmX5 hown hK hP hD hS 0 rfl rfl 6 (by decide) w127 (fun _ h9 => h9) rfl (by decide +kernel) rfl rfl (Nat.le_of_ble_eq_true rfl) dX5_sees_128 (fun H locs hP hD hS => ?_)
                replace hP : va_P D vwCl (wM cI h a1 a2 a3 a4 zs zb za zt zl zu (zp + 0) zw zf zg zc) H := hP
                replace hD : va_D A (wM cI h a1 a2 a3 a4 zs zb za zt zl zu (zp + 0) zw zf zg zc) := hD
                refine lv_iload hx hb dX5_sees_131 (lv_at hl 0 rfl) ?_
                exact hret _ _ _ _ _ ((zp + 0)) dX5_sees_133 ⟨(op_k hf), (Or.inl rfl)⟩ hP hS
              · replace hf := op_f c28 hf
                refine lv_iconst (v := 1) hx hb dX5_sees_68 (by decide) ?_
                refine lv_goto (tgt := 73) hx hb dX5_sees_69 (by decide) ?_
                refine lv_istore (lv' := [(8, .int 1), (0, .ref h), (1, .int x1), (2, .int x2), (3, .int x3), (4, .int x4), (5, .int x5), (6, .int x6), (7, .int x7)]) hx hb dX5_sees_73 hl (by decide) rfl (fun ls hl => ?_)
                refine lv_aload_n hx hb dX5_sees_75 rfl (lv_at hl 1 rfl) ?_
                refine lv_dup hx hb dX5_sees_76 rfl ?_
                refine va_get (D := D) (ci := 5) (v := .int zp) (C := RX5) (T := TX5) (N := 11) hx hb hts iX5 hown hK hP 0 rfl rfl 6 (by decide) w127 (fun _ h9 => h9) rfl dX5_sees_77 ?_
                refine lv_iload hx hb dX5_sees_80 (lv_at hl 0 rfl) ?_
                refine lv_if_eq (tgt := 126) hx hb dX5_sees_82 (by decide) (fun c9 => absurd c9 (by decide)) (fun _ => ?_)
                refine lv_iload_n hx hb dX5_sees_85 rfl (lv_at hl 2 rfl) ?_
                refine ck_SI (st := [.int x1, .int zp, .ref h]) (rest := [.int zp, .ref h]) (As := [.int x1]) ⟨hx, hb, hml, hown, hts⟩ E0_ok (c_X5_one l D cI cC cK cO  x1 _ rfl) (va_cwS 1 hts gX5_sees_X5_one rfl rfl rfl hs_X5_one ⟨Nat.le_of_ble_eq_true rfl, Nat.le_of_ble_eq_true rfl⟩) hK hP hD hS hA hE rfl hl.1 rfl (Nat.le_of_ble_eq_true rfl) dX5_sees_86 ⟨Nat.zero_le _, Nat.zero_le _⟩ (fun r H locs hw hP hS => ?_)
                cases hw
                refine lv_iload_n hx hb dX5_sees_89 rfl (lv_at hl 3 rfl) ?_
                refine ck_SI (st := [.int x2, .int (f_X5_one x1), .int zp, .ref h]) (rest := [.int (f_X5_one x1), .int zp, .ref h]) (As := [.int x2]) ⟨hx, hb, hml, hown, hts⟩ E0_ok (c_X5_one l D cI cC cK cO  x2 _ rfl) (va_cwS 1 hts gX5_sees_X5_one rfl rfl rfl hs_X5_one ⟨Nat.le_of_ble_eq_true rfl, Nat.le_of_ble_eq_true rfl⟩) hK hP hD hS hA hE rfl hl.1 rfl (Nat.le_of_ble_eq_true rfl) dX5_sees_90 ⟨Nat.zero_le _, Nat.zero_le _⟩ (fun r H locs hw hP hS => ?_)
                cases hw
                refine lv_iadd hx hb dX5_sees_93 ?_
                refine lv_iload_n hx hb dX5_sees_94 rfl (lv_at hl 4 rfl) ?_
                refine ck_SI (st := [.int x3, .int ((f_X5_one x1) + (f_X5_one x2)), .int zp, .ref h]) (rest := [.int ((f_X5_one x1) + (f_X5_one x2)), .int zp, .ref h]) (As := [.int x3]) ⟨hx, hb, hml, hown, hts⟩ E0_ok (c_X5_one l D cI cC cK cO  x3 _ rfl) (va_cwS 1 hts gX5_sees_X5_one rfl rfl rfl hs_X5_one ⟨Nat.le_of_ble_eq_true rfl, Nat.le_of_ble_eq_true rfl⟩) hK hP hD hS hA hE rfl hl.1 rfl (Nat.le_of_ble_eq_true rfl) dX5_sees_95 ⟨Nat.zero_le _, Nat.zero_le _⟩ (fun r H locs hw hP hS => ?_)
                cases hw
                refine lv_iadd hx hb dX5_sees_98 ?_
                refine lv_iload hx hb dX5_sees_99 (lv_at hl 5 rfl) ?_
                refine ck_SI (st := [.int x4, .int (((f_X5_one x1) + (f_X5_one x2)) + (f_X5_one x3)), .int zp, .ref h]) (rest := [.int (((f_X5_one x1) + (f_X5_one x2)) + (f_X5_one x3)), .int zp, .ref h]) (As := [.int x4]) ⟨hx, hb, hml, hown, hts⟩ E0_ok (c_X5_one l D cI cC cK cO  x4 _ rfl) (va_cwS 1 hts gX5_sees_X5_one rfl rfl rfl hs_X5_one ⟨Nat.le_of_ble_eq_true rfl, Nat.le_of_ble_eq_true rfl⟩) hK hP hD hS hA hE rfl hl.1 rfl (Nat.le_of_ble_eq_true rfl) dX5_sees_101 ⟨Nat.zero_le _, Nat.zero_le _⟩ (fun r H locs hw hP hS => ?_)
                cases hw
                refine lv_iadd hx hb dX5_sees_104 ?_
                refine lv_iload hx hb dX5_sees_105 (lv_at hl 6 rfl) ?_
                refine ck_SI (st := [.int x5, .int ((((f_X5_one x1) + (f_X5_one x2)) + (f_X5_one x3)) + (f_X5_one x4)), .int zp, .ref h]) (rest := [.int ((((f_X5_one x1) + (f_X5_one x2)) + (f_X5_one x3)) + (f_X5_one x4)), .int zp, .ref h]) (As := [.int x5]) ⟨hx, hb, hml, hown, hts⟩ E0_ok (c_X5_one l D cI cC cK cO  x5 _ rfl) (va_cwS 1 hts gX5_sees_X5_one rfl rfl rfl hs_X5_one ⟨Nat.le_of_ble_eq_true rfl, Nat.le_of_ble_eq_true rfl⟩) hK hP hD hS hA hE rfl hl.1 rfl (Nat.le_of_ble_eq_true rfl) dX5_sees_107 ⟨Nat.zero_le _, Nat.zero_le _⟩ (fun r H locs hw hP hS => ?_)
                cases hw
                refine lv_iadd hx hb dX5_sees_110 ?_
                refine lv_iload hx hb dX5_sees_111 (lv_at hl 7 rfl) ?_
                refine ck_SI (st := [.int x6, .int (((((f_X5_one x1) + (f_X5_one x2)) + (f_X5_one x3)) + (f_X5_one x4)) + (f_X5_one x5)), .int zp, .ref h]) (rest := [.int (((((f_X5_one x1) + (f_X5_one x2)) + (f_X5_one x3)) + (f_X5_one x4)) + (f_X5_one x5)), .int zp, .ref h]) (As := [.int x6]) ⟨hx, hb, hml, hown, hts⟩ E0_ok (c_X5_one l D cI cC cK cO  x6 _ rfl) (va_cwS 1 hts gX5_sees_X5_one rfl rfl rfl hs_X5_one ⟨Nat.le_of_ble_eq_true rfl, Nat.le_of_ble_eq_true rfl⟩) hK hP hD hS hA hE rfl hl.1 rfl (Nat.le_of_ble_eq_true rfl) dX5_sees_113 ⟨Nat.zero_le _, Nat.zero_le _⟩ (fun r H locs hw hP hS => ?_)
                cases hw
                refine lv_iadd hx hb dX5_sees_116 ?_
                refine lv_iload hx hb dX5_sees_117 (lv_at hl 8 rfl) ?_
                refine ck_SI (st := [.int x7, .int ((((((f_X5_one x1) + (f_X5_one x2)) + (f_X5_one x3)) + (f_X5_one x4)) + (f_X5_one x5)) + (f_X5_one x6)), .int zp, .ref h]) (rest := [.int ((((((f_X5_one x1) + (f_X5_one x2)) + (f_X5_one x3)) + (f_X5_one x4)) + (f_X5_one x5)) + (f_X5_one x6)), .int zp, .ref h]) (As := [.int x7]) ⟨hx, hb, hml, hown, hts⟩ E0_ok (c_X5_one l D cI cC cK cO  x7 _ rfl) (va_cwS 1 hts gX5_sees_X5_one rfl rfl rfl hs_X5_one ⟨Nat.le_of_ble_eq_true rfl, Nat.le_of_ble_eq_true rfl⟩) hK hP hD hS hA hE rfl hl.1 rfl (Nat.le_of_ble_eq_true rfl) dX5_sees_119 ⟨Nat.zero_le _, Nat.zero_le _⟩ (fun r H locs hw hP hS => ?_)
                cases hw
                refine lv_iadd hx hb dX5_sees_122 ?_
                refine lv_goto (tgt := 127) hx hb dX5_sees_123 (by decide) ?_
                refine lv_iadd hx hb dX5_sees_127 ?_
                refine va_put (D := D) (ci := 5) (v := .int (zp + (((((((f_X5_one x1) + (f_X5_one x2)) + (f_X5_one x3)) + (f_X5_one x4)) + (f_X5_one x5)) + (f_X5_one x6)) + (f_X5_one x7)))) (ty := .int) (C := RX5) (T := TX5) (N := 11) hx hb hts iX5 tyX5 tyX5_ok nmX5 hown hK hP hD hS 0 rfl rfl 6 (by decide) w127 (fun _ h9 => h9) rfl (by decide +kernel) rfl rfl (Nat.le_of_ble_eq_true rfl) dX5_sees_128 (fun H locs hP hD hS => ?_)
                replace hP : va_P D vwCl (wM cI h a1 a2 a3 a4 zs zb za zt zl zu (zp + (((((((f_X5_one x1) + (f_X5_one x2)) + (f_X5_one x3)) + (f_X5_one x4)) + (f_X5_one x5)) + (f_X5_one x6)) + (f_X5_one x7))) zw zf zg zc) H := hP
                replace hD : va_D A (wM cI h a1 a2 a3 a4 zs zb za zt zl zu (zp + (((((((f_X5_one x1) + (f_X5_one x2)) + (f_X5_one x3)) + (f_X5_one x4)) + (f_X5_one x5)) + (f_X5_one x6)) + (f_X5_one x7))) zw zf zg zc) := hD
                refine lv_iload hx hb dX5_sees_131 (lv_at hl 0 rfl) ?_
                exact hret _ _ _ _ _ ((zp + (((((((f_X5_one x1) + (f_X5_one x2)) + (f_X5_one x3)) + (f_X5_one x4)) + (f_X5_one x5)) + (f_X5_one x6)) + (f_X5_one x7)))) dX5_sees_133 ⟨(op_k hf), (Or.inr rfl)⟩ hP hS
set_option maxHeartbeats 4000000 in
set_option maxRecDepth 100000 in
theorem c_X5_number (l : Launch) (D : va_G) (cI cC cK cO : ClassId) (h : Nat) (a1 : Nat) (a2 : Nat) (a3 : Nat) (a4 : Nat) (zs : Nat → Int32) (zb : Nat → Int32) (za : Nat → Int32) (zt : Nat → Int32) (zl : Int32) (zu : Int32) (zp : Int32) (zw : Int32) (zf : Int32) (zg : Int32) (zc : Int32) (K : Nat) (R : Int32 × Int32) (hf : f_X5_number K zt zl zp = some R) : KI l D (TY cI cC cK cO) E0 yX5_number wsX5_number 1 [.ref h] (wM cI h a1 a2 a3 a4 zs zb za zt zl zu zp zw zf zg zc) (fun (r : Int32) (u : Int32) => (r, u) = R) (fun u => (wM cI h a1 a2 a3 a4 zs zb za zt zl zu u zw zf zg zc)) := by
  refine KI.ofI (cc := cX5_number) (maxL := 3) (C := RX5) (by decide) rfl rfl (Nat.le_of_ble_eq_true rfl) ?_
  intro p e s m args below meth c A Q hx hb hml hts hown hP hK hD hA hE hS hret ls hl
  replace hl : lv_has ls 3 [(0, .ref h)] := hl
  have w115 := hts (.fieldLink RX5 115 "BlockClerksModel" "length" "I") (by decide +kernel)
  have w127 := hts (.fieldLink RX5 127 "BlockClerksModel" "at" "I") (by decide +kernel)
  have w19 := hts (.fieldLink RX5 19 "BlockClerksModel" "text" "[I") (by decide +kernel)
  have iX5 : ∀ w ∈ wsX50, w ∈ wsX5_number := by decide +kernel
  have L_4 : ∀ (n : Nat) (zp : Int32) (x1 : Int32) (x2 : Int32) (hf : f_X5_number_4 zt zl n x1 x2 zp = some R) (H : Heap) (locs : List Loc) (ls : Array Slot), va_P D vwCl (wM cI h a1 a2 a3 a4 zs zb za zt zl zu zp zw zf zg zc) H → va_D A (wM cI h a1 a2 a3 a4 zs zb za zt zl zu zp zw zf zg zc) → va_S A s.heap H locs → lv_has ls 3 [(0, .ref h), (1, .int x1), (2, .int x2)] → W p l e (rm 1) s m args below meth c H locs 0 0 Q (F0 m 4 ls []) := by
    intro n
    induction n with
    | zero =>
      intro zp x1 x2 hf
      cases hf
    | succ n ih =>
      intro zp x1 x2 hf H locs ls hP hD hS hl
      rw [f_X5_number_4] at hf
      refine lv_iload_n hx hb dX5_number_4 rfl (lv_at hl 2 rfl) ?_
      refine lv_iconst (v := 3) hx hb dX5_number_5 (by decide) ?_
      refine lv_icmp_ge (tgt := 81) hx hb dX5_number_6 (by decide) (fun c1 => ?_) (fun c1 => ?_)
      · replace hf := op_t c1 hf
        refine lv_iload_n hx hb dX5_number_81 rfl (lv_at hl 1 rfl) ?_
        exact hret _ _ _ _ _ (zp) dX5_number_82 (op_k hf) hP hS
      · replace hf := op_f c1 hf
        refine lv_aload_n hx hb dX5_number_9 rfl (lv_at hl 0 rfl) ?_
        refine va_get (D := D) (ci := 5) (v := .int zp) (C := RX5) (T := TX5) (N := 11) hx hb hts iX5 hown hK hP 0 rfl rfl 6 (by decide) w127 (fun _ h9 => h9) rfl dX5_number_10 ?_
        refine lv_aload_n hx hb dX5_number_13 rfl (lv_at hl 0 rfl) ?_
        refine va_get (D := D) (ci := 5) (v := .int zl) (C := RX5) (T := TX5) (N := 11) hx hb hts iX5 hown hK hP 0 rfl rfl 4 (by decide) w115 (fun _ h9 => h9) rfl dX5_number_14 ?_
        refine lv_icmp_ge (tgt := 81) hx hb dX5_number_17 (by decide) (fun c2 => ?_) (fun c2 => ?_)
        · replace hf := op_t c2 hf
          refine lv_iload_n hx hb dX5_number_81 rfl (lv_at hl 1 rfl) ?_
          exact hret _ _ _ _ _ (zp) dX5_number_82 (op_k hf) hP hS
        · replace hf := op_f c2 hf
          refine lv_aload_n hx hb dX5_number_20 rfl (lv_at hl 0 rfl) ?_
          refine va_get (D := D) (ci := 5) (v := .ref a4) (C := RX5) (T := TX5) (N := 11) hx hb hts iX5 hown hK hP 0 rfl rfl 3 (by decide) w19 (fun _ h9 => h9) rfl dX5_number_21 ?_
          refine lv_aload_n hx hb dX5_number_24 rfl (lv_at hl 0 rfl) ?_
          refine va_get (D := D) (ci := 5) (v := .int zp) (C := RX5) (T := TX5) (N := 11) hx hb hts iX5 hown hK hP 0 rfl rfl 6 (by decide) w127 (fun _ h9 => h9) rfl dX5_number_25 ?_
          obtain ⟨q3, hf⟩ := op_x hf
          refine ck_iald (j := (zp).toNatClampNeg) hx hb hK hP 4 0 rfl rfl q3 rfl dX5_number_28 ?_
          refine lv_bipush (v := 48) hx hb dX5_number_29 (by decide) ?_
          refine lv_bipush (v := 57) hx hb dX5_number_31 (by decide) ?_
          refine ck_SI (st := [.int 57, .int 48, .int (zt (zp).toNatClampNeg)]) (rest := []) (As := [.int (zt (zp).toNatClampNeg), .int 48, .int 57]) ⟨hx, hb, hml, hown, hts⟩ E0_ok (c_X5_in l D cI cC cK cO  (zt (zp).toNatClampNeg) 48 57 _ rfl) (va_cwS 3 hts gX5_number_X5_in rfl rfl rfl hs_X5_in ⟨Nat.le_of_ble_eq_true rfl, Nat.le_of_ble_eq_true rfl⟩) hK hP hD hS hA hE rfl hl.1 rfl (Nat.le_of_ble_eq_true rfl) dX5_number_33 ⟨Nat.zero_le _, Nat.zero_le _⟩ (fun r H locs hw hP hS => ?_)
          obtain ⟨hw, z5⟩ := hw
          cases hw
          refine lv_if_eq (tgt := 81) hx hb dX5_number_36 (by decide) (fun c6 => ?_) (fun c6 => ?_)
          · replace hf := op_t c6 hf
            refine lv_iload_n hx hb dX5_number_81 rfl (lv_at hl 1 rfl) ?_
            exact hret _ _ _ _ _ (zp) dX5_number_82 (op_k hf) hP hS
          · replace hf := op_f c6 hf
            refine lv_iload_n hx hb dX5_number_39 rfl (lv_at hl 1 rfl) ?_
            refine lv_if_ge (tgt := 47) hx hb dX5_number_40 (by decide) (fun c7 => ?_) (fun c7 => ?_)
            · replace hf := op_t c7 hf
              refine lv_bipush (v := 10) hx hb dX5_number_47 (by decide) ?_
              refine lv_iload_n hx hb dX5_number_49 rfl (lv_at hl 1 rfl) ?_
              refine lv_imul hx hb dX5_number_50 ?_
              refine lv_aload_n hx hb dX5_number_51 rfl (lv_at hl 0 rfl) ?_
              refine va_get (D := D) (ci := 5) (v := .ref a4) (C := RX5) (T := TX5) (N := 11) hx hb hts iX5 hown hK hP 0 rfl rfl 3 (by decide) w19 (fun _ h9 => h9) rfl dX5_number_52 ?_
              refine lv_aload_n hx hb dX5_number_55 rfl (lv_at hl 0 rfl) ?_
              refine va_get (D := D) (ci := 5) (v := .int zp) (C := RX5) (T := TX5) (N := 11) hx hb hts iX5 hown hK hP 0 rfl rfl 6 (by decide) w127 (fun _ h9 => h9) rfl dX5_number_56 ?_
              obtain ⟨q8, hf⟩ := op_x hf
              refine ck_iald (j := (zp).toNatClampNeg) hx hb hK hP 4 0 rfl rfl q8 rfl dX5_number_59 ?_
              refine lv_iadd hx hb dX5_number_60 ?_
              refine lv_bipush (v := 48) hx hb dX5_number_61 (by decide) ?_
              refine lv_isub hx hb dX5_number_63 ?_
              refine lv_istore_n (lv' := [(1, .int (((10 * x1) + (zt (zp).toNatClampNeg)) - 48)), (0, .ref h), (2, .int x2)]) hx hb dX5_number_64 rfl hl (by decide) rfl (fun ls hl => ?_)
              refine lv_aload_n hx hb dX5_number_65 rfl (lv_at hl 1 rfl) ?_
              refine lv_dup hx hb dX5_number_66 rfl ?_
              refine va_get (D := D) (ci := 5) (v := .int zp) (C := RX5) (T := TX5) (N := 11) hx hb hts iX5 hown hK hP 0 rfl rfl 6 (by decide) w127 (fun _ h9 => h9) rfl dX5_number_67 ?_
              refine lv_iconst (v := 1) hx hb dX5_number_70 (by decide) ?_
              refine lv_iadd hx hb dX5_number_71 ?_
              refine va_put (D := D) (ci := 5) (v := .int (zp + 1)) (ty := .int) (C := RX5) (T := TX5) (N := 11) hx hb hts iX5 tyX5 tyX5_ok nmX5 hown hK hP hD hS 0 rfl rfl 6 (by decide) w127 (fun _ h9 => h9) rfl (by decide +kernel) rfl rfl (Nat.le_of_ble_eq_true rfl) dX5_number_72 (fun H locs hP hD hS => ?_)
              replace hP : va_P D vwCl (wM cI h a1 a2 a3 a4 zs zb za zt zl zu (zp + 1) zw zf zg zc) H := hP
              replace hD : va_D A (wM cI h a1 a2 a3 a4 zs zb za zt zl zu (zp + 1) zw zf zg zc) := hD
              refine lv_iinc (v := (x2 + 1)) (lv' := [(2, .int (x2 + 1)), (1, .int (((10 * x1) + (zt (zp).toNatClampNeg)) - 48)), (0, .ref h)]) hx hb dX5_number_75 hl (k := 2) rfl rfl (by decide) rfl (fun ls hl => ?_)
              refine lv_goto (tgt := 4) hx hb dX5_number_78 (by decide) ?_
              exact ih (zp + 1) (((10 * x1) + (zt (zp).toNatClampNeg)) - 48) (x2 + 1) hf _ _ _ hP hD hS (lv_sub hl [2, 1, 0] rfl)
            · replace hf := op_f c7 hf
              refine lv_iconst (v := 0) hx hb dX5_number_43 (by decide) ?_
              refine lv_goto (tgt := 51) hx hb dX5_number_44 (by decide) ?_
              refine lv_aload_n hx hb dX5_number_51 rfl (lv_at hl 0 rfl) ?_
              refine va_get (D := D) (ci := 5) (v := .ref a4) (C := RX5) (T := TX5) (N := 11) hx hb hts iX5 hown hK hP 0 rfl rfl 3 (by decide) w19 (fun _ h9 => h9) rfl dX5_number_52 ?_
              refine lv_aload_n hx hb dX5_number_55 rfl (lv_at hl 0 rfl) ?_
              refine va_get (D := D) (ci := 5) (v := .int zp) (C := RX5) (T := TX5) (N := 11) hx hb hts iX5 hown hK hP 0 rfl rfl 6 (by decide) w127 (fun _ h9 => h9) rfl dX5_number_56 ?_
              obtain ⟨q9, hf⟩ := op_x hf
              refine ck_iald (j := (zp).toNatClampNeg) hx hb hK hP 4 0 rfl rfl q9 rfl dX5_number_59 ?_
              refine lv_iadd hx hb dX5_number_60 ?_
              refine lv_bipush (v := 48) hx hb dX5_number_61 (by decide) ?_
              refine lv_isub hx hb dX5_number_63 ?_
              refine lv_istore_n (lv' := [(1, .int ((0 + (zt (zp).toNatClampNeg)) - 48)), (0, .ref h), (2, .int x2)]) hx hb dX5_number_64 rfl hl (by decide) rfl (fun ls hl => ?_)
              refine lv_aload_n hx hb dX5_number_65 rfl (lv_at hl 1 rfl) ?_
              refine lv_dup hx hb dX5_number_66 rfl ?_
              refine va_get (D := D) (ci := 5) (v := .int zp) (C := RX5) (T := TX5) (N := 11) hx hb hts iX5 hown hK hP 0 rfl rfl 6 (by decide) w127 (fun _ h9 => h9) rfl dX5_number_67 ?_
              refine lv_iconst (v := 1) hx hb dX5_number_70 (by decide) ?_
              refine lv_iadd hx hb dX5_number_71 ?_
              refine va_put (D := D) (ci := 5) (v := .int (zp + 1)) (ty := .int) (C := RX5) (T := TX5) (N := 11) hx hb hts iX5 tyX5 tyX5_ok nmX5 hown hK hP hD hS 0 rfl rfl 6 (by decide) w127 (fun _ h9 => h9) rfl (by decide +kernel) rfl rfl (Nat.le_of_ble_eq_true rfl) dX5_number_72 (fun H locs hP hD hS => ?_)
              replace hP : va_P D vwCl (wM cI h a1 a2 a3 a4 zs zb za zt zl zu (zp + 1) zw zf zg zc) H := hP
              replace hD : va_D A (wM cI h a1 a2 a3 a4 zs zb za zt zl zu (zp + 1) zw zf zg zc) := hD
              refine lv_iinc (v := (x2 + 1)) (lv' := [(2, .int (x2 + 1)), (1, .int ((0 + (zt (zp).toNatClampNeg)) - 48)), (0, .ref h)]) hx hb dX5_number_75 hl (k := 2) rfl rfl (by decide) rfl (fun ls hl => ?_)
              refine lv_goto (tgt := 4) hx hb dX5_number_78 (by decide) ?_
              exact ih (zp + 1) ((0 + (zt (zp).toNatClampNeg)) - 48) (x2 + 1) hf _ _ _ hP hD hS (lv_sub hl [2, 1, 0] rfl)
  rw [f_X5_number] at hf
  refine lv_iconst (v := (-1)) hx hb dX5_number_0 (by decide) ?_
  refine lv_istore_n (lv' := [(1, .int (-1)), (0, .ref h)]) hx hb dX5_number_1 rfl hl (by decide) rfl (fun ls hl => ?_)
  refine lv_iconst (v := 0) hx hb dX5_number_2 (by decide) ?_
  refine lv_istore_n (lv' := [(2, .int 0), (1, .int (-1)), (0, .ref h)]) hx hb dX5_number_3 rfl hl (by decide) rfl (fun ls hl => ?_)
  exact L_4 K zp (-1) 0 hf _ _ _ hP hD hS (lv_sub hl [2, 1, 0] rfl)
set_option maxHeartbeats 4000000 in
set_option maxRecDepth 100000 in
theorem c_X5_wordAt (l : Launch) (D : va_G) (cI cC cK cO : ClassId) (h : Nat) (a1 : Nat) (a2 : Nat) (a3 : Nat) (a4 : Nat) (zs : Nat → Int32) (zb : Nat → Int32) (za : Nat → Int32) (zt : Nat → Int32) (zl : Int32) (zu : Int32) (zp : Int32) (zw : Int32) (zf : Int32) (zg : Int32) (zc : Int32) (R : Int32 × Int32) (hf : f_X5_wordAt zt zl zp = some R) : KI l D (TY cI cC cK cO) E0 yX5_wordAt wsX5_wordAt 2 [.ref h] (wM cI h a1 a2 a3 a4 zs zb za zt zl zu zp zw zf zg zc) (fun (r : Int32) (u : Int32) => (r, u) = R) (fun u => (wM cI h a1 a2 a3 a4 zs zb za zt zl zu u zw zf zg zc)) := by
  refine KI.ofI (cc := cX5_wordAt) (maxL := 1) (C := RX5) (by decide) rfl rfl (Nat.le_of_ble_eq_true rfl) ?_
  intro p e s m args below meth c A Q hx hb hml hts hown hP hK hD hA hE hS hret ls hl
  replace hl : lv_has ls 1 [(0, .ref h)] := hl
  rw [f_X5_wordAt] at hf
  refine lv_aload_n hx hb dX5_wordAt_0 rfl (lv_at hl 0 rfl) ?_
  refine lv_bipush (v := 99) hx hb dX5_wordAt_1 (by decide) ?_
  refine lv_bipush (v := 108) hx hb dX5_wordAt_3 (by decide) ?_
  refine lv_bipush (v := 101) hx hb dX5_wordAt_5 (by decide) ?_
  refine lv_bipush (v := 114) hx hb dX5_wordAt_7 (by decide) ?_
  refine lv_bipush (v := 107) hx hb dX5_wordAt_9 (by decide) ?_
  refine lv_bipush (v := 32) hx hb dX5_wordAt_11 (by decide) ?_
  refine lv_iconst (v := 0) hx hb dX5_wordAt_13 (by decide) ?_
  obtain ⟨⟨r1, y2⟩, h3, hf⟩ := op_b hf
  refine ck_VI (st := [.int 0, .int 32, .int 107, .int 114, .int 101, .int 108, .int 99, .ref h]) (rest := []) (As := [.int 99, .int 108, .int 101, .int 114, .int 107, .int 32, .int 0]) (C := RX5) (ci := 5) ⟨hx, hb, hml, hown, hts⟩ E0_ok (c_X5_sees l D cI cC cK cO h a1 a2 a3 a4 zs zb za zt zl zu zp zw zf zg zc 99 108 101 114 107 32 0 _ h3) (cwV 7 hts gX5_wordAt_X5_sees rfl rfl rfl hv_X5_sees ⟨Nat.le_of_ble_eq_true rfl, Nat.le_of_ble_eq_true rfl⟩) hK hP hD hS hA hE [0, 1, 2, 3, 4] rfl rfl rfl rfl rfl (fun _ => rfl) rfl hl.1 rfl (Nat.le_of_ble_eq_true rfl) dX5_wordAt_14 ⟨Nat.zero_le _, Nat.zero_le _⟩ (fun r u H locs hw hP hD hS => ?_)
  obtain ⟨hw, z4⟩ := hw
  cases hw
  replace hP : va_P D vwCl (wM cI h a1 a2 a3 a4 zs zb za zt zl zu y2 zw zf zg zc) H := hP
  replace hD : va_D A (wM cI h a1 a2 a3 a4 zs zb za zt zl zu y2 zw zf zg zc) := hD
  refine lv_if_eq (tgt := 22) hx hb dX5_wordAt_17 (by decide) (fun c5 => ?_) (fun c5 => ?_)
  · replace hf := op_t c5 hf
    refine lv_aload_n hx hb dX5_wordAt_22 rfl (lv_at hl 0 rfl) ?_
    refine lv_bipush (v := 97) hx hb dX5_wordAt_23 (by decide) ?_
    refine lv_bipush (v := 115) hx hb dX5_wordAt_25 (by decide) ?_
    refine lv_bipush (v := 107) hx hb dX5_wordAt_27 (by decide) ?_
    refine lv_bipush (v := 32) hx hb dX5_wordAt_29 (by decide) ?_
    refine lv_iconst (v := 0) hx hb dX5_wordAt_31 (by decide) ?_
    refine lv_iconst (v := 0) hx hb dX5_wordAt_32 (by decide) ?_
    refine lv_iconst (v := 0) hx hb dX5_wordAt_33 (by decide) ?_
    obtain ⟨⟨r6, y7⟩, h8, hf⟩ := op_b hf
    refine ck_VI (st := [.int 0, .int 0, .int 0, .int 32, .int 107, .int 115, .int 97, .ref h]) (rest := []) (As := [.int 97, .int 115, .int 107, .int 32, .int 0, .int 0, .int 0]) (C := RX5) (ci := 5) ⟨hx, hb, hml, hown, hts⟩ E0_ok (c_X5_sees l D cI cC cK cO h a1 a2 a3 a4 zs zb za zt zl zu y2 zw zf zg zc 97 115 107 32 0 0 0 _ h8) (cwV 7 hts gX5_wordAt_X5_sees rfl rfl rfl hv_X5_sees ⟨Nat.le_of_ble_eq_true rfl, Nat.le_of_ble_eq_true rfl⟩) hK hP hD hS hA hE [0, 1, 2, 3, 4] rfl rfl rfl rfl rfl (fun _ => rfl) rfl hl.1 rfl (Nat.le_of_ble_eq_true rfl) dX5_wordAt_34 ⟨Nat.zero_le _, Nat.zero_le _⟩ (fun r u H locs hw hP hD hS => ?_)
    obtain ⟨hw, z9⟩ := hw
    cases hw
    replace hP : va_P D vwCl (wM cI h a1 a2 a3 a4 zs zb za zt zl zu y7 zw zf zg zc) H := hP
    replace hD : va_D A (wM cI h a1 a2 a3 a4 zs zb za zt zl zu y7 zw zf zg zc) := hD
    refine lv_if_eq (tgt := 42) hx hb dX5_wordAt_37 (by decide) (fun c10 => ?_) (fun c10 => ?_)
    · replace hf := op_t c10 hf
      refine lv_aload_n hx hb dX5_wordAt_42 rfl (lv_at hl 0 rfl) ?_
      refine lv_bipush (v := 102) hx hb dX5_wordAt_43 (by decide) ?_
      refine lv_bipush (v := 111) hx hb dX5_wordAt_45 (by decide) ?_
      refine lv_bipush (v := 114) hx hb dX5_wordAt_47 (by decide) ?_
      refine lv_bipush (v := 103) hx hb dX5_wordAt_49 (by decide) ?_
      refine lv_bipush (v := 101) hx hb dX5_wordAt_51 (by decide) ?_
      refine lv_bipush (v := 116) hx hb dX5_wordAt_53 (by decide) ?_
      refine lv_bipush (v := 32) hx hb dX5_wordAt_55 (by decide) ?_
      obtain ⟨⟨r11, y12⟩, h13, hf⟩ := op_b hf
      refine ck_VI (st := [.int 32, .int 116, .int 101, .int 103, .int 114, .int 111, .int 102, .ref h]) (rest := []) (As := [.int 102, .int 111, .int 114, .int 103, .int 101, .int 116, .int 32]) (C := RX5) (ci := 5) ⟨hx, hb, hml, hown, hts⟩ E0_ok (c_X5_sees l D cI cC cK cO h a1 a2 a3 a4 zs zb za zt zl zu y7 zw zf zg zc 102 111 114 103 101 116 32 _ h13) (cwV 7 hts gX5_wordAt_X5_sees rfl rfl rfl hv_X5_sees ⟨Nat.le_of_ble_eq_true rfl, Nat.le_of_ble_eq_true rfl⟩) hK hP hD hS hA hE [0, 1, 2, 3, 4] rfl rfl rfl rfl rfl (fun _ => rfl) rfl hl.1 rfl (Nat.le_of_ble_eq_true rfl) dX5_wordAt_57 ⟨Nat.zero_le _, Nat.zero_le _⟩ (fun r u H locs hw hP hD hS => ?_)
      obtain ⟨hw, z14⟩ := hw
      cases hw
      replace hP : va_P D vwCl (wM cI h a1 a2 a3 a4 zs zb za zt zl zu y12 zw zf zg zc) H := hP
      replace hD : va_D A (wM cI h a1 a2 a3 a4 zs zb za zt zl zu y12 zw zf zg zc) := hD
      refine lv_if_eq (tgt := 65) hx hb dX5_wordAt_60 (by decide) (fun c15 => ?_) (fun c15 => ?_)
      · replace hf := op_t c15 hf
        refine lv_aload_n hx hb dX5_wordAt_65 rfl (lv_at hl 0 rfl) ?_
        refine lv_bipush (v := 98) hx hb dX5_wordAt_66 (by decide) ?_
        refine lv_bipush (v := 97) hx hb dX5_wordAt_68 (by decide) ?_
        refine lv_bipush (v := 99) hx hb dX5_wordAt_70 (by decide) ?_
        refine lv_bipush (v := 107) hx hb dX5_wordAt_72 (by decide) ?_
        refine lv_bipush (v := 32) hx hb dX5_wordAt_74 (by decide) ?_
        refine lv_iconst (v := 0) hx hb dX5_wordAt_76 (by decide) ?_
        refine lv_iconst (v := 0) hx hb dX5_wordAt_77 (by decide) ?_
        obtain ⟨⟨r16, y17⟩, h18, hf⟩ := op_b hf
        refine ck_VI (st := [.int 0, .int 0, .int 32, .int 107, .int 99, .int 97, .int 98, .ref h]) (rest := []) (As := [.int 98, .int 97, .int 99, .int 107, .int 32, .int 0, .int 0]) (C := RX5) (ci := 5) ⟨hx, hb, hml, hown, hts⟩ E0_ok (c_X5_sees l D cI cC cK cO h a1 a2 a3 a4 zs zb za zt zl zu y12 zw zf zg zc 98 97 99 107 32 0 0 _ h18) (cwV 7 hts gX5_wordAt_X5_sees rfl rfl rfl hv_X5_sees ⟨Nat.le_of_ble_eq_true rfl, Nat.le_of_ble_eq_true rfl⟩) hK hP hD hS hA hE [0, 1, 2, 3, 4] rfl rfl rfl rfl rfl (fun _ => rfl) rfl hl.1 rfl (Nat.le_of_ble_eq_true rfl) dX5_wordAt_78 ⟨Nat.zero_le _, Nat.zero_le _⟩ (fun r u H locs hw hP hD hS => ?_)
        obtain ⟨hw, z19⟩ := hw
        cases hw
        replace hP : va_P D vwCl (wM cI h a1 a2 a3 a4 zs zb za zt zl zu y17 zw zf zg zc) H := hP
        replace hD : va_D A (wM cI h a1 a2 a3 a4 zs zb za zt zl zu y17 zw zf zg zc) := hD
        refine lv_if_eq (tgt := 86) hx hb dX5_wordAt_81 (by decide) (fun c20 => ?_) (fun c20 => ?_)
        · replace hf := op_t c20 hf
          refine lv_aload_n hx hb dX5_wordAt_86 rfl (lv_at hl 0 rfl) ?_
          refine lv_bipush (v := 118) hx hb dX5_wordAt_87 (by decide) ?_
          refine lv_bipush (v := 111) hx hb dX5_wordAt_89 (by decide) ?_
          refine lv_bipush (v := 105) hx hb dX5_wordAt_91 (by decide) ?_
          refine lv_bipush (v := 100) hx hb dX5_wordAt_93 (by decide) ?_
          refine lv_bipush (v := 32) hx hb dX5_wordAt_95 (by decide) ?_
          refine lv_iconst (v := 0) hx hb dX5_wordAt_97 (by decide) ?_
          refine lv_iconst (v := 0) hx hb dX5_wordAt_98 (by decide) ?_
          obtain ⟨⟨r21, y22⟩, h23, hf⟩ := op_b hf
          refine ck_VI (st := [.int 0, .int 0, .int 32, .int 100, .int 105, .int 111, .int 118, .ref h]) (rest := []) (As := [.int 118, .int 111, .int 105, .int 100, .int 32, .int 0, .int 0]) (C := RX5) (ci := 5) ⟨hx, hb, hml, hown, hts⟩ E0_ok (c_X5_sees l D cI cC cK cO h a1 a2 a3 a4 zs zb za zt zl zu y17 zw zf zg zc 118 111 105 100 32 0 0 _ h23) (cwV 7 hts gX5_wordAt_X5_sees rfl rfl rfl hv_X5_sees ⟨Nat.le_of_ble_eq_true rfl, Nat.le_of_ble_eq_true rfl⟩) hK hP hD hS hA hE [0, 1, 2, 3, 4] rfl rfl rfl rfl rfl (fun _ => rfl) rfl hl.1 rfl (Nat.le_of_ble_eq_true rfl) dX5_wordAt_99 ⟨Nat.zero_le _, Nat.zero_le _⟩ (fun r u H locs hw hP hD hS => ?_)
          obtain ⟨hw, z24⟩ := hw
          cases hw
          replace hP : va_P D vwCl (wM cI h a1 a2 a3 a4 zs zb za zt zl zu y22 zw zf zg zc) H := hP
          replace hD : va_D A (wM cI h a1 a2 a3 a4 zs zb za zt zl zu y22 zw zf zg zc) := hD
          refine lv_if_eq (tgt := 107) hx hb dX5_wordAt_102 (by decide) (fun c25 => ?_) (fun c25 => ?_)
          · replace hf := op_t c25 hf
            refine lv_aload_n hx hb dX5_wordAt_107 rfl (lv_at hl 0 rfl) ?_
            refine lv_bipush (v := 99) hx hb dX5_wordAt_108 (by decide) ?_
            refine lv_bipush (v := 108) hx hb dX5_wordAt_110 (by decide) ?_
            refine lv_bipush (v := 111) hx hb dX5_wordAt_112 (by decide) ?_
            refine lv_bipush (v := 115) hx hb dX5_wordAt_114 (by decide) ?_
            refine lv_bipush (v := 101) hx hb dX5_wordAt_116 (by decide) ?_
            refine lv_iconst (v := 0) hx hb dX5_wordAt_118 (by decide) ?_
            refine lv_iconst (v := 0) hx hb dX5_wordAt_119 (by decide) ?_
            obtain ⟨⟨r26, y27⟩, h28, hf⟩ := op_b hf
            refine ck_VI (st := [.int 0, .int 0, .int 101, .int 115, .int 111, .int 108, .int 99, .ref h]) (rest := []) (As := [.int 99, .int 108, .int 111, .int 115, .int 101, .int 0, .int 0]) (C := RX5) (ci := 5) ⟨hx, hb, hml, hown, hts⟩ E0_ok (c_X5_sees l D cI cC cK cO h a1 a2 a3 a4 zs zb za zt zl zu y22 zw zf zg zc 99 108 111 115 101 0 0 _ h28) (cwV 7 hts gX5_wordAt_X5_sees rfl rfl rfl hv_X5_sees ⟨Nat.le_of_ble_eq_true rfl, Nat.le_of_ble_eq_true rfl⟩) hK hP hD hS hA hE [0, 1, 2, 3, 4] rfl rfl rfl rfl rfl (fun _ => rfl) rfl hl.1 rfl (Nat.le_of_ble_eq_true rfl) dX5_wordAt_120 ⟨Nat.zero_le _, Nat.zero_le _⟩ (fun r u H locs hw hP hD hS => ?_)
            obtain ⟨hw, z29⟩ := hw
            cases hw
            replace hP : va_P D vwCl (wM cI h a1 a2 a3 a4 zs zb za zt zl zu y27 zw zf zg zc) H := hP
            replace hD : va_D A (wM cI h a1 a2 a3 a4 zs zb za zt zl zu y27 zw zf zg zc) := hD
            refine lv_if_eq (tgt := 130) hx hb dX5_wordAt_123 (by decide) (fun c30 => ?_) (fun c30 => ?_)
            · replace hf := op_t c30 hf
              refine lv_iconst (v := (-1)) hx hb dX5_wordAt_130 (by decide) ?_
              exact hret _ _ _ _ _ (y27) dX5_wordAt_131 (op_k hf) hP hS
            · replace hf := op_f c30 hf
              refine lv_iconst (v := 5) hx hb dX5_wordAt_126 (by decide) ?_
              refine lv_goto (tgt := 131) hx hb dX5_wordAt_127 (by decide) ?_
              exact hret _ _ _ _ _ (y27) dX5_wordAt_131 (op_k hf) hP hS
          · replace hf := op_f c25 hf
            refine lv_iconst (v := 4) hx hb dX5_wordAt_105 (by decide) ?_
            exact hret _ _ _ _ _ (y22) dX5_wordAt_106 (op_k hf) hP hS
        · replace hf := op_f c20 hf
          refine lv_iconst (v := 3) hx hb dX5_wordAt_84 (by decide) ?_
          exact hret _ _ _ _ _ (y17) dX5_wordAt_85 (op_k hf) hP hS
      · replace hf := op_f c15 hf
        refine lv_iconst (v := 2) hx hb dX5_wordAt_63 (by decide) ?_
        exact hret _ _ _ _ _ (y12) dX5_wordAt_64 (op_k hf) hP hS
    · replace hf := op_f c10 hf
      refine lv_iconst (v := 1) hx hb dX5_wordAt_40 (by decide) ?_
      exact hret _ _ _ _ _ (y7) dX5_wordAt_41 (op_k hf) hP hS
  · replace hf := op_f c5 hf
    refine lv_iconst (v := 0) hx hb dX5_wordAt_20 (by decide) ?_
    exact hret _ _ _ _ _ (y2) dX5_wordAt_21 (op_k hf) hP hS
