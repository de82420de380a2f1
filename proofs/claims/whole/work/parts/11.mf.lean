/-! laid by wip/whole/gen.py: walks of the reference's methods -/
set_option maxHeartbeats 4000000 in
set_option maxRecDepth 100000 in
theorem c_X5_rows (l : Launch) (D : va_G) (cI cC cK cO : ClassId) (h : Nat) (a1 : Nat) (a2 : Nat) (a3 : Nat) (a4 : Nat) (zs : Nat → Int32) (zb : Nat → Int32) (za : Nat → Int32) (zt : Nat → Int32) (zl : Int32) (zu : Int32) (zp : Int32) (zw : Int32) (zf : Int32) (zg : Int32) (zc : Int32) (K : Nat) (R : Int32) (hf : f_X5_rows K zs = some R) : KI l D (TY cI cC cK cO) E0 yX5_rows wsX5_rows 2 [.ref h] (wM cI h a1 a2 a3 a4 zs zb za zt zl zu zp zw zf zg zc) (fun (r : Int32) (u : Unit) => r = R) (fun u => (wM cI h a1 a2 a3 a4 zs zb za zt zl zu zp zw zf zg zc)) := by
  refine KI.ofI (cc := cX5_rows) (maxL := 3) (C := RX5) (by decide) rfl rfl (Nat.le_of_ble_eq_true rfl) ?_
  intro p e s m args below meth c A Q hx hb hml hts hown hP hK hD hA hE hS hret ls hl
  replace hl : lv_has ls 3 [(0, .ref h)] := hl
  have w7 := hts (.fieldLink RX5 7 "BlockClerksModel" "s" "[I") (by decide +kernel)
  have iX5 : ∀ w ∈ wsX50, w ∈ wsX5_rows := by decide +kernel
  have L_4 : ∀ (n : Nat)  (x1 : Int32) (x2 : Int32) (hf : f_X5_rows_4 zs n x1 x2 = some R) (H : Heap) (locs : List Loc) (ls : Array Slot), va_P D vwCl (wM cI h a1 a2 a3 a4 zs zb za zt zl zu zp zw zf zg zc) H → va_D A (wM cI h a1 a2 a3 a4 zs zb za zt zl zu zp zw zf zg zc) → va_S A s.heap H locs → lv_has ls 3 [(0, .ref h), (1, .int x1), (2, .int x2)] → W p l e (rm 2) s m args below meth c H locs 0 0 Q (F0 m 4 ls []) := by
    intro n
    induction n with
    | zero =>
      intro  x1 x2 hf
      cases hf
    | succ n ih =>
      intro  x1 x2 hf H locs ls hP hD hS hl
      rw [f_X5_rows_4] at hf
      refine lv_iload_n hx hb dX5_rows_4 rfl (lv_at hl 2 rfl) ?_
      refine lv_sipush (v := 600) hx hb dX5_rows_5 (by decide) ?_
      refine lv_icmp_gt (tgt := 49) hx hb dX5_rows_8 (by decide) (fun c1 => ?_) (fun c1 => ?_)
      · replace hf := op_t c1 hf
        refine lv_iload_n hx hb dX5_rows_49 rfl (lv_at hl 1 rfl) ?_
        exact hret _ _ _ _ _ () dX5_rows_50 (op_k hf) hP hS
      · replace hf := op_f c1 hf
        refine lv_iload_n hx hb dX5_rows_11 rfl (lv_at hl 1 rfl) ?_
        refine lv_aload_n hx hb dX5_rows_12 rfl (lv_at hl 0 rfl) ?_
        refine va_get (D := D) (ci := 5) (v := .ref a1) (C := RX5) (T := TX5) (N := 11) hx hb hts iX5 hown hK hP 0 rfl rfl 0 (by decide) w7 (fun _ h9 => h9) rfl dX5_rows_13 ?_
        refine lv_iload_n hx hb dX5_rows_16 rfl (lv_at hl 2 rfl) ?_
        refine ck_SI (st := [.int x2, .ref a1, .int x1]) (rest := [.ref a1, .int x1]) (As := [.int x2]) ⟨hx, hb, hml, hown, hts⟩ E0_ok (c_X5_n l D cI cC cK cO  x2 _ rfl) (va_cwS 1 hts gX5_rows_X5_n rfl rfl rfl hs_X5_n ⟨Nat.le_of_ble_eq_true rfl, Nat.le_of_ble_eq_true rfl⟩) hK hP hD hS hA hE rfl hl.1 rfl (Nat.le_of_ble_eq_true rfl) dX5_rows_17 ⟨Nat.zero_le _, Nat.zero_le _⟩ (fun r H locs hw hP hS => ?_)
        cases hw
        refine lv_iconst (v := 0) hx hb dX5_rows_20 (by decide) ?_
        refine lv_iadd hx hb dX5_rows_21 ?_
        obtain ⟨q4, hf⟩ := op_x hf
        refine ck_iald (j := ((f_X5_n x2) + 0).toNatClampNeg) hx hb hK hP 1 0 rfl rfl q4 rfl dX5_rows_22 ?_
        refine lv_iconst (v := 4) hx hb dX5_rows_23 (by decide) ?_
        refine lv_icmp_ne (tgt := 40) hx hb dX5_rows_24 (by decide) (fun c5 => ?_) (fun c5 => ?_)
        · replace hf := op_f c5 hf
          refine lv_iconst (v := 0) hx hb dX5_rows_40 (by decide) ?_
          refine lv_iadd hx hb dX5_rows_41 ?_
          refine lv_istore_n (lv' := [(1, .int (x1 + 0)), (0, .ref h), (2, .int x2)]) hx hb dX5_rows_42 rfl hl (by decide) rfl (fun ls hl => ?_)
          refine lv_iinc (v := (x2 + 1)) (lv' := [(2, .int (x2 + 1)), (1, .int (x1 + 0)), (0, .ref h)]) hx hb dX5_rows_43 hl (k := 2) rfl rfl (by decide) rfl (fun ls hl => ?_)
          refine lv_goto (tgt := 4) hx hb dX5_rows_46 (by decide) ?_
          exact ih  (x1 + 0) (x2 + 1) hf _ _ _ hP hD hS (lv_sub hl [2, 1, 0] rfl)
        · replace hf := op_t c5 hf
          refine lv_aload_n hx hb dX5_rows_27 rfl (lv_at hl 0 rfl) ?_
          refine lv_iload_n hx hb dX5_rows_28 rfl (lv_at hl 2 rfl) ?_
          refine lv_iconst (v := 4) hx hb dX5_rows_29 (by decide) ?_
          obtain ⟨r6, h7, hf⟩ := op_b hf
          refine ck_VI (st := [.int 4, .int x2, .ref h, .int x1]) (rest := [.int x1]) (As := [.int x2, .int 4]) (C := RX5) (ci := 5) ⟨hx, hb, hml, hown, hts⟩ E0_ok (c_X5_goesOn l D cI cC cK cO h a1 a2 a3 a4 zs zb za zt zl zu zp zw zf zg zc x2 4 _ h7) (cwV 2 hts gX5_rows_X5_goesOn rfl rfl rfl hv_X5_goesOn ⟨Nat.le_of_ble_eq_true rfl, Nat.le_of_ble_eq_true rfl⟩) hK hP hD hS hA hE [0, 1, 2, 3, 4] rfl rfl rfl rfl rfl (fun _ => rfl) rfl hl.1 rfl (Nat.le_of_ble_eq_true rfl) dX5_rows_30 ⟨Nat.zero_le _, Nat.zero_le _⟩ (fun r u H locs hw hP hD hS => ?_)
          obtain ⟨hw, z8⟩ := hw
          cases hw
          replace hP : va_P D vwCl (wM cI h a1 a2 a3 a4 zs zb za zt zl zu zp zw zf zg zc) H := hP
          replace hD : va_D A (wM cI h a1 a2 a3 a4 zs zb za zt zl zu zp zw zf zg zc) := hD
          refine lv_if_ne (tgt := 40) hx hb dX5_rows_33 (by decide) (fun c9 => ?_) (fun c9 => ?_)
          · replace hf := op_f c9 hf
            refine lv_iconst (v := 0) hx hb dX5_rows_40 (by decide) ?_
            refine lv_iadd hx hb dX5_rows_41 ?_
            refine lv_istore_n (lv' := [(1, .int (x1 + 0)), (0, .ref h), (2, .int x2)]) hx hb dX5_rows_42 rfl hl (by decide) rfl (fun ls hl => ?_)
            refine lv_iinc (v := (x2 + 1)) (lv' := [(2, .int (x2 + 1)), (1, .int (x1 + 0)), (0, .ref h)]) hx hb dX5_rows_43 hl (k := 2) rfl rfl (by decide) rfl (fun ls hl => ?_)
            refine lv_goto (tgt := 4) hx hb dX5_rows_46 (by decide) ?_
            exact ih  (x1 + 0) (x2 + 1) hf _ _ _ hP hD hS (lv_sub hl [2, 1, 0] rfl)
          · replace hf := op_t c9 hf
            refine lv_iconst (v := 1) hx hb dX5_rows_36 (by decide) ?_
            refine lv_goto (tgt := 41) hx hb dX5_rows_37 (by decide) ?_
            refine lv_iadd hx hb dX5_rows_41 ?_
            refine lv_istore_n (lv' := [(1, .int (x1 + 1)), (0, .ref h), (2, .int x2)]) hx hb dX5_rows_42 rfl hl (by decide) rfl (fun ls hl => ?_)
            refine lv_iinc (v := (x2 + 1)) (lv' := [(2, .int (x2 + 1)), (1, .int (x1 + 1)), (0, .ref h)]) hx hb dX5_rows_43 hl (k := 2) rfl rfl (by decide) rfl (fun ls hl => ?_)
            refine lv_goto (tgt := 4) hx hb dX5_rows_46 (by decide) ?_
            exact ih  (x1 + 1) (x2 + 1) hf _ _ _ hP hD hS (lv_sub hl [2, 1, 0] rfl)
  rw [f_X5_rows] at hf
  refine lv_iconst (v := 0) hx hb dX5_rows_0 (by decide) ?_
  refine lv_istore_n (lv' := [(1, .int 0), (0, .ref h)]) hx hb dX5_rows_1 rfl hl (by decide) rfl (fun ls hl => ?_)
  refine lv_iconst (v := 1) hx hb dX5_rows_2 (by decide) ?_
  refine lv_istore_n (lv' := [(2, .int 1), (1, .int 0), (0, .ref h)]) hx hb dX5_rows_3 rfl hl (by decide) rfl (fun ls hl => ?_)
  exact L_4 K  0 1 hf _ _ _ hP hD hS (lv_sub hl [2, 1, 0] rfl)
set_option maxHeartbeats 4000000 in
set_option maxRecDepth 100000 in
theorem c_X5_whole (l : Launch) (D : va_G) (cI cC cK cO : ClassId) (h : Nat) (a1 : Nat) (a2 : Nat) (a3 : Nat) (a4 : Nat) (zs : Nat → Int32) (zb : Nat → Int32) (za : Nat → Int32) (zt : Nat → Int32) (zl : Int32) (zu : Int32) (zp : Int32) (zw : Int32) (zf : Int32) (zg : Int32) (zc : Int32) (K : Nat) (R : Int32) (hf : f_X5_whole K zs = some R) : KI l D (TY cI cC cK cO) E0 yX5_whole wsX5_whole 1 [.ref h] (wM cI h a1 a2 a3 a4 zs zb za zt zl zu zp zw zf zg zc) (fun (r : Int32) (u : Unit) => r = R) (fun u => (wM cI h a1 a2 a3 a4 zs zb za zt zl zu zp zw zf zg zc)) := by
  refine KI.ofI (cc := cX5_whole) (maxL := 2) (C := RX5) (by decide) rfl rfl (Nat.le_of_ble_eq_true rfl) ?_
  intro p e s m args below meth c A Q hx hb hml hts hown hP hK hD hA hE hS hret ls hl
  replace hl : lv_has ls 2 [(0, .ref h)] := hl
  have w7 := hts (.fieldLink RX5 7 "BlockClerksModel" "s" "[I") (by decide +kernel)
  have iX5 : ∀ w ∈ wsX50, w ∈ wsX5_whole := by decide +kernel
  have L_2 : ∀ (n : Nat)  (x1 : Int32) (hf : f_X5_whole_2 zs n x1 = some R) (H : Heap) (locs : List Loc) (ls : Array Slot), va_P D vwCl (wM cI h a1 a2 a3 a4 zs zb za zt zl zu zp zw zf zg zc) H → va_D A (wM cI h a1 a2 a3 a4 zs zb za zt zl zu zp zw zf zg zc) → va_S A s.heap H locs → lv_has ls 2 [(0, .ref h), (1, .int x1)] → W p l e (rm 1) s m args below meth c H locs 0 0 Q (F0 m 2 ls []) := by
    intro n
    induction n with
    | zero =>
      intro  x1 hf
      cases hf
    | succ n ih =>
      intro  x1 hf H locs ls hP hD hS hl
      rw [f_X5_whole_2] at hf
      refine lv_iload_n hx hb dX5_whole_2 rfl (lv_at hl 1 rfl) ?_
      refine lv_sipush (v := 600) hx hb dX5_whole_3 (by decide) ?_
      refine lv_icmp_gt (tgt := 30) hx hb dX5_whole_6 (by decide) (fun c1 => ?_) (fun c1 => ?_)
      · replace hf := op_t c1 hf
        refine lv_iload_n hx hb dX5_whole_30 rfl (lv_at hl 1 rfl) ?_
        refine lv_iconst (v := 1) hx hb dX5_whole_31 (by decide) ?_
        refine lv_isub hx hb dX5_whole_32 ?_
        exact hret _ _ _ _ _ () dX5_whole_33 (op_k hf) hP hS
      · replace hf := op_f c1 hf
        refine lv_aload_n hx hb dX5_whole_9 rfl (lv_at hl 0 rfl) ?_
        refine va_get (D := D) (ci := 5) (v := .ref a1) (C := RX5) (T := TX5) (N := 11) hx hb hts iX5 hown hK hP 0 rfl rfl 0 (by decide) w7 (fun _ h9 => h9) rfl dX5_whole_10 ?_
        refine lv_iload_n hx hb dX5_whole_13 rfl (lv_at hl 1 rfl) ?_
        refine ck_SI (st := [.int x1, .ref a1]) (rest := [.ref a1]) (As := [.int x1]) ⟨hx, hb, hml, hown, hts⟩ E0_ok (c_X5_n l D cI cC cK cO  x1 _ rfl) (va_cwS 1 hts gX5_whole_X5_n rfl rfl rfl hs_X5_n ⟨Nat.le_of_ble_eq_true rfl, Nat.le_of_ble_eq_true rfl⟩) hK hP hD hS hA hE rfl hl.1 rfl (Nat.le_of_ble_eq_true rfl) dX5_whole_14 ⟨Nat.zero_le _, Nat.zero_le _⟩ (fun r H locs hw hP hS => ?_)
        cases hw
        refine lv_iconst (v := 0) hx hb dX5_whole_17 (by decide) ?_
        refine lv_iadd hx hb dX5_whole_18 ?_
        obtain ⟨q4, hf⟩ := op_x hf
        refine ck_iald (j := ((f_X5_n x1) + 0).toNatClampNeg) hx hb hK hP 1 0 rfl rfl q4 rfl dX5_whole_19 ?_
        refine lv_iconst (v := 2) hx hb dX5_whole_20 (by decide) ?_
        refine lv_icmp_ne (tgt := 30) hx hb dX5_whole_21 (by decide) (fun c5 => ?_) (fun c5 => ?_)
        · replace hf := op_f c5 hf
          refine lv_iload_n hx hb dX5_whole_30 rfl (lv_at hl 1 rfl) ?_
          refine lv_iconst (v := 1) hx hb dX5_whole_31 (by decide) ?_
          refine lv_isub hx hb dX5_whole_32 ?_
          exact hret _ _ _ _ _ () dX5_whole_33 (op_k hf) hP hS
        · replace hf := op_t c5 hf
          refine lv_iinc (v := (x1 + 1)) (lv' := [(1, .int (x1 + 1)), (0, .ref h)]) hx hb dX5_whole_24 hl (k := 1) rfl rfl (by decide) rfl (fun ls hl => ?_)
          refine lv_goto (tgt := 2) hx hb dX5_whole_27 (by decide) ?_
          exact ih  (x1 + 1) hf _ _ _ hP hD hS (lv_sub hl [1, 0] rfl)
  rw [f_X5_whole] at hf
  refine lv_iconst (v := 1) hx hb dX5_whole_0 (by decide) ?_
  refine lv_istore_n (lv' := [(1, .int 1), (0, .ref h)]) hx hb dX5_whole_1 rfl hl (by decide) rfl (fun ls hl => ?_)
  exact L_2 K  1 hf _ _ _ hP hD hS (lv_sub hl [1, 0] rfl)
set_option maxHeartbeats 4000000 in
set_option maxRecDepth 100000 in
theorem c_X5_count (l : Launch) (D : va_G) (cI cC cK cO : ClassId) (h : Nat) (a1 : Nat) (a2 : Nat) (a3 : Nat) (a4 : Nat) (zs : Nat → Int32) (zb : Nat → Int32) (za : Nat → Int32) (zt : Nat → Int32) (zl : Int32) (zu : Int32) (zp : Int32) (zw : Int32) (zf : Int32) (zg : Int32) (zc : Int32) (x1 : Int32) (K : Nat) (R : Int32) (hf : f_X5_count K zs zl zu x1 = some R) : KI l D (TY cI cC cK cO) E0 yX5_count wsX5_count 3 [.ref h, .int x1] (wM cI h a1 a2 a3 a4 zs zb za zt zl zu zp zw zf zg zc) (fun (r : Int32) (u : Unit) => r = R) (fun u => (wM cI h a1 a2 a3 a4 zs zb za zt zl zu zp zw zf zg zc)) := by
  refine KI.ofI (cc := cX5_count) (maxL := 2) (C := RX5) (by decide) rfl rfl (Nat.le_of_ble_eq_true rfl) ?_
  intro p e s m args below meth c A Q hx hb hml hts hown hP hK hD hA hE hS hret ls hl
  replace hl : lv_has ls 2 [(0, .ref h), (1, .int x1)] := hl
  have w115 := hts (.fieldLink RX5 115 "BlockClerksModel" "length" "I") (by decide +kernel)
  have w26 := hts (.fieldLink RX5 26 "BlockClerksModel" "undoMany" "I") (by decide +kernel)
  have w7 := hts (.fieldLink RX5 7 "BlockClerksModel" "s" "[I") (by decide +kernel)
  have iX5 : ∀ w ∈ wsX50, w ∈ wsX5_count := by decide +kernel
  rw [f_X5_count] at hf
  refine lv_iload_n hx hb dX5_count_0 rfl (lv_at hl 1 rfl) ?_
  by_cases c1 : x1 = 0
  · replace hf := op_t c1 hf
    refine sw_in (v := 0) (tgt := 64) hx hb dX5_count_1 c1 (by decide) (by decide) rfl (by decide) ?_
    refine lv_aload_n hx hb dX5_count_64 rfl (lv_at hl 0 rfl) ?_
    refine va_get (D := D) (ci := 5) (v := .ref a1) (C := RX5) (T := TX5) (N := 11) hx hb hts iX5 hown hK hP 0 rfl rfl 0 (by decide) w7 (fun _ h9 => h9) rfl dX5_count_65 ?_
    refine lv_iconst (v := 3) hx hb dX5_count_68 (by decide) ?_
    refine ck_iald (j := 3) hx hb hK hP 1 0 rfl rfl (in_lit (by decide)) (by decide) dX5_count_69 ?_
    exact hret _ _ _ _ _ () dX5_count_70 (op_k hf) hP hS
  replace hf := op_f c1 hf
  by_cases c2 : x1 = 1
  · replace hf := op_t c2 hf
    refine sw_in (v := 1) (tgt := 71) hx hb dX5_count_1 c2 (by decide) (by decide) rfl (by decide) ?_
    refine lv_aload_n hx hb dX5_count_71 rfl (lv_at hl 0 rfl) ?_
    refine va_get (D := D) (ci := 5) (v := .ref a1) (C := RX5) (T := TX5) (N := 11) hx hb hts iX5 hown hK hP 0 rfl rfl 0 (by decide) w7 (fun _ h9 => h9) rfl dX5_count_72 ?_
    refine lv_iconst (v := 4) hx hb dX5_count_75 (by decide) ?_
    refine ck_iald (j := 4) hx hb hK hP 1 0 rfl rfl (in_lit (by decide)) (by decide) dX5_count_76 ?_
    exact hret _ _ _ _ _ () dX5_count_77 (op_k hf) hP hS
  replace hf := op_f c2 hf
  by_cases c3 : x1 = 2
  · replace hf := op_t c3 hf
    refine sw_in (v := 2) (tgt := 78) hx hb dX5_count_1 c3 (by decide) (by decide) rfl (by decide) ?_
    refine lv_aload_n hx hb dX5_count_78 rfl (lv_at hl 0 rfl) ?_
    refine va_get (D := D) (ci := 5) (v := .ref a1) (C := RX5) (T := TX5) (N := 11) hx hb hts iX5 hown hK hP 0 rfl rfl 0 (by decide) w7 (fun _ h9 => h9) rfl dX5_count_79 ?_
    refine lv_iconst (v := 5) hx hb dX5_count_82 (by decide) ?_
    refine ck_iald (j := 5) hx hb hK hP 1 0 rfl rfl (in_lit (by decide)) (by decide) dX5_count_83 ?_
    exact hret _ _ _ _ _ () dX5_count_84 (op_k hf) hP hS
  replace hf := op_f c3 hf
  by_cases c4 : x1 = 3
  · replace hf := op_t c4 hf
    refine sw_in (v := 3) (tgt := 85) hx hb dX5_count_1 c4 (by decide) (by decide) rfl (by decide) ?_
    refine lv_aload_n hx hb dX5_count_85 rfl (lv_at hl 0 rfl) ?_
    refine lv_iconst (v := 1) hx hb dX5_count_86 (by decide) ?_
    obtain ⟨r5, h6, hf⟩ := op_b hf
    refine ck_VI (st := [.int 1, .ref h]) (rest := []) (As := [.int 1]) (C := RX5) (ci := 5) ⟨hx, hb, hml, hown, hts⟩ E0_ok (c_X5_many l D cI cC cK cO h a1 a2 a3 a4 zs zb za zt zl zu zp zw zf zg zc 1 K _ h6) (cwV 1 hts gX5_count_X5_many rfl rfl rfl hv_X5_many ⟨Nat.le_of_ble_eq_true rfl, Nat.le_of_ble_eq_true rfl⟩) hK hP hD hS hA hE [0, 1, 2, 3, 4] rfl rfl rfl rfl rfl (fun _ => rfl) rfl hl.1 rfl (Nat.le_of_ble_eq_true rfl) dX5_count_87 ⟨Nat.zero_le _, Nat.zero_le _⟩ (fun r u H locs hw hP hD hS => ?_)
    cases hw
    replace hP : va_P D vwCl (wM cI h a1 a2 a3 a4 zs zb za zt zl zu zp zw zf zg zc) H := hP
    replace hD : va_D A (wM cI h a1 a2 a3 a4 zs zb za zt zl zu zp zw zf zg zc) := hD
    exact hret _ _ _ _ _ () dX5_count_90 (op_k hf) hP hS
  replace hf := op_f c4 hf
  by_cases c8 : x1 = 4
  · replace hf := op_t c8 hf
    refine sw_in (v := 4) (tgt := 91) hx hb dX5_count_1 c8 (by decide) (by decide) rfl (by decide) ?_
    refine lv_aload_n hx hb dX5_count_91 rfl (lv_at hl 0 rfl) ?_
    refine lv_iconst (v := 3) hx hb dX5_count_92 (by decide) ?_
    obtain ⟨r9, h10, hf⟩ := op_b hf
    refine ck_VI (st := [.int 3, .ref h]) (rest := []) (As := [.int 3]) (C := RX5) (ci := 5) ⟨hx, hb, hml, hown, hts⟩ E0_ok (c_X5_many l D cI cC cK cO h a1 a2 a3 a4 zs zb za zt zl zu zp zw zf zg zc 3 K _ h10) (cwV 1 hts gX5_count_X5_many rfl rfl rfl hv_X5_many ⟨Nat.le_of_ble_eq_true rfl, Nat.le_of_ble_eq_true rfl⟩) hK hP hD hS hA hE [0, 1, 2, 3, 4] rfl rfl rfl rfl rfl (fun _ => rfl) rfl hl.1 rfl (Nat.le_of_ble_eq_true rfl) dX5_count_93 ⟨Nat.zero_le _, Nat.zero_le _⟩ (fun r u H locs hw hP hD hS => ?_)
    cases hw
    replace hP : va_P D vwCl (wM cI h a1 a2 a3 a4 zs zb za zt zl zu zp zw zf zg zc) H := hP
    replace hD : va_D A (wM cI h a1 a2 a3 a4 zs zb za zt zl zu zp zw zf zg zc) := hD
    exact hret _ _ _ _ _ () dX5_count_96 (op_k hf) hP hS
  replace hf := op_f c8 hf
  by_cases c12 : x1 = 5
  · replace hf := op_t c12 hf
    refine sw_in (v := 5) (tgt := 97) hx hb dX5_count_1 c12 (by decide) (by decide) rfl (by decide) ?_
    refine lv_aload_n hx hb dX5_count_97 rfl (lv_at hl 0 rfl) ?_
    refine lv_iconst (v := 4) hx hb dX5_count_98 (by decide) ?_
    obtain ⟨r13, h14, hf⟩ := op_b hf
    refine ck_VI (st := [.int 4, .ref h]) (rest := []) (As := [.int 4]) (C := RX5) (ci := 5) ⟨hx, hb, hml, hown, hts⟩ E0_ok (c_X5_many l D cI cC cK cO h a1 a2 a3 a4 zs zb za zt zl zu zp zw zf zg zc 4 K _ h14) (cwV 1 hts gX5_count_X5_many rfl rfl rfl hv_X5_many ⟨Nat.le_of_ble_eq_true rfl, Nat.le_of_ble_eq_true rfl⟩) hK hP hD hS hA hE [0, 1, 2, 3, 4] rfl rfl rfl rfl rfl (fun _ => rfl) rfl hl.1 rfl (Nat.le_of_ble_eq_true rfl) dX5_count_99 ⟨Nat.zero_le _, Nat.zero_le _⟩ (fun r u H locs hw hP hD hS => ?_)
    cases hw
    replace hP : va_P D vwCl (wM cI h a1 a2 a3 a4 zs zb za zt zl zu zp zw zf zg zc) H := hP
    replace hD : va_D A (wM cI h a1 a2 a3 a4 zs zb za zt zl zu zp zw zf zg zc) := hD
    exact hret _ _ _ _ _ () dX5_count_102 (op_k hf) hP hS
  replace hf := op_f c12 hf
  by_cases c16 : x1 = 6
  · replace hf := op_t c16 hf
    refine sw_in (v := 6) (tgt := 103) hx hb dX5_count_1 c16 (by decide) (by decide) rfl (by decide) ?_
    refine lv_aload_n hx hb dX5_count_103 rfl (lv_at hl 0 rfl) ?_
    refine lv_iconst (v := 0) hx hb dX5_count_104 (by decide) ?_
    obtain ⟨r17, h18, hf⟩ := op_b hf
    refine ck_VI (st := [.int 0, .ref h]) (rest := []) (As := [.int 0]) (C := RX5) (ci := 5) ⟨hx, hb, hml, hown, hts⟩ E0_ok (c_X5_lowest l D cI cC cK cO h a1 a2 a3 a4 zs zb za zt zl zu zp zw zf zg zc 0 K _ h18) (cwV 1 hts gX5_count_X5_lowest rfl rfl rfl hv_X5_lowest ⟨Nat.le_of_ble_eq_true rfl, Nat.le_of_ble_eq_true rfl⟩) hK hP hD hS hA hE [0, 1, 2, 3, 4] rfl rfl rfl rfl rfl (fun _ => rfl) rfl hl.1 rfl (Nat.le_of_ble_eq_true rfl) dX5_count_105 ⟨Nat.zero_le _, Nat.zero_le _⟩ (fun r u H locs hw hP hD hS => ?_)
    cases hw
    replace hP : va_P D vwCl (wM cI h a1 a2 a3 a4 zs zb za zt zl zu zp zw zf zg zc) H := hP
    replace hD : va_D A (wM cI h a1 a2 a3 a4 zs zb za zt zl zu zp zw zf zg zc) := hD
    exact hret _ _ _ _ _ () dX5_count_108 (op_k hf) hP hS
  replace hf := op_f c16 hf
  by_cases c20 : x1 = 7
  · replace hf := op_t c20 hf
    refine sw_in (v := 7) (tgt := 109) hx hb dX5_count_1 c20 (by decide) (by decide) rfl (by decide) ?_
    refine lv_aload_n hx hb dX5_count_109 rfl (lv_at hl 0 rfl) ?_
    obtain ⟨r21, h22, hf⟩ := op_b hf
    refine ck_VI (st := [.ref h]) (rest := []) (As := []) (C := RX5) (ci := 5) ⟨hx, hb, hml, hown, hts⟩ E0_ok (c_X5_lateMany l D cI cC cK cO h a1 a2 a3 a4 zs zb za zt zl zu zp zw zf zg zc  K _ h22) (cwV 0 hts gX5_count_X5_lateMany rfl rfl rfl hv_X5_lateMany ⟨Nat.le_of_ble_eq_true rfl, Nat.le_of_ble_eq_true rfl⟩) hK hP hD hS hA hE [0, 1, 2, 3, 4] rfl rfl rfl rfl rfl (fun _ => rfl) rfl hl.1 rfl (Nat.le_of_ble_eq_true rfl) dX5_count_110 ⟨Nat.zero_le _, Nat.zero_le _⟩ (fun r u H locs hw hP hD hS => ?_)
    cases hw
    replace hP : va_P D vwCl (wM cI h a1 a2 a3 a4 zs zb za zt zl zu zp zw zf zg zc) H := hP
    replace hD : va_D A (wM cI h a1 a2 a3 a4 zs zb za zt zl zu zp zw zf zg zc) := hD
    exact hret _ _ _ _ _ () dX5_count_113 (op_k hf) hP hS
  replace hf := op_f c20 hf
  by_cases c24 : x1 = 8
  · replace hf := op_t c24 hf
    refine sw_in (v := 8) (tgt := 114) hx hb dX5_count_1 c24 (by decide) (by decide) rfl (by decide) ?_
    refine lv_aload_n hx hb dX5_count_114 rfl (lv_at hl 0 rfl) ?_
    obtain ⟨r25, h26, hf⟩ := op_b hf
    refine ck_VI (st := [.ref h]) (rest := []) (As := []) (C := RX5) (ci := 5) ⟨hx, hb, hml, hown, hts⟩ E0_ok (c_X5_whole l D cI cC cK cO h a1 a2 a3 a4 zs zb za zt zl zu zp zw zf zg zc  K _ h26) (cwV 0 hts gX5_count_X5_whole rfl rfl rfl hv_X5_whole ⟨Nat.le_of_ble_eq_true rfl, Nat.le_of_ble_eq_true rfl⟩) hK hP hD hS hA hE [0, 1, 2, 3, 4] rfl rfl rfl rfl rfl (fun _ => rfl) rfl hl.1 rfl (Nat.le_of_ble_eq_true rfl) dX5_count_115 ⟨Nat.zero_le _, Nat.zero_le _⟩ (fun r u H locs hw hP hD hS => ?_)
    cases hw
    replace hP : va_P D vwCl (wM cI h a1 a2 a3 a4 zs zb za zt zl zu zp zw zf zg zc) H := hP
    replace hD : va_D A (wM cI h a1 a2 a3 a4 zs zb za zt zl zu zp zw zf zg zc) := hD
    exact hret _ _ _ _ _ () dX5_count_118 (op_k hf) hP hS
  replace hf := op_f c24 hf
  by_cases c28 : x1 = 9
  · replace hf := op_t c28 hf
    refine sw_in (v := 9) (tgt := 119) hx hb dX5_count_1 c28 (by decide) (by decide) rfl (by decide) ?_
    refine lv_aload_n hx hb dX5_count_119 rfl (lv_at hl 0 rfl) ?_
    obtain ⟨r29, h30, hf⟩ := op_b hf
    refine ck_VI (st := [.ref h]) (rest := []) (As := []) (C := RX5) (ci := 5) ⟨hx, hb, hml, hown, hts⟩ E0_ok (c_X5_rows l D cI cC cK cO h a1 a2 a3 a4 zs zb za zt zl zu zp zw zf zg zc  K _ h30) (cwV 0 hts gX5_count_X5_rows rfl rfl rfl hv_X5_rows ⟨Nat.le_of_ble_eq_true rfl, Nat.le_of_ble_eq_true rfl⟩) hK hP hD hS hA hE [0, 1, 2, 3, 4] rfl rfl rfl rfl rfl (fun _ => rfl) rfl hl.1 rfl (Nat.le_of_ble_eq_true rfl) dX5_count_120 ⟨Nat.zero_le _, Nat.zero_le _⟩ (fun r u H locs hw hP hD hS => ?_)
    cases hw
    replace hP : va_P D vwCl (wM cI h a1 a2 a3 a4 zs zb za zt zl zu zp zw zf zg zc) H := hP
    replace hD : va_D A (wM cI h a1 a2 a3 a4 zs zb za zt zl zu zp zw zf zg zc) := hD
    exact hret _ _ _ _ _ () dX5_count_123 (op_k hf) hP hS
  replace hf := op_f c28 hf
  by_cases c32 : x1 = 10
  · replace hf := op_t c32 hf
    refine sw_in (v := 10) (tgt := 124) hx hb dX5_count_1 c32 (by decide) (by decide) rfl (by decide) ?_
    refine lv_aload_n hx hb dX5_count_124 rfl (lv_at hl 0 rfl) ?_
    refine va_get (D := D) (ci := 5) (v := .int zu) (C := RX5) (T := TX5) (N := 11) hx hb hts iX5 hown hK hP 0 rfl rfl 5 (by decide) w26 (fun _ h9 => h9) rfl dX5_count_125 ?_
    exact hret _ _ _ _ _ () dX5_count_128 (op_k hf) hP hS
  replace hf := op_f c32 hf
  by_cases c33 : x1 = 11
  · replace hf := op_t c33 hf
    refine sw_in (v := 11) (tgt := 129) hx hb dX5_count_1 c33 (by decide) (by decide) rfl (by decide) ?_
    refine lv_aload_n hx hb dX5_count_129 rfl (lv_at hl 0 rfl) ?_
    refine va_get (D := D) (ci := 5) (v := .int zl) (C := RX5) (T := TX5) (N := 11) hx hb hts iX5 hown hK hP 0 rfl rfl 4 (by decide) w115 (fun _ h9 => h9) rfl dX5_count_130 ?_
    exact hret _ _ _ _ _ () dX5_count_133 (op_k hf) hP hS
  replace hf := op_f c33 hf
  refine lv_tableOut (tgt := 134) hx hb dX5_count_1 (sw_o_0_12 c1 c2 c3 c4 c8 c12 c16 c20 c24 c28 c32 c33) (by decide) ?_
  refine lv_iload_n hx hb dX5_count_134 rfl (lv_at hl 1 rfl) ?_
  refine lv_bipush (v := 20) hx hb dX5_count_135 (by decide) ?_
  refine lv_bipush (v := 22) hx hb dX5_count_137 (by decide) ?_
  refine ck_SI (st := [.int 22, .int 20, .int x1]) (rest := []) (As := [.int x1, .int 20, .int 22]) ⟨hx, hb, hml, hown, hts⟩ E0_ok (c_X5_in l D cI cC cK cO  x1 20 22 _ rfl) (va_cwS 3 hts gX5_count_X5_in rfl rfl rfl hs_X5_in ⟨Nat.le_of_ble_eq_true rfl, Nat.le_of_ble_eq_true rfl⟩) hK hP hD hS hA hE rfl hl.1 rfl (Nat.le_of_ble_eq_true rfl) dX5_count_139 ⟨Nat.zero_le _, Nat.zero_le _⟩ (fun r H locs hw hP hS => ?_)
  obtain ⟨hw, z35⟩ := hw
  cases hw
  refine lv_if_eq (tgt := 157) hx hb dX5_count_142 (by decide) (fun c36 => ?_) (fun c36 => ?_)
  · replace hf := op_t c36 hf
    refine lv_iconst (v := (-1)) hx hb dX5_count_157 (by decide) ?_
    exact hret _ _ _ _ _ () dX5_count_158 (op_k hf) hP hS
  · replace hf := op_f c36 hf
    refine lv_aload_n hx hb dX5_count_145 rfl (lv_at hl 0 rfl) ?_
    refine va_get (D := D) (ci := 5) (v := .ref a1) (C := RX5) (T := TX5) (N := 11) hx hb hts iX5 hown hK hP 0 rfl rfl 0 (by decide) w7 (fun _ h9 => h9) rfl dX5_count_146 ?_
    refine lv_iload_n hx hb dX5_count_149 rfl (lv_at hl 1 rfl) ?_
    refine lv_bipush (v := 20) hx hb dX5_count_150 (by decide) ?_
    refine lv_isub hx hb dX5_count_152 ?_
    obtain ⟨q37, hf⟩ := op_x hf
    refine ck_iald (j := (x1 - 20).toNatClampNeg) hx hb hK hP 1 0 rfl rfl q37 rfl dX5_count_153 ?_
    refine lv_goto (tgt := 158) hx hb dX5_count_154 (by decide) ?_
    exact hret _ _ _ _ _ () dX5_count_158 (op_k hf) hP hS
set_option maxHeartbeats 4000000 in
set_option maxRecDepth 100000 in
theorem c_X5_next (l : Launch) (D : va_G) (cI cC cK cO : ClassId) (h : Nat) (a1 : Nat) (a2 : Nat) (a3 : Nat) (a4 : Nat) (zs : Nat → Int32) (zb : Nat → Int32) (za : Nat → Int32) (zt : Nat → Int32) (zl : Int32) (zu : Int32) (zp : Int32) (zw : Int32) (zf : Int32) (zg : Int32) (zc : Int32) (x1 : Int32) (K : Nat) (R : Int32) (hf : f_X5_next K zs x1 = some R) : KI l D (TY cI cC cK cO) E0 yX5_next wsX5_next 3 [.ref h, .int x1] (wM cI h a1 a2 a3 a4 zs zb za zt zl zu zp zw zf zg zc) (fun (r : Int32) (u : Unit) => r = R) (fun u => (wM cI h a1 a2 a3 a4 zs zb za zt zl zu zp zw zf zg zc)) := by
  refine KI.ofI (cc := cX5_next) (maxL := 3) (C := RX5) (by decide) rfl rfl (Nat.le_of_ble_eq_true rfl) ?_
  intro p e s m args below meth c A Q hx hb hml hts hown hP hK hD hA hE hS hret ls hl
  replace hl : lv_has ls 3 [(0, .ref h), (1, .int x1)] := hl
  have w7 := hts (.fieldLink RX5 7 "BlockClerksModel" "s" "[I") (by decide +kernel)
  have iX5 : ∀ w ∈ wsX50, w ∈ wsX5_next := by decide +kernel
  rw [f_X5_next] at hf
  refine lv_aload_n hx hb dX5_next_0 rfl (lv_at hl 0 rfl) ?_
  refine lv_iload_n hx hb dX5_next_1 rfl (lv_at hl 1 rfl) ?_
  refine ck_VI (st := [.int x1, .ref h]) (rest := []) (As := [.int x1]) (C := RX5) (ci := 5) ⟨hx, hb, hml, hown, hts⟩ E0_ok (c_X5_isClerk l D cI cC cK cO h a1 a2 a3 a4 zs zb za zt zl zu zp zw zf zg zc x1 _ rfl) (cwV 1 hts gX5_next_X5_isClerk rfl rfl rfl hv_X5_isClerk ⟨Nat.le_of_ble_eq_true rfl, Nat.le_of_ble_eq_true rfl⟩) hK hP hD hS hA hE [0, 1, 2, 3, 4] rfl rfl rfl rfl rfl (fun _ => rfl) rfl hl.1 rfl (Nat.le_of_ble_eq_true rfl) dX5_next_2 ⟨Nat.zero_le _, Nat.zero_le _⟩ (fun r u H locs hw hP hD hS => ?_)
  obtain ⟨hw, z2⟩ := hw
  cases hw
  replace hP : va_P D vwCl (wM cI h a1 a2 a3 a4 zs zb za zt zl zu zp zw zf zg zc) H := hP
  replace hD : va_D A (wM cI h a1 a2 a3 a4 zs zb za zt zl zu zp zw zf zg zc) := hD
  refine lv_if_ne (tgt := 10) hx hb dX5_next_5 (by decide) (fun c3 => ?_) (fun c3 => ?_)
  · replace hf := op_f c3 hf
    refine lv_aload_n hx hb dX5_next_10 rfl (lv_at hl 0 rfl) ?_
    refine lv_iload_n hx hb dX5_next_11 rfl (lv_at hl 1 rfl) ?_
    obtain ⟨r4, h5, hf⟩ := op_b hf
    refine ck_VI (st := [.int x1, .ref h]) (rest := []) (As := [.int x1]) (C := RX5) (ci := 5) ⟨hx, hb, hml, hown, hts⟩ E0_ok (c_X5_holds l D cI cC cK cO h a1 a2 a3 a4 zs zb za zt zl zu zp zw zf zg zc x1 _ h5) (cwV 1 hts gX5_next_X5_holds rfl rfl rfl hv_X5_holds ⟨Nat.le_of_ble_eq_true rfl, Nat.le_of_ble_eq_true rfl⟩) hK hP hD hS hA hE [0, 1, 2, 3, 4] rfl rfl rfl rfl rfl (fun _ => rfl) rfl hl.1 rfl (Nat.le_of_ble_eq_true rfl) dX5_next_12 ⟨Nat.zero_le _, Nat.zero_le _⟩ (fun r u H locs hw hP hD hS => ?_)
    cases hw
    replace hP : va_P D vwCl (wM cI h a1 a2 a3 a4 zs zb za zt zl zu zp zw zf zg zc) H := hP
    replace hD : va_D A (wM cI h a1 a2 a3 a4 zs zb za zt zl zu zp zw zf zg zc) := hD
    refine lv_if_le (tgt := 32) hx hb dX5_next_15 (by decide) (fun c7 => ?_) (fun c7 => ?_)
    · replace hf := op_t c7 hf
      refine lv_aload_n hx hb dX5_next_32 rfl (lv_at hl 0 rfl) ?_
      obtain ⟨r8, h9, hf⟩ := op_b hf
      refine ck_VI (st := [.ref h]) (rest := []) (As := []) (C := RX5) (ci := 5) ⟨hx, hb, hml, hown, hts⟩ E0_ok (c_X5_blockFrom l D cI cC cK cO h a1 a2 a3 a4 zs zb za zt zl zu zp zw zf zg zc  K _ h9) (cwV 0 hts gX5_next_X5_blockFrom rfl rfl rfl hv_X5_blockFrom ⟨Nat.le_of_ble_eq_true rfl, Nat.le_of_ble_eq_true rfl⟩) hK hP hD hS hA hE [0, 1, 2, 3, 4] rfl rfl rfl rfl rfl (fun _ => rfl) rfl hl.1 rfl (Nat.le_of_ble_eq_true rfl) dX5_next_33 ⟨Nat.zero_le _, Nat.zero_le _⟩ (fun r u H locs hw hP hD hS => ?_)
      cases hw
      replace hP : va_P D vwCl (wM cI h a1 a2 a3 a4 zs zb za zt zl zu zp zw zf zg zc) H := hP
      replace hD : va_D A (wM cI h a1 a2 a3 a4 zs zb za zt zl zu zp zw zf zg zc) := hD
      refine lv_istore_n (lv' := [(2, .int r8), (0, .ref h), (1, .int x1)]) hx hb dX5_next_36 rfl hl (by decide) rfl (fun ls hl => ?_)
      refine lv_iload_n hx hb dX5_next_37 rfl (lv_at hl 0 rfl) ?_
      refine lv_sipush (v := 600) hx hb dX5_next_38 (by decide) ?_
      refine lv_icmp_le (tgt := 49) hx hb dX5_next_41 (by decide) (fun c11 => ?_) (fun c11 => ?_)
      · replace hf := op_t c11 hf
        refine lv_iload_n hx hb dX5_next_49 rfl (lv_at hl 0 rfl) ?_
        exact hret _ _ _ _ _ () dX5_next_50 (op_k hf) hP hS
      · replace hf := op_f c11 hf
        refine lv_bipush (v := (-3)) hx hb dX5_next_44 (by decide) ?_
        refine lv_goto (tgt := 50) hx hb dX5_next_46 (by decide) ?_
        exact hret _ _ _ _ _ () dX5_next_50 (op_k hf) hP hS
    · replace hf := op_f c7 hf
      refine lv_aload_n hx hb dX5_next_18 rfl (lv_at hl 0 rfl) ?_
      refine va_get (D := D) (ci := 5) (v := .ref a1) (C := RX5) (T := TX5) (N := 11) hx hb hts iX5 hown hK hP 0 rfl rfl 0 (by decide) w7 (fun _ h9 => h9) rfl dX5_next_19 ?_
      refine lv_iload_n hx hb dX5_next_22 rfl (lv_at hl 1 rfl) ?_
      refine ck_SI (st := [.int x1, .ref a1]) (rest := [.ref a1]) (As := [.int x1]) ⟨hx, hb, hml, hown, hts⟩ E0_ok (c_X5_c l D cI cC cK cO  x1 _ rfl) (va_cwS 1 hts gX5_next_X5_c rfl rfl rfl hs_X5_c ⟨Nat.le_of_ble_eq_true rfl, Nat.le_of_ble_eq_true rfl⟩) hK hP hD hS hA hE rfl hl.1 rfl (Nat.le_of_ble_eq_true rfl) dX5_next_23 ⟨Nat.zero_le _, Nat.zero_le _⟩ (fun r H locs hw hP hS => ?_)
      cases hw
      refine lv_iconst (v := 1) hx hb dX5_next_26 (by decide) ?_
      refine lv_iadd hx hb dX5_next_27 ?_
      obtain ⟨q14, hf⟩ := op_x hf
      refine ck_iald (j := ((f_X5_c x1) + 1).toNatClampNeg) hx hb hK hP 1 0 rfl rfl q14 rfl dX5_next_28 ?_
      refine lv_goto (tgt := 36) hx hb dX5_next_29 (by decide) ?_
      refine lv_istore_n (lv' := [(2, .int (zs ((f_X5_c x1) + 1).toNatClampNeg)), (0, .ref h), (1, .int x1)]) hx hb dX5_next_36 rfl hl (by decide) rfl (fun ls hl => ?_)
      refine lv_iload_n hx hb dX5_next_37 rfl (lv_at hl 0 rfl) ?_
      refine lv_sipush (v := 600) hx hb dX5_next_38 (by decide) ?_
      refine lv_icmp_le (tgt := 49) hx hb dX5_next_41 (by decide) (fun c15 => ?_) (fun c15 => ?_)
      · replace hf := op_t c15 hf
        refine lv_iload_n hx hb dX5_next_49 rfl (lv_at hl 0 rfl) ?_
        exact hret _ _ _ _ _ () dX5_next_50 (op_k hf) hP hS
      · replace hf := op_f c15 hf
        refine lv_bipush (v := (-3)) hx hb dX5_next_44 (by decide) ?_
        refine lv_goto (tgt := 50) hx hb dX5_next_46 (by decide) ?_
        exact hret _ _ _ _ _ () dX5_next_50 (op_k hf) hP hS
  · replace hf := op_t c3 hf
    refine lv_iconst (v := (-1)) hx hb dX5_next_8 (by decide) ?_
    exact hret _ _ _ _ _ () dX5_next_9 (op_k hf) hP hS
set_option maxHeartbeats 4000000 in
set_option maxRecDepth 100000 in
theorem c_X5_cost (l : Launch) (D : va_G) (cI cC cK cO : ClassId) (h : Nat) (a1 : Nat) (a2 : Nat) (a3 : Nat) (a4 : Nat) (zs : Nat → Int32) (zb : Nat → Int32) (za : Nat → Int32) (zt : Nat → Int32) (zl : Int32) (zu : Int32) (zp : Int32) (zw : Int32) (zf : Int32) (zg : Int32) (zc : Int32) (x1 : Int32) (x2 : Int32) (K : Nat) (R : Int32 × (Nat → Int32) × (Nat → Int32)) (hf : f_X5_cost K zs za x1 x2 = some R) : KI l D (TY cI cC cK cO) E0 yX5_cost wsX5_cost 6 [.ref h, .int x1, .int x2] (wM cI h a1 a2 a3 a4 zs zb za zt zl zu zp zw zf zg zc) (fun (r : Int32) (u : (Nat → Int32) × (Nat → Int32)) => (r, u) = R) (fun u => (wM cI h a1 a2 a3 a4 (u.1) zb (u.2) zt zl zu zp zw zf zg zc)) := by
  refine KI.ofI (cc := cX5_cost) (maxL := 4) (C := RX5) (by decide) rfl rfl (Nat.le_of_ble_eq_true rfl) ?_
  intro p e s m args below meth c A Q hx hb hml hts hown hP hK hD hA hE hS hret ls hl
  replace hl : lv_has ls 4 [(0, .ref h), (1, .int x1), (2, .int x2)] := hl
  rw [f_X5_cost] at hf
  refine lv_aload_n hx hb dX5_cost_0 rfl (lv_at hl 0 rfl) ?_
  refine lv_iload_n hx hb dX5_cost_1 rfl (lv_at hl 1 rfl) ?_
  refine ck_VI (st := [.int x1, .ref h]) (rest := []) (As := [.int x1]) (C := RX5) (ci := 5) ⟨hx, hb, hml, hown, hts⟩ E0_ok (c_X5_isClerk l D cI cC cK cO h a1 a2 a3 a4 zs zb za zt zl zu zp zw zf zg zc x1 _ rfl) (cwV 1 hts gX5_cost_X5_isClerk rfl rfl rfl hv_X5_isClerk ⟨Nat.le_of_ble_eq_true rfl, Nat.le_of_ble_eq_true rfl⟩) hK hP hD hS hA hE [0, 1, 2, 3, 4] rfl rfl rfl rfl rfl (fun _ => rfl) rfl hl.1 rfl (Nat.le_of_ble_eq_true rfl) dX5_cost_2 ⟨Nat.zero_le _, Nat.zero_le _⟩ (fun r u H locs hw hP hD hS => ?_)
  obtain ⟨hw, z2⟩ := hw
  cases hw
  replace hP : va_P D vwCl (wM cI h a1 a2 a3 a4 zs zb za zt zl zu zp zw zf zg zc) H := hP
  replace hD : va_D A (wM cI h a1 a2 a3 a4 zs zb za zt zl zu zp zw zf zg zc) := hD
  refine lv_if_eq (tgt := 18) hx hb dX5_cost_5 (by decide) (fun c3 => ?_) (fun c3 => ?_)
  · replace hf := op_t c3 hf
    refine lv_iconst (v := (-1)) hx hb dX5_cost_18 (by decide) ?_
    exact hret _ _ _ _ _ (zs, za) dX5_cost_19 (op_k hf) hP hS
  · replace hf := op_f c3 hf
    refine lv_iload_n hx hb dX5_cost_8 rfl (lv_at hl 2 rfl) ?_
    refine lv_iconst (v := 0) hx hb dX5_cost_9 (by decide) ?_
    refine lv_bipush (v := 50) hx hb dX5_cost_10 (by decide) ?_
    refine ck_SI (st := [.int 50, .int 0, .int x2]) (rest := []) (As := [.int x2, .int 0, .int 50]) ⟨hx, hb, hml, hown, hts⟩ E0_ok (c_X5_in l D cI cC cK cO  x2 0 50 _ rfl) (va_cwS 3 hts gX5_cost_X5_in rfl rfl rfl hs_X5_in ⟨Nat.le_of_ble_eq_true rfl, Nat.le_of_ble_eq_true rfl⟩) hK hP hD hS hA hE rfl hl.1 rfl (Nat.le_of_ble_eq_true rfl) dX5_cost_12 ⟨Nat.zero_le _, Nat.zero_le _⟩ (fun r H locs hw hP hS => ?_)
    obtain ⟨hw, z5⟩ := hw
    cases hw
    refine lv_if_ne (tgt := 20) hx hb dX5_cost_15 (by decide) (fun c6 => ?_) (fun c6 => ?_)
    · replace hf := op_f c6 hf
      refine lv_aload_n hx hb dX5_cost_20 rfl (lv_at hl 0 rfl) ?_
      refine lv_iload_n hx hb dX5_cost_21 rfl (lv_at hl 1 rfl) ?_
      refine lv_iload_n hx hb dX5_cost_22 rfl (lv_at hl 2 rfl) ?_
      obtain ⟨r7, h8, hf⟩ := op_b hf
      refine ck_VI (st := [.int x2, .int x1, .ref h]) (rest := []) (As := [.int x1, .int x2]) (C := RX5) (ci := 5) ⟨hx, hb, hml, hown, hts⟩ E0_ok (c_X5_canAsk l D cI cC cK cO h a1 a2 a3 a4 zs zb za zt zl zu zp zw zf zg zc x1 x2 K _ h8) (cwV 2 hts gX5_cost_X5_canAsk rfl rfl rfl hv_X5_canAsk ⟨Nat.le_of_ble_eq_true rfl, Nat.le_of_ble_eq_true rfl⟩) hK hP hD hS hA hE [0, 1, 2, 3, 4] rfl rfl rfl rfl rfl (fun _ => rfl) rfl hl.1 rfl (Nat.le_of_ble_eq_true rfl) dX5_cost_23 ⟨Nat.zero_le _, Nat.zero_le _⟩ (fun r u H locs hw hP hD hS => ?_)
      obtain ⟨hw, z9⟩ := hw
      cases hw
      replace hP : va_P D vwCl (wM cI h a1 a2 a3 a4 zs zb za zt zl zu zp zw zf zg zc) H := hP
      replace hD : va_D A (wM cI h a1 a2 a3 a4 zs zb za zt zl zu zp zw zf zg zc) := hD
      refine lv_if_ne (tgt := 32) hx hb dX5_cost_26 (by decide) (fun c10 => ?_) (fun c10 => ?_)
      · replace hf := op_f c10 hf
        refine lv_aload_n hx hb dX5_cost_32 rfl (lv_at hl 0 rfl) ?_
        obtain ⟨y12, h13, hf⟩ := op_b hf
        refine ck_VV (st := [.ref h]) (rest := []) (As := []) (C := RX5) (ci := 5) ⟨hx, hb, hml, hown, hts⟩ E0_ok (c_X5_layAside l D cI cC cK cO h a1 a2 a3 a4 zs zb za zt zl zu zp zw zf zg zc  K _ h13) (cwV 0 hts gX5_cost_X5_layAside rfl rfl rfl hv_X5_layAside ⟨Nat.le_of_ble_eq_true rfl, Nat.le_of_ble_eq_true rfl⟩) hK hP hD hS hA hE [0, 1, 2, 3, 4] rfl rfl rfl rfl rfl (fun _ => rfl) rfl hl.1 rfl (Nat.le_of_ble_eq_true rfl) dX5_cost_33 ⟨Nat.zero_le _, Nat.zero_le _⟩ (fun u H locs hw hP hD hS => ?_)
        cases hw
        replace hP : va_P D vwCl (wM cI h a1 a2 a3 a4 zs zb y12 zt zl zu zp zw zf zg zc) H := hP
        replace hD : va_D A (wM cI h a1 a2 a3 a4 zs zb y12 zt zl zu zp zw zf zg zc) := hD
        refine lv_aload_n hx hb dX5_cost_36 rfl (lv_at hl 0 rfl) ?_
        refine lv_iload_n hx hb dX5_cost_37 rfl (lv_at hl 1 rfl) ?_
        refine lv_iload_n hx hb dX5_cost_38 rfl (lv_at hl 2 rfl) ?_
        obtain ⟨⟨r15, y16⟩, h17, hf⟩ := op_b hf
        refine ck_VI (st := [.int x2, .int x1, .ref h]) (rest := []) (As := [.int x1, .int x2]) (C := RX5) (ci := 5) ⟨hx, hb, hml, hown, hts⟩ E0_ok (c_X5_goAsk l D cI cC cK cO h a1 a2 a3 a4 zs zb y12 zt zl zu zp zw zf zg zc x1 x2 K _ h17) (cwV 2 hts gX5_cost_X5_goAsk rfl rfl rfl hv_X5_goAsk ⟨Nat.le_of_ble_eq_true rfl, Nat.le_of_ble_eq_true rfl⟩) hK hP hD hS hA hE [0, 1, 2, 3, 4] rfl rfl rfl rfl rfl (fun _ => rfl) rfl hl.1 rfl (Nat.le_of_ble_eq_true rfl) dX5_cost_39 ⟨Nat.zero_le _, Nat.zero_le _⟩ (fun r u H locs hw hP hD hS => ?_)
        cases hw
        replace hP : va_P D vwCl (wM cI h a1 a2 a3 a4 y16 zb y12 zt zl zu zp zw zf zg zc) H := hP
        replace hD : va_D A (wM cI h a1 a2 a3 a4 y16 zb y12 zt zl zu zp zw zf zg zc) := hD
        refine lv_pop hx hb dX5_cost_42 rfl ?_
        refine lv_aload_n hx hb dX5_cost_43 rfl (lv_at hl 0 rfl) ?_
        refine lv_iload_n hx hb dX5_cost_44 rfl (lv_at hl 1 rfl) ?_
        obtain ⟨⟨r19, y20⟩, h21, hf⟩ := op_b hf
        refine ck_VI (st := [.int x1, .ref h]) (rest := []) (As := [.int x1]) (C := RX5) (ci := 5) ⟨hx, hb, hml, hown, hts⟩ E0_ok (c_X5_goForget l D cI cC cK cO h a1 a2 a3 a4 y16 zb y12 zt zl zu zp zw zf zg zc x1 K _ h21) (cwV 1 hts gX5_cost_X5_goForget rfl rfl rfl hv_X5_goForget ⟨Nat.le_of_ble_eq_true rfl, Nat.le_of_ble_eq_true rfl⟩) hK hP hD hS hA hE [0, 1, 2, 3, 4] rfl rfl rfl rfl rfl (fun _ => rfl) rfl hl.1 rfl (Nat.le_of_ble_eq_true rfl) dX5_cost_45 ⟨Nat.zero_le _, Nat.zero_le _⟩ (fun r u H locs hw hP hD hS => ?_)
        cases hw
        replace hP : va_P D vwCl (wM cI h a1 a2 a3 a4 y20 zb y12 zt zl zu zp zw zf zg zc) H := hP
        replace hD : va_D A (wM cI h a1 a2 a3 a4 y20 zb y12 zt zl zu zp zw zf zg zc) := hD
        refine lv_istore_n (lv' := [(3, .int r19), (0, .ref h), (1, .int x1), (2, .int x2)]) hx hb dX5_cost_48 rfl hl (by decide) rfl (fun ls hl => ?_)
        refine lv_aload_n hx hb dX5_cost_49 rfl (lv_at hl 1 rfl) ?_
        obtain ⟨y24, h25, hf⟩ := op_b hf
        refine ck_VV (st := [.ref h]) (rest := []) (As := []) (C := RX5) (ci := 5) ⟨hx, hb, hml, hown, hts⟩ E0_ok (c_X5_layBack l D cI cC cK cO h a1 a2 a3 a4 y20 zb y12 zt zl zu zp zw zf zg zc  K _ h25) (cwV 0 hts gX5_cost_X5_layBack rfl rfl rfl hv_X5_layBack ⟨Nat.le_of_ble_eq_true rfl, Nat.le_of_ble_eq_true rfl⟩) hK hP hD hS hA hE [0, 1, 2, 3, 4] rfl rfl rfl rfl rfl (fun _ => rfl) rfl hl.1 rfl (Nat.le_of_ble_eq_true rfl) dX5_cost_50 ⟨Nat.zero_le _, Nat.zero_le _⟩ (fun u H locs hw hP hD hS => ?_)
        cases hw
        replace hP : va_P D vwCl (wM cI h a1 a2 a3 a4 y24 zb y12 zt zl zu zp zw zf zg zc) H := hP
        replace hD : va_D A (wM cI h a1 a2 a3 a4 y24 zb y12 zt zl zu zp zw zf zg zc) := hD
        refine lv_iload_n hx hb dX5_cost_53 rfl (lv_at hl 0 rfl) ?_
        exact hret _ _ _ _ _ (y24, y12) dX5_cost_54 (op_k hf) hP hS
      · replace hf := op_t c10 hf
        refine lv_bipush (v := (-3)) hx hb dX5_cost_29 (by decide) ?_
        exact hret _ _ _ _ _ (zs, za) dX5_cost_31 (op_k hf) hP hS
    · replace hf := op_t c6 hf
      refine lv_iconst (v := (-1)) hx hb dX5_cost_18 (by decide) ?_
      exact hret _ _ _ _ _ (zs, za) dX5_cost_19 (op_k hf) hP hS
set_option maxHeartbeats 4000000 in
set_option maxRecDepth 100000 in
theorem c_X5_forgets (l : Launch) (D : va_G) (cI cC cK cO : ClassId) (h : Nat) (a1 : Nat) (a2 : Nat) (a3 : Nat) (a4 : Nat) (zs : Nat → Int32) (zb : Nat → Int32) (za : Nat → Int32) (zt : Nat → Int32) (zl : Int32) (zu : Int32) (zp : Int32) (zw : Int32) (zf : Int32) (zg : Int32) (zc : Int32) (x1 : Int32) (R : Int32) (hf : f_X5_forgets zs x1 = some R) : KI l D (TY cI cC cK cO) E0 yX5_forgets wsX5_forgets 2 [.ref h, .int x1] (wM cI h a1 a2 a3 a4 zs zb za zt zl zu zp zw zf zg zc) (fun (r : Int32) (u : Unit) => r = R) (fun u => (wM cI h a1 a2 a3 a4 zs zb za zt zl zu zp zw zf zg zc)) := by
  refine KI.ofI (cc := cX5_forgets) (maxL := 4) (C := RX5) (by decide) rfl rfl (Nat.le_of_ble_eq_true rfl) ?_
  intro p e s m args below meth c A Q hx hb hml hts hown hP hK hD hA hE hS hret ls hl
  replace hl : lv_has ls 4 [(0, .ref h), (1, .int x1)] := hl
  have w7 := hts (.fieldLink RX5 7 "BlockClerksModel" "s" "[I") (by decide +kernel)
  have iX5 : ∀ w ∈ wsX50, w ∈ wsX5_forgets := by decide +kernel
  rw [f_X5_forgets] at hf
  refine lv_iload_n hx hb dX5_forgets_0 rfl (lv_at hl 1 rfl) ?_
  refine ck_SI (st := [.int x1]) (rest := []) (As := [.int x1]) ⟨hx, hb, hml, hown, hts⟩ E0_ok (c_X5_c l D cI cC cK cO  x1 _ rfl) (va_cwS 1 hts gX5_forgets_X5_c rfl rfl rfl hs_X5_c ⟨Nat.le_of_ble_eq_true rfl, Nat.le_of_ble_eq_true rfl⟩) hK hP hD hS hA hE rfl hl.1 rfl (Nat.le_of_ble_eq_true rfl) dX5_forgets_1 ⟨Nat.zero_le _, Nat.zero_le _⟩ (fun r H locs hw hP hS => ?_)
  cases hw
  refine lv_istore_n (lv' := [(2, .int (f_X5_c x1)), (0, .ref h), (1, .int x1)]) hx hb dX5_forgets_4 rfl hl (by decide) rfl (fun ls hl => ?_)
  refine lv_aload_n hx hb dX5_forgets_5 rfl (lv_at hl 1 rfl) ?_
  refine va_get (D := D) (ci := 5) (v := .ref a1) (C := RX5) (T := TX5) (N := 11) hx hb hts iX5 hown hK hP 0 rfl rfl 0 (by decide) w7 (fun _ h9 => h9) rfl dX5_forgets_6 ?_
  refine lv_iload_n hx hb dX5_forgets_9 rfl (lv_at hl 0 rfl) ?_
  refine lv_iconst (v := 3) hx hb dX5_forgets_10 (by decide) ?_
  refine lv_iadd hx hb dX5_forgets_11 ?_
  obtain ⟨q3, hf⟩ := op_x hf
  refine ck_iald (j := ((f_X5_c x1) + 3).toNatClampNeg) hx hb hK hP 1 0 rfl rfl q3 rfl dX5_forgets_12 ?_
  refine lv_aload_n hx hb dX5_forgets_13 rfl (lv_at hl 1 rfl) ?_
  refine va_get (D := D) (ci := 5) (v := .ref a1) (C := RX5) (T := TX5) (N := 11) hx hb hts iX5 hown hK hP 0 rfl rfl 0 (by decide) w7 (fun _ h9 => h9) rfl dX5_forgets_14 ?_
  refine lv_iload_n hx hb dX5_forgets_17 rfl (lv_at hl 0 rfl) ?_
  refine lv_iconst (v := 2) hx hb dX5_forgets_18 (by decide) ?_
  refine lv_iadd hx hb dX5_forgets_19 ?_
  obtain ⟨q4, hf⟩ := op_x hf
  refine ck_iald (j := ((f_X5_c x1) + 2).toNatClampNeg) hx hb hK hP 1 0 rfl rfl q4 rfl dX5_forgets_20 ?_
  refine lv_icmp_ge (tgt := 35) hx hb dX5_forgets_21 (by decide) (fun c5 => ?_) (fun c5 => ?_)
  · replace hf := op_t c5 hf
    refine lv_aload_n hx hb dX5_forgets_35 rfl (lv_at hl 1 rfl) ?_
    refine va_get (D := D) (ci := 5) (v := .ref a1) (C := RX5) (T := TX5) (N := 11) hx hb hts iX5 hown hK hP 0 rfl rfl 0 (by decide) w7 (fun _ h9 => h9) rfl dX5_forgets_36 ?_
    refine lv_iload_n hx hb dX5_forgets_39 rfl (lv_at hl 0 rfl) ?_
    refine lv_iconst (v := 2) hx hb dX5_forgets_40 (by decide) ?_
    refine lv_iadd hx hb dX5_forgets_41 ?_
    obtain ⟨q6, hf⟩ := op_x hf
    refine ck_iald (j := ((f_X5_c x1) + 2).toNatClampNeg) hx hb hK hP 1 0 rfl rfl q6 rfl dX5_forgets_42 ?_
    refine lv_istore_n (lv' := [(3, .int (zs ((f_X5_c x1) + 2).toNatClampNeg)), (2, .int (f_X5_c x1)), (0, .ref h), (1, .int x1)]) hx hb dX5_forgets_43 rfl hl (by decide) rfl (fun ls hl => ?_)
    refine lv_aload_n hx hb dX5_forgets_44 rfl (lv_at hl 2 rfl) ?_
    refine lv_iload_n hx hb dX5_forgets_45 rfl (lv_at hl 3 rfl) ?_
    obtain ⟨r7, h8, hf⟩ := op_b hf
    refine ck_VI (st := [.int x1, .ref h]) (rest := []) (As := [.int x1]) (C := RX5) (ci := 5) ⟨hx, hb, hml, hown, hts⟩ E0_ok (c_X5_holds l D cI cC cK cO h a1 a2 a3 a4 zs zb za zt zl zu zp zw zf zg zc x1 _ h8) (cwV 1 hts gX5_forgets_X5_holds rfl rfl rfl hv_X5_holds ⟨Nat.le_of_ble_eq_true rfl, Nat.le_of_ble_eq_true rfl⟩) hK hP hD hS hA hE [0, 1, 2, 3, 4] rfl rfl rfl rfl rfl (fun _ => rfl) rfl hl.1 rfl (Nat.le_of_ble_eq_true rfl) dX5_forgets_46 ⟨Nat.zero_le _, Nat.zero_le _⟩ (fun r u H locs hw hP hD hS => ?_)
    cases hw
    replace hP : va_P D vwCl (wM cI h a1 a2 a3 a4 zs zb za zt zl zu zp zw zf zg zc) H := hP
    replace hD : va_D A (wM cI h a1 a2 a3 a4 zs zb za zt zl zu zp zw zf zg zc) := hD
    refine lv_if_eq (tgt := 64) hx hb dX5_forgets_49 (by decide) (fun c10 => ?_) (fun c10 => ?_)
    · replace hf := op_t c10 hf
      refine lv_iconst (v := 0) hx hb dX5_forgets_64 (by decide) ?_
      refine lv_goto (tgt := 80) hx hb dX5_forgets_65 (by decide) ?_
      exact hret _ _ _ _ _ () dX5_forgets_80 (op_k hf) hP hS
    · replace hf := op_f c10 hf
      refine lv_iload_n hx hb dX5_forgets_52 rfl (lv_at hl 0 rfl) ?_
      refine lv_aload_n hx hb dX5_forgets_53 rfl (lv_at hl 2 rfl) ?_
      refine va_get (D := D) (ci := 5) (v := .ref a1) (C := RX5) (T := TX5) (N := 11) hx hb hts iX5 hown hK hP 0 rfl rfl 0 (by decide) w7 (fun _ h9 => h9) rfl dX5_forgets_54 ?_
      refine lv_iload_n hx hb dX5_forgets_57 rfl (lv_at hl 1 rfl) ?_
      refine lv_iconst (v := 1) hx hb dX5_forgets_58 (by decide) ?_
      refine lv_iadd hx hb dX5_forgets_59 ?_
      obtain ⟨q11, hf⟩ := op_x hf
      refine ck_iald (j := ((f_X5_c x1) + 1).toNatClampNeg) hx hb hK hP 1 0 rfl rfl q11 rfl dX5_forgets_60 ?_
      refine lv_icmp_ge (tgt := 68) hx hb dX5_forgets_61 (by decide) (fun c12 => ?_) (fun c12 => ?_)
      · replace hf := op_t c12 hf
        refine lv_iload_n hx hb dX5_forgets_68 rfl (lv_at hl 0 rfl) ?_
        refine lv_aload_n hx hb dX5_forgets_69 rfl (lv_at hl 2 rfl) ?_
        refine va_get (D := D) (ci := 5) (v := .ref a1) (C := RX5) (T := TX5) (N := 11) hx hb hts iX5 hown hK hP 0 rfl rfl 0 (by decide) w7 (fun _ h9 => h9) rfl dX5_forgets_70 ?_
        refine lv_iload_n hx hb dX5_forgets_73 rfl (lv_at hl 1 rfl) ?_
        refine lv_iconst (v := 1) hx hb dX5_forgets_74 (by decide) ?_
        refine lv_iadd hx hb dX5_forgets_75 ?_
        obtain ⟨q13, hf⟩ := op_x hf
        refine ck_iald (j := ((f_X5_c x1) + 1).toNatClampNeg) hx hb hK hP 1 0 rfl rfl q13 rfl dX5_forgets_76 ?_
        refine lv_isub hx hb dX5_forgets_77 ?_
        refine lv_iconst (v := 1) hx hb dX5_forgets_78 (by decide) ?_
        refine lv_iadd hx hb dX5_forgets_79 ?_
        exact hret _ _ _ _ _ () dX5_forgets_80 (op_k hf) hP hS
      · replace hf := op_f c12 hf
        refine lv_iconst (v := 0) hx hb dX5_forgets_64 (by decide) ?_
        refine lv_goto (tgt := 80) hx hb dX5_forgets_65 (by decide) ?_
        exact hret _ _ _ _ _ () dX5_forgets_80 (op_k hf) hP hS
  · replace hf := op_f c5 hf
    refine lv_aload_n hx hb dX5_forgets_24 rfl (lv_at hl 1 rfl) ?_
    refine va_get (D := D) (ci := 5) (v := .ref a1) (C := RX5) (T := TX5) (N := 11) hx hb hts iX5 hown hK hP 0 rfl rfl 0 (by decide) w7 (fun _ h9 => h9) rfl dX5_forgets_25 ?_
    refine lv_iload_n hx hb dX5_forgets_28 rfl (lv_at hl 0 rfl) ?_
    refine lv_iconst (v := 3) hx hb dX5_forgets_29 (by decide) ?_
    refine lv_iadd hx hb dX5_forgets_30 ?_
    obtain ⟨q14, hf⟩ := op_x hf
    refine ck_iald (j := ((f_X5_c x1) + 3).toNatClampNeg) hx hb hK hP 1 0 rfl rfl q14 rfl dX5_forgets_31 ?_
    refine lv_goto (tgt := 43) hx hb dX5_forgets_32 (by decide) ?_
    refine lv_istore_n (lv' := [(3, .int (zs ((f_X5_c x1) + 3).toNatClampNeg)), (2, .int (f_X5_c x1)), (0, .ref h), (1, .int x1)]) hx hb dX5_forgets_43 rfl hl (by decide) rfl (fun ls hl => ?_)
    refine lv_aload_n hx hb dX5_forgets_44 rfl (lv_at hl 2 rfl) ?_
    refine lv_iload_n hx hb dX5_forgets_45 rfl (lv_at hl 3 rfl) ?_
    obtain ⟨r15, h16, hf⟩ := op_b hf
    refine ck_VI (st := [.int x1, .ref h]) (rest := []) (As := [.int x1]) (C := RX5) (ci := 5) ⟨hx, hb, hml, hown, hts⟩ E0_ok (c_X5_holds l D cI cC cK cO h a1 a2 a3 a4 zs zb za zt zl zu zp zw zf zg zc x1 _ h16) (cwV 1 hts gX5_forgets_X5_holds rfl rfl rfl hv_X5_holds ⟨Nat.le_of_ble_eq_true rfl, Nat.le_of_ble_eq_true rfl⟩) hK hP hD hS hA hE [0, 1, 2, 3, 4] rfl rfl rfl rfl rfl (fun _ => rfl) rfl hl.1 rfl (Nat.le_of_ble_eq_true rfl) dX5_forgets_46 ⟨Nat.zero_le _, Nat.zero_le _⟩ (fun r u H locs hw hP hD hS => ?_)
    cases hw
    replace hP : va_P D vwCl (wM cI h a1 a2 a3 a4 zs zb za zt zl zu zp zw zf zg zc) H := hP
    replace hD : va_D A (wM cI h a1 a2 a3 a4 zs zb za zt zl zu zp zw zf zg zc) := hD
    refine lv_if_eq (tgt := 64) hx hb dX5_forgets_49 (by decide) (fun c18 => ?_) (fun c18 => ?_)
    · replace hf := op_t c18 hf
      refine lv_iconst (v := 0) hx hb dX5_forgets_64 (by decide) ?_
      refine lv_goto (tgt := 80) hx hb dX5_forgets_65 (by decide) ?_
      exact hret _ _ _ _ _ () dX5_forgets_80 (op_k hf) hP hS
    · replace hf := op_f c18 hf
      refine lv_iload_n hx hb dX5_forgets_52 rfl (lv_at hl 0 rfl) ?_
      refine lv_aload_n hx hb dX5_forgets_53 rfl (lv_at hl 2 rfl) ?_
      refine va_get (D := D) (ci := 5) (v := .ref a1) (C := RX5) (T := TX5) (N := 11) hx hb hts iX5 hown hK hP 0 rfl rfl 0 (by decide) w7 (fun _ h9 => h9) rfl dX5_forgets_54 ?_
      refine lv_iload_n hx hb dX5_forgets_57 rfl (lv_at hl 1 rfl) ?_
      refine lv_iconst (v := 1) hx hb dX5_forgets_58 (by decide) ?_
      refine lv_iadd hx hb dX5_forgets_59 ?_
      obtain ⟨q19, hf⟩ := op_x hf
      refine ck_iald (j := ((f_X5_c x1) + 1).toNatClampNeg) hx hb hK hP 1 0 rfl rfl q19 rfl dX5_forgets_60 ?_
      refine lv_icmp_ge (tgt := 68) hx hb dX5_forgets_61 (by decide) (fun c20 => ?_) (fun c20 => ?_)
      · replace hf := op_t c20 hf
        refine lv_iload_n hx hb dX5_forgets_68 rfl (lv_at hl 0 rfl) ?_
        refine lv_aload_n hx hb dX5_forgets_69 rfl (lv_at hl 2 rfl) ?_
        refine va_get (D := D) (ci := 5) (v := .ref a1) (C := RX5) (T := TX5) (N := 11) hx hb hts iX5 hown hK hP 0 rfl rfl 0 (by decide) w7 (fun _ h9 => h9) rfl dX5_forgets_70 ?_
        refine lv_iload_n hx hb dX5_forgets_73 rfl (lv_at hl 1 rfl) ?_
        refine lv_iconst (v := 1) hx hb dX5_forgets_74 (by decide) ?_
        refine lv_iadd hx hb dX5_forgets_75 ?_
        obtain ⟨q21, hf⟩ := op_x hf
        refine ck_iald (j := ((f_X5_c x1) + 1).toNatClampNeg) hx hb hK hP 1 0 rfl rfl q21 rfl dX5_forgets_76 ?_
        refine lv_isub hx hb dX5_forgets_77 ?_
        refine lv_iconst (v := 1) hx hb dX5_forgets_78 (by decide) ?_
        refine lv_iadd hx hb dX5_forgets_79 ?_
        exact hret _ _ _ _ _ () dX5_forgets_80 (op_k hf) hP hS
      · replace hf := op_f c20 hf
        refine lv_iconst (v := 0) hx hb dX5_forgets_64 (by decide) ?_
        refine lv_goto (tgt := 80) hx hb dX5_forgets_65 (by decide) ?_
        exact hret _ _ _ _ _ () dX5_forgets_80 (op_k hf) hP hS
set_option maxHeartbeats 4000000 in
set_option maxRecDepth 100000 in
theorem c_X5_worst (l : Launch) (D : va_G) (cI cC cK cO : ClassId) (h : Nat) (a1 : Nat) (a2 : Nat) (a3 : Nat) (a4 : Nat) (zs : Nat → Int32) (zb : Nat → Int32) (za : Nat → Int32) (zt : Nat → Int32) (zl : Int32) (zu : Int32) (zp : Int32) (zw : Int32) (zf : Int32) (zg : Int32) (zc : Int32) (K : Nat) (R : Int32) (hf : f_X5_worst K zs = some R) : KI l D (TY cI cC cK cO) E0 yX5_worst wsX5_worst 3 [.ref h] (wM cI h a1 a2 a3 a4 zs zb za zt zl zu zp zw zf zg zc) (fun (r : Int32) (u : Unit) => r = R) (fun u => (wM cI h a1 a2 a3 a4 zs zb za zt zl zu zp zw zf zg zc)) := by
  refine KI.ofI (cc := cX5_worst) (maxL := 4) (C := RX5) (by decide) rfl rfl (Nat.le_of_ble_eq_true rfl) ?_
  intro p e s m args below meth c A Q hx hb hml hts hown hP hK hD hA hE hS hret ls hl
  replace hl : lv_has ls 4 [(0, .ref h)] := hl
  have w7 := hts (.fieldLink RX5 7 "BlockClerksModel" "s" "[I") (by decide +kernel)
  have iX5 : ∀ w ∈ wsX50, w ∈ wsX5_worst := by decide +kernel
  have L_7 : ∀ (n : Nat)  (x1 : Int32) (x2 : Int32) (x3 : Int32) (hf : f_X5_worst_7 zs n x1 x2 x3 = some R) (H : Heap) (locs : List Loc) (ls : Array Slot), va_P D vwCl (wM cI h a1 a2 a3 a4 zs zb za zt zl zu zp zw zf zg zc) H → va_D A (wM cI h a1 a2 a3 a4 zs zb za zt zl zu zp zw zf zg zc) → va_S A s.heap H locs → lv_has ls 4 [(0, .ref h), (1, .int x1), (2, .int x2), (3, .int x3)] → W p l e (rm 3) s m args below meth c H locs 0 0 Q (F0 m 7 ls []) := by
    intro n
    induction n with
    | zero =>
      intro  x1 x2 x3 hf
      cases hf
    | succ n ih =>
      intro  x1 x2 x3 hf H locs ls hP hD hS hl
      rw [f_X5_worst_7] at hf
      refine lv_iload_n hx hb dX5_worst_7 rfl (lv_at hl 3 rfl) ?_
      refine lv_aload_n hx hb dX5_worst_8 rfl (lv_at hl 0 rfl) ?_
      refine va_get (D := D) (ci := 5) (v := .ref a1) (C := RX5) (T := TX5) (N := 11) hx hb hts iX5 hown hK hP 0 rfl rfl 0 (by decide) w7 (fun _ h9 => h9) rfl dX5_worst_9 ?_
      refine lv_iconst (v := 3) hx hb dX5_worst_12 (by decide) ?_
      refine ck_iald (j := 3) hx hb hK hP 1 0 rfl rfl (in_lit (by decide)) (by decide) dX5_worst_13 ?_
      refine lv_icmp_ge (tgt := 57) hx hb dX5_worst_14 (by decide) (fun c1 => ?_) (fun c1 => ?_)
      · replace hf := op_t c1 hf
        refine lv_iload_n hx hb dX5_worst_57 rfl (lv_at hl 1 rfl) ?_
        exact hret _ _ _ _ _ () dX5_worst_58 (op_k hf) hP hS
      · replace hf := op_f c1 hf
        refine lv_aload_n hx hb dX5_worst_17 rfl (lv_at hl 0 rfl) ?_
        refine lv_iload_n hx hb dX5_worst_18 rfl (lv_at hl 3 rfl) ?_
        obtain ⟨r2, h3, hf⟩ := op_b hf
        refine ck_VI (st := [.int x3, .ref h]) (rest := []) (As := [.int x3]) (C := RX5) (ci := 5) ⟨hx, hb, hml, hown, hts⟩ E0_ok (c_X5_forgets l D cI cC cK cO h a1 a2 a3 a4 zs zb za zt zl zu zp zw zf zg zc x3 _ h3) (cwV 1 hts gX5_worst_X5_forgets rfl rfl rfl hv_X5_forgets ⟨Nat.le_of_ble_eq_true rfl, Nat.le_of_ble_eq_true rfl⟩) hK hP hD hS hA hE [0, 1, 2, 3, 4] rfl rfl rfl rfl rfl (fun _ => rfl) rfl hl.1 rfl (Nat.le_of_ble_eq_true rfl) dX5_worst_19 ⟨Nat.zero_le _, Nat.zero_le _⟩ (fun r u H locs hw hP hD hS => ?_)
        cases hw
        replace hP : va_P D vwCl (wM cI h a1 a2 a3 a4 zs zb za zt zl zu zp zw zf zg zc) H := hP
        replace hD : va_D A (wM cI h a1 a2 a3 a4 zs zb za zt zl zu zp zw zf zg zc) := hD
        refine lv_iload_n hx hb dX5_worst_22 rfl (lv_at hl 2 rfl) ?_
        refine lv_icmp_le (tgt := 30) hx hb dX5_worst_23 (by decide) (fun c5 => ?_) (fun c5 => ?_)
        · replace hf := op_t c5 hf
          refine lv_iload_n hx hb dX5_worst_30 rfl (lv_at hl 1 rfl) ?_
          refine lv_istore_n (lv' := [(1, .int x1), (0, .ref h), (2, .int x2), (3, .int x3)]) hx hb dX5_worst_31 rfl hl (by decide) rfl (fun ls hl => ?_)
          refine lv_aload_n hx hb dX5_worst_32 rfl (lv_at hl 1 rfl) ?_
          refine lv_iload_n hx hb dX5_worst_33 rfl (lv_at hl 3 rfl) ?_
          obtain ⟨r6, h7, hf⟩ := op_b hf
          refine ck_VI (st := [.int x3, .ref h]) (rest := []) (As := [.int x3]) (C := RX5) (ci := 5) ⟨hx, hb, hml, hown, hts⟩ E0_ok (c_X5_forgets l D cI cC cK cO h a1 a2 a3 a4 zs zb za zt zl zu zp zw zf zg zc x3 _ h7) (cwV 1 hts gX5_worst_X5_forgets rfl rfl rfl hv_X5_forgets ⟨Nat.le_of_ble_eq_true rfl, Nat.le_of_ble_eq_true rfl⟩) hK hP hD hS hA hE [0, 1, 2, 3, 4] rfl rfl rfl rfl rfl (fun _ => rfl) rfl hl.1 rfl (Nat.le_of_ble_eq_true rfl) dX5_worst_34 ⟨Nat.zero_le _, Nat.zero_le _⟩ (fun r u H locs hw hP hD hS => ?_)
          cases hw
          replace hP : va_P D vwCl (wM cI h a1 a2 a3 a4 zs zb za zt zl zu zp zw zf zg zc) H := hP
          replace hD : va_D A (wM cI h a1 a2 a3 a4 zs zb za zt zl zu zp zw zf zg zc) := hD
          refine lv_iload_n hx hb dX5_worst_37 rfl (lv_at hl 2 rfl) ?_
          refine lv_icmp_le (tgt := 49) hx hb dX5_worst_38 (by decide) (fun c9 => ?_) (fun c9 => ?_)
          · replace hf := op_t c9 hf
            refine lv_iload_n hx hb dX5_worst_49 rfl (lv_at hl 2 rfl) ?_
            refine lv_istore_n (lv' := [(2, .int x2), (1, .int x1), (0, .ref h), (3, .int x3)]) hx hb dX5_worst_50 rfl hl (by decide) rfl (fun ls hl => ?_)
            refine lv_iinc (v := (x3 + 1)) (lv' := [(3, .int (x3 + 1)), (2, .int x2), (1, .int x1), (0, .ref h)]) hx hb dX5_worst_51 hl (k := 3) rfl rfl (by decide) rfl (fun ls hl => ?_)
            refine lv_goto (tgt := 7) hx hb dX5_worst_54 (by decide) ?_
            exact ih  x1 x2 (x3 + 1) hf _ _ _ hP hD hS (lv_sub hl [3, 2, 1, 0] rfl)
          · replace hf := op_f c9 hf
            refine lv_aload_n hx hb dX5_worst_41 rfl (lv_at hl 1 rfl) ?_
            refine lv_iload_n hx hb dX5_worst_42 rfl (lv_at hl 3 rfl) ?_
            obtain ⟨r10, h11, hf⟩ := op_b hf
            refine ck_VI (st := [.int x3, .ref h]) (rest := []) (As := [.int x3]) (C := RX5) (ci := 5) ⟨hx, hb, hml, hown, hts⟩ E0_ok (c_X5_forgets l D cI cC cK cO h a1 a2 a3 a4 zs zb za zt zl zu zp zw zf zg zc x3 _ h11) (cwV 1 hts gX5_worst_X5_forgets rfl rfl rfl hv_X5_forgets ⟨Nat.le_of_ble_eq_true rfl, Nat.le_of_ble_eq_true rfl⟩) hK hP hD hS hA hE [0, 1, 2, 3, 4] rfl rfl rfl rfl rfl (fun _ => rfl) rfl hl.1 rfl (Nat.le_of_ble_eq_true rfl) dX5_worst_43 ⟨Nat.zero_le _, Nat.zero_le _⟩ (fun r u H locs hw hP hD hS => ?_)
            cases hw
            replace hP : va_P D vwCl (wM cI h a1 a2 a3 a4 zs zb za zt zl zu zp zw zf zg zc) H := hP
            replace hD : va_D A (wM cI h a1 a2 a3 a4 zs zb za zt zl zu zp zw zf zg zc) := hD
            refine lv_goto (tgt := 50) hx hb dX5_worst_46 (by decide) ?_
            refine lv_istore_n (lv' := [(2, .int r10), (1, .int x1), (0, .ref h), (3, .int x3)]) hx hb dX5_worst_50 rfl hl (by decide) rfl (fun ls hl => ?_)
            refine lv_iinc (v := (x3 + 1)) (lv' := [(3, .int (x3 + 1)), (2, .int r10), (1, .int x1), (0, .ref h)]) hx hb dX5_worst_51 hl (k := 3) rfl rfl (by decide) rfl (fun ls hl => ?_)
            refine lv_goto (tgt := 7) hx hb dX5_worst_54 (by decide) ?_
            exact ih  x1 r10 (x3 + 1) hf _ _ _ hP hD hS (lv_sub hl [3, 2, 1, 0] rfl)
        · replace hf := op_f c5 hf
          refine lv_iload_n hx hb dX5_worst_26 rfl (lv_at hl 3 rfl) ?_
          refine lv_goto (tgt := 31) hx hb dX5_worst_27 (by decide) ?_
          refine lv_istore_n (lv' := [(1, .int x3), (0, .ref h), (2, .int x2), (3, .int x3)]) hx hb dX5_worst_31 rfl hl (by decide) rfl (fun ls hl => ?_)
          refine lv_aload_n hx hb dX5_worst_32 rfl (lv_at hl 1 rfl) ?_
          refine lv_iload_n hx hb dX5_worst_33 rfl (lv_at hl 3 rfl) ?_
          obtain ⟨r13, h14, hf⟩ := op_b hf
          refine ck_VI (st := [.int x3, .ref h]) (rest := []) (As := [.int x3]) (C := RX5) (ci := 5) ⟨hx, hb, hml, hown, hts⟩ E0_ok (c_X5_forgets l D cI cC cK cO h a1 a2 a3 a4 zs zb za zt zl zu zp zw zf zg zc x3 _ h14) (cwV 1 hts gX5_worst_X5_forgets rfl rfl rfl hv_X5_forgets ⟨Nat.le_of_ble_eq_true rfl, Nat.le_of_ble_eq_true rfl⟩) hK hP hD hS hA hE [0, 1, 2, 3, 4] rfl rfl rfl rfl rfl (fun _ => rfl) rfl hl.1 rfl (Nat.le_of_ble_eq_true rfl) dX5_worst_34 ⟨Nat.zero_le _, Nat.zero_le _⟩ (fun r u H locs hw hP hD hS => ?_)
          cases hw
          replace hP : va_P D vwCl (wM cI h a1 a2 a3 a4 zs zb za zt zl zu zp zw zf zg zc) H := hP
          replace hD : va_D A (wM cI h a1 a2 a3 a4 zs zb za zt zl zu zp zw zf zg zc) := hD
          refine lv_iload_n hx hb dX5_worst_37 rfl (lv_at hl 2 rfl) ?_
          refine lv_icmp_le (tgt := 49) hx hb dX5_worst_38 (by decide) (fun c16 => ?_) (fun c16 => ?_)
          · replace hf := op_t c16 hf
            refine lv_iload_n hx hb dX5_worst_49 rfl (lv_at hl 2 rfl) ?_
            refine lv_istore_n (lv' := [(2, .int x2), (1, .int x3), (0, .ref h), (3, .int x3)]) hx hb dX5_worst_50 rfl hl (by decide) rfl (fun ls hl => ?_)
            refine lv_iinc (v := (x3 + 1)) (lv' := [(3, .int (x3 + 1)), (2, .int x2), (1, .int x3), (0, .ref h)]) hx hb dX5_worst_51 hl (k := 3) rfl rfl (by decide) rfl (fun ls hl => ?_)
            refine lv_goto (tgt := 7) hx hb dX5_worst_54 (by decide) ?_
            exact ih  x3 x2 (x3 + 1) hf _ _ _ hP hD hS (lv_sub hl [3, 2, 1, 0] rfl)
          · replace hf := op_f c16 hf
            refine lv_aload_n hx hb dX5_worst_41 rfl (lv_at hl 1 rfl) ?_
            refine lv_iload_n hx hb dX5_worst_42 rfl (lv_at hl 3 rfl) ?_
            obtain ⟨r17, h18, hf⟩ := op_b hf
            refine ck_VI (st := [.int x3, .ref h]) (rest := []) (As := [.int x3]) (C := RX5) (ci := 5) ⟨hx, hb, hml, hown, hts⟩ E0_ok (c_X5_forgets l D cI cC cK cO h a1 a2 a3 a4 zs zb za zt zl zu zp zw zf zg zc x3 _ h18) (cwV 1 hts gX5_worst_X5_forgets rfl rfl rfl hv_X5_forgets ⟨Nat.le_of_ble_eq_true rfl, Nat.le_of_ble_eq_true rfl⟩) hK hP hD hS hA hE [0, 1, 2, 3, 4] rfl rfl rfl rfl rfl (fun _ => rfl) rfl hl.1 rfl (Nat.le_of_ble_eq_true rfl) dX5_worst_43 ⟨Nat.zero_le _, Nat.zero_le _⟩ (fun r u H locs hw hP hD hS => ?_)
            cases hw
            replace hP : va_P D vwCl (wM cI h a1 a2 a3 a4 zs zb za zt zl zu zp zw zf zg zc) H := hP
            replace hD : va_D A (wM cI h a1 a2 a3 a4 zs zb za zt zl zu zp zw zf zg zc) := hD
            refine lv_goto (tgt := 50) hx hb dX5_worst_46 (by decide) ?_
            refine lv_istore_n (lv' := [(2, .int r17), (1, .int x3), (0, .ref h), (3, .int x3)]) hx hb dX5_worst_50 rfl hl (by decide) rfl (fun ls hl => ?_)
            refine lv_iinc (v := (x3 + 1)) (lv' := [(3, .int (x3 + 1)), (2, .int r17), (1, .int x3), (0, .ref h)]) hx hb dX5_worst_51 hl (k := 3) rfl rfl (by decide) rfl (fun ls hl => ?_)
            refine lv_goto (tgt := 7) hx hb dX5_worst_54 (by decide) ?_
            exact ih  x3 r17 (x3 + 1) hf _ _ _ hP hD hS (lv_sub hl [3, 2, 1, 0] rfl)
  rw [f_X5_worst] at hf
  refine lv_bipush (v := (-4)) hx hb dX5_worst_0 (by decide) ?_
  refine lv_istore_n (lv' := [(1, .int (-4)), (0, .ref h)]) hx hb dX5_worst_2 rfl hl (by decide) rfl (fun ls hl => ?_)
  refine lv_iconst (v := 0) hx hb dX5_worst_3 (by decide) ?_
  refine lv_istore_n (lv' := [(2, .int 0), (1, .int (-4)), (0, .ref h)]) hx hb dX5_worst_4 rfl hl (by decide) rfl (fun ls hl => ?_)
  refine lv_iconst (v := 0) hx hb dX5_worst_5 (by decide) ?_
  refine lv_istore_n (lv' := [(3, .int 0), (2, .int 0), (1, .int (-4)), (0, .ref h)]) hx hb dX5_worst_6 rfl hl (by decide) rfl (fun ls hl => ?_)
  exact L_7 K  (-4) 0 0 hf _ _ _ hP hD hS (lv_sub hl [3, 2, 1, 0] rfl)
